def f_M_make (S : SS) (v1 : Int) : Option SS := w_b1 (f_M_use S v1) (fun S1_z => w_lt (si S1_z 192 5 0) (fun S3_z => (if gi S3_z 192 3 = 0 then w_b1 (f_M_layGap (f_M_layRow 43) S3_z 0) (fun S14_z => some S14_z) else w_b1 (f_M_layGap (f_M_layRow 43) S3_z 0) (fun S5_z => w_chk (i32 ((gi S5_z 192 3) - 1)) (w_b1 (f_M_layRow 43 S5_z 0 ((gi S5_z 192 3) - 1) (-1)) (fun S9_z => w_b1 (f_M_layGap (f_M_layRow 43) S9_z (gi S9_z 192 3)) (fun S12_z => some S12_z)))))))
set_option maxHeartbeats 4000000 in
set_option maxRecDepth 100000 in
theorem g_M_make (l : Launch) (D : va_G) (kc : Nat → ClassId) (b : Nat) (T S : SS) (x1 : Int32) (v1 : Int) (hx1 : x1.toInt = v1) (hS : rng S) {Sr : SS} (h : f_M_make S v1 = some Sr) : cV l yX13_make cX13_make 2 93 D kc b (jM b kc T) S [.ref (b + 192), .int x1] Sr := by
  refine g_beg_v (by decide) (Nat.le_of_ble_eq_true rfl) ?_
  intro p e s m args below meth c Q C ret hM ls hl
  obtain ⟨hx, hb, hml, hown, hts, hE, hbs⟩ := id C
  have hl : lv_has ls 2 [(0, .ref (b + 192)), (1, .int x1)] := hl
  unfold f_M_make at h
  refine lv_aload_n hx hb dX13_make_0 rfl (lv_at hl 0 rfl) ?_
  refine lv_iload_n hx hb dX13_make_1 rfl (lv_at hl 1 rfl) ?_
  obtain ⟨S1_z, cS1_z, h⟩ := w_b1E h
  refine g_callV (J := jM b kc T) (m_runV calV_X13_use wd_1384 (g_M_use l D kc b T S x1 v1 hx1 hS cS1_z) C hM (i := 192) (by omega) (e_192 b kc T S) rfl hl.1 rfl rfl (Nat.le_of_ble_eq_true rfl) dX13_make_2 ⟨Nat.le_of_ble_eq_true rfl, Nat.le_of_ble_eq_true rfl⟩ ⟨Nat.le_of_ble_eq_true rfl, Nat.le_of_ble_eq_true rfl⟩) hM (fun H locs hM hS => ?_)
  refine lv_aload_n hx hb dX13_make_5 rfl (lv_at hl 0 rfl) ?_
  refine lv_iconst (v := 0) hx hb dX13_make_6 (by decide) ?_
  refine g_put fl_X13_260_X13 C hM (i := 192) (by omega) (e_192 b kc T S1_z) rfl rfl (Nat.le_of_ble_eq_true rfl) (fs1 := [.ref (b + 193), .ref (b + 194), .ref (b + 195), .int (oi (gi S1_z 192 3)), .int (oi (gi S1_z 192 4)), .int 0, .ref (b + 196), .ref (b + 197), .int (oi (gi S1_z 192 8)), .int (oi (gi S1_z 192 9)), .int (oi (gi S1_z 192 10)), .int (oi (gi S1_z 192 11)), .int (oi (gi S1_z 192 12)), .int (oi (gi S1_z 192 13)), .int (oi (gi S1_z 192 14)), .int (oi (gi S1_z 192 15)), .ref (b + 198), .ref (b + 199), .ref (b + 200), .ref (b + 201), .ref (b + 202), .ref (b + 203), .ref (b + 204), .ref (b + 205), .ref (b + 206), .ref (b + 207), .ref (b + 208), .int (oi (gi S1_z 192 27)), .ref (b + 209), .ref (b + 210), .ref (b + 211), .ref (b + 212), .ref (b + 213), .ref (b + 214), .ref (b + 215), .int (oi (gi S1_z 192 35)), .int (oi (gi S1_z 192 36)), .int (oi (gi S1_z 192 37)), .int (oi (gi S1_z 192 38)), .ref (b + 216), .ref (b + 217), .ref (b + 218), .ref (b + 219)]) rfl (p_192_5 (show (0 : Int32).toInt = 0 by decide)) (rng_si hS (i32_of (show (0 : Int32).toInt = 0 by decide))) h dX13_make_7 (fun S3_z H locs h hM hS => ?_)
  refine lv_aload_n hx hb dX13_make_10 rfl (lv_at hl 0 rfl) ?_
  refine g_get fl_X13_150_X13 C hM (i := 192) (r := 192) (by omega) (e_192 b kc T S3_z) rfl hS dX13_make_11 (fun z4_z bz4_z => ?_)
  refine g_if_ne (tgt := 23) hx hb bz4_z h dX13_make_14 (by decide) (fun h => ?_) (fun h => ?_)
  · refine lv_aload_n hx hb dX13_make_23 rfl (lv_at hl 0 rfl) ?_
    refine lv_iconst (v := 0) hx hb dX13_make_24 (by decide) ?_
    obtain ⟨S5_z, cS5_z, h⟩ := w_b1E h
    refine g_callV (J := jM b kc T) (m_runV calV_X13_layGap wd_1388 (g_M_layGap l D kc b T (2 * 43 + 5) (by omega) (f_M_layRow 43) (g_M_layRow l D kc b T 43) S3_z 0 0 (show (0 : Int32).toInt = 0 by decide) hS cS5_z) C hM (i := 192) (by omega) (e_192 b kc T S3_z) rfl hl.1 rfl rfl (Nat.le_of_ble_eq_true rfl) dX13_make_25 ⟨Nat.le_of_ble_eq_true rfl, Nat.le_of_ble_eq_true rfl⟩ ⟨Nat.le_of_ble_eq_true rfl, Nat.le_of_ble_eq_true rfl⟩) hM (fun H locs hM hS => ?_)
    refine lv_aload_n hx hb dX13_make_28 rfl (lv_at hl 0 rfl) ?_
    refine lv_iconst (v := 0) hx hb dX13_make_29 (by decide) ?_
    refine lv_aload_n hx hb dX13_make_30 rfl (lv_at hl 0 rfl) ?_
    refine g_get fl_X13_150_X13 C hM (i := 192) (r := 192) (by omega) (e_192 b kc T S5_z) rfl hS dX13_make_31 (fun z7_z bz7_z => ?_)
    refine lv_iconst (v := 1) hx hb dX13_make_34 (by decide) ?_
    refine g_isub hx hb bz7_z (show (1 : Int32).toInt = 1 by decide) h dX13_make_35 (fun z8_z bz8_z h => ?_)
    refine lv_iconst (v := (-1)) hx hb dX13_make_36 (by decide) ?_
    obtain ⟨S9_z, cS9_z, h⟩ := w_b1E h
    refine g_callV (J := jM b kc T) (m_runV calV_X13_layRow wd_1400 (g_M_layRow l D kc b T 43 S5_z 0 0 (show (0 : Int32).toInt = 0 by decide) z8_z ((gi S5_z 192 3) - 1) bz8_z (-1) (-1) (show ((-1) : Int32).toInt = (-1) by decide) hS _ cS9_z) C hM (i := 192) (by omega) (e_192 b kc T S5_z) rfl hl.1 rfl rfl (Nat.le_of_ble_eq_true rfl) dX13_make_37 ⟨Nat.le_of_ble_eq_true rfl, Nat.le_of_ble_eq_true rfl⟩ ⟨Nat.le_of_ble_eq_true rfl, Nat.le_of_ble_eq_true rfl⟩) hM (fun H locs hM hS => ?_)
    refine lv_aload_n hx hb dX13_make_40 rfl (lv_at hl 0 rfl) ?_
    refine lv_aload_n hx hb dX13_make_41 rfl (lv_at hl 0 rfl) ?_
    refine g_get fl_X13_150_X13 C hM (i := 192) (r := 192) (by omega) (e_192 b kc T S9_z) rfl hS dX13_make_42 (fun z11_z bz11_z => ?_)
    obtain ⟨S12_z, cS12_z, h⟩ := w_b1E h
    refine g_callV (J := jM b kc T) (m_runV calV_X13_layGap wd_1388 (g_M_layGap l D kc b T (2 * 43 + 5) (by omega) (f_M_layRow 43) (g_M_layRow l D kc b T 43) S9_z z11_z (gi S9_z 192 3) bz11_z hS cS12_z) C hM (i := 192) (by omega) (e_192 b kc T S9_z) rfl hl.1 rfl rfl (Nat.le_of_ble_eq_true rfl) dX13_make_45 ⟨Nat.le_of_ble_eq_true rfl, Nat.le_of_ble_eq_true rfl⟩ ⟨Nat.le_of_ble_eq_true rfl, Nat.le_of_ble_eq_true rfl⟩) hM (fun H locs hM hS => ?_)
    exact ret S12_z _ _ _ _ (Option.some.inj h) hM hS dX13_make_48
  · refine lv_aload_n hx hb dX13_make_17 rfl (lv_at hl 0 rfl) ?_
    refine lv_iconst (v := 0) hx hb dX13_make_18 (by decide) ?_
    obtain ⟨S14_z, cS14_z, h⟩ := w_b1E h
    refine g_callV (J := jM b kc T) (m_runV calV_X13_layGap wd_1388 (g_M_layGap l D kc b T (2 * 43 + 5) (by omega) (f_M_layRow 43) (g_M_layRow l D kc b T 43) S3_z 0 0 (show (0 : Int32).toInt = 0 by decide) hS cS14_z) C hM (i := 192) (by omega) (e_192 b kc T S3_z) rfl hl.1 rfl rfl (Nat.le_of_ble_eq_true rfl) dX13_make_19 ⟨Nat.le_of_ble_eq_true rfl, Nat.le_of_ble_eq_true rfl⟩ ⟨Nat.le_of_ble_eq_true rfl, Nat.le_of_ble_eq_true rfl⟩) hM (fun H locs hM hS => ?_)
    exact ret S14_z _ _ _ _ (Option.some.inj h) hM hS dX13_make_22

def f_M_isText (S : SS) (v0 : Int) : Option Int := w_chk (f_M_in S v0 0 2 = 0 ∨ f_M_in S v0 0 2 = 1) (some (f_M_in S v0 0 2))
set_option maxHeartbeats 4000000 in
set_option maxRecDepth 100000 in
theorem g_M_isText (l : Launch) (D : va_G) (kc : Nat → ClassId) (b : Nat) (T S : SS) (x0 : Int32) (v0 : Int) (hx0 : x0.toInt = v0) (hS : rng S) {vr : Int} (h : f_M_isText S v0 = some vr) : cI l yX13_isText cX13_isText 1 .boolean 2 D kc b (jM b kc T) S [.int x0] vr S := by
  refine g_beg_z (by decide) (Nat.le_of_ble_eq_true rfl) ?_
  intro p e s m args below meth c Q C ret hM ls hl
  obtain ⟨hx, hb, hml, hown, hts, hE, hbs⟩ := id C
  have hl : lv_has ls 1 [(0, .int x0)] := hl
  unfold f_M_isText at h
  refine lv_iload_n hx hb dX13_isText_0 rfl (lv_at hl 0 rfl) ?_
  refine g_i2l (a := v0) hx hb hx0 dX13_isText_1 (fun c1_z => ?_)
  refine lv_lconst (v := 0) hx hb dX13_isText_2 (by decide) ?_
  refine lv_ldc2 (v := 2) hx hb hown (hts _ wd_1368) dX13_isText_3 ?_
  refine g_callI (J := jM b kc T) (m_runS calS_X13_in wd_1221 (g_M_in l D kc b T S (i2l v0) v0 c1_z 0 0 (show (0 : Int64).toInt = 0 by decide) 2 2 (show (2 : Int64).toInt = 2 by decide) hS rfl) C hM hl.1 rfl rfl (Nat.le_of_ble_eq_true rfl) dX13_isText_6 ⟨Nat.le_of_ble_eq_true rfl, Nat.le_of_ble_eq_true rfl⟩ ⟨Nat.le_of_ble_eq_true rfl, Nat.le_of_ble_eq_true rfl⟩) hM (fun z2_z H locs bz2_z hM hS => ?_)
  obtain ⟨c3_z, h⟩ := w_chkE h
  exact ret S _ _ _ _ z2_z (bz2_z.trans (Option.some.inj h)) (by rw [← (Option.some.inj h)]; exact c3_z) rfl hM hS dX13_isText_9

def f_M_wordsOf_10 (v1 : Int) (S : SS) : Option (Int × SS) := (if v1 = 0 then some (gi S 192 3, S) else (if v1 = 1 then some (gi S 192 4, S) else some (gi S 192 5, S)))
def f_M_wordsOf (S : SS) (v1 : Int) : Option (Int × SS) := (if v1 = 2 then w_b1 (f_M_make S 0) (fun S1_z => f_M_wordsOf_10 v1 S1_z ) else f_M_wordsOf_10 v1 S )
set_option maxHeartbeats 4000000 in
set_option maxRecDepth 100000 in
theorem g_M_wordsOf (l : Launch) (D : va_G) (kc : Nat → ClassId) (b : Nat) (T S : SS) (x1 : Int32) (v1 : Int) (hx1 : x1.toInt = v1) (hS : rng S) {vr : Int} {Sr : SS} (h : f_M_wordsOf S v1 = some (vr, Sr)) : cI l yX13_wordsOf cX13_wordsOf 2 .int 94 D kc b (jM b kc T) S [.ref (b + 192), .int x1] vr Sr := by
  refine g_beg_i (by decide) (Nat.le_of_ble_eq_true rfl) ?_
  intro p e s m args below meth c Q C ret hM ls hl
  obtain ⟨hx, hb, hml, hown, hts, hE, hbs⟩ := id C
  have hl : lv_has ls 2 [(0, .ref (b + 192)), (1, .int x1)] := hl
  unfold f_M_wordsOf at h
  have B10 : ∀ (S : SS) (H : Heap) (locs : List Loc) (ls : Array Slot), rng S → mS D b s 220 (jM b kc T S) H locs → lv_has ls 2 [(0, .ref (b + 192)), (1, .int x1)] → f_M_wordsOf_10 v1 S = some (vr, Sr) → W p l e (mR 94 0 0) s m args below meth c H locs 0 0 Q (F0 m 10 ls []) := by
    intro S H locs ls hS hM hl h
    unfold f_M_wordsOf_10 at h
    refine lv_iload_n hx hb dX13_wordsOf_10 rfl (lv_at hl 1 rfl) ?_
    refine g_if_ne (tgt := 21) hx hb hx1 h dX13_wordsOf_11 (by decide) (fun h => ?_) (fun h => ?_)
    · refine lv_iload_n hx hb dX13_wordsOf_21 rfl (lv_at hl 1 rfl) ?_
      refine lv_iconst (v := 1) hx hb dX13_wordsOf_22 (by decide) ?_
      refine g_icmp_ne (tgt := 33) hx hb hx1 (show (1 : Int32).toInt = 1 by decide) h dX13_wordsOf_23 (by decide) (fun h => ?_) (fun h => ?_)
      · refine lv_aload_n hx hb dX13_wordsOf_33 rfl (lv_at hl 0 rfl) ?_
        refine g_get fl_X13_260_X13 C hM (i := 192) (r := 192) (by omega) (e_192 b kc T S) rfl hS dX13_wordsOf_34 (fun z1_z bz1_z => ?_)
        exact ret S _ _ _ _ z1_z (bz1_z.trans (r_1 h)) (r_2 h) hM hS dX13_wordsOf_37
      · refine lv_aload_n hx hb dX13_wordsOf_26 rfl (lv_at hl 0 rfl) ?_
        refine g_get fl_X13_156_X13 C hM (i := 192) (r := 192) (by omega) (e_192 b kc T S) rfl hS dX13_wordsOf_27 (fun z2_z bz2_z => ?_)
        refine lv_goto (tgt := 37) hx hb dX13_wordsOf_30 (by decide) ?_
        exact ret S _ _ _ _ z2_z (bz2_z.trans (r_1 h)) (r_2 h) hM hS dX13_wordsOf_37
    · refine lv_aload_n hx hb dX13_wordsOf_14 rfl (lv_at hl 0 rfl) ?_
      refine g_get fl_X13_150_X13 C hM (i := 192) (r := 192) (by omega) (e_192 b kc T S) rfl hS dX13_wordsOf_15 (fun z3_z bz3_z => ?_)
      refine lv_goto (tgt := 37) hx hb dX13_wordsOf_18 (by decide) ?_
      exact ret S _ _ _ _ z3_z (bz3_z.trans (r_1 h)) (r_2 h) hM hS dX13_wordsOf_37
  refine lv_iload_n hx hb dX13_wordsOf_0 rfl (lv_at hl 1 rfl) ?_
  refine lv_iconst (v := 2) hx hb dX13_wordsOf_1 (by decide) ?_
  refine g_icmp_ne (tgt := 10) hx hb hx1 (show (2 : Int32).toInt = 2 by decide) h dX13_wordsOf_2 (by decide) (fun h => ?_) (fun h => ?_)
  · exact B10 S _ _ _ hS hM (lv_sub hl [0, 1] rfl) h
  · refine lv_aload_n hx hb dX13_wordsOf_5 rfl (lv_at hl 0 rfl) ?_
    refine lv_iconst (v := 0) hx hb dX13_wordsOf_6 (by decide) ?_
    obtain ⟨S1_z, cS1_z, h⟩ := w_b1E h
    refine g_callV (J := jM b kc T) (m_runV calV_X13_make wd_1380 (g_M_make l D kc b T S 0 0 (show (0 : Int32).toInt = 0 by decide) hS cS1_z) C hM (i := 192) (by omega) (e_192 b kc T S) rfl hl.1 rfl rfl (Nat.le_of_ble_eq_true rfl) dX13_wordsOf_7 ⟨Nat.le_of_ble_eq_true rfl, Nat.le_of_ble_eq_true rfl⟩ ⟨Nat.le_of_ble_eq_true rfl, Nat.le_of_ble_eq_true rfl⟩) hM (fun H locs hM hS => ?_)
    exact B10 S1_z _ _ _ hS hM (lv_sub hl [0, 1] rfl) h

def f_M_wordAt (S : SS) (v1 : Int) (v2 : Int) : Option Int64 := (if v1 = 0 then w_chk (0 ≤ v2 ∧ v2 < 60) (some (gl S 193 (v2).toNat)) else (if v1 = 1 then w_chk (0 ≤ v2 ∧ v2 < 150) (some (gl S 194 (v2).toNat)) else w_chk (0 ≤ v2 ∧ v2 < 320) (some (gl S 195 (v2).toNat))))
set_option maxHeartbeats 4000000 in
set_option maxRecDepth 100000 in
theorem g_M_wordAt (l : Launch) (D : va_G) (kc : Nat → ClassId) (b : Nat) (T S : SS) (x1 : Int32) (v1 : Int) (hx1 : x1.toInt = v1) (x2 : Int32) (v2 : Int) (hx2 : x2.toInt = v2) (hS : rng S) {wr : Int64} (h : f_M_wordAt S v1 v2 = some wr) : cL l yX13_wordAt cX13_wordAt 3 1 D kc b (jM b kc T) S [.ref (b + 192), .int x1, .int x2] wr S := by
  refine g_beg_l (by decide) (Nat.le_of_ble_eq_true rfl) ?_
  intro p e s m args below meth c Q C ret hM ls hl
  obtain ⟨hx, hb, hml, hown, hts, hE, hbs⟩ := id C
  have hl : lv_has ls 3 [(0, .ref (b + 192)), (1, .int x1), (2, .int x2)] := hl
  unfold f_M_wordAt at h
  refine lv_iload_n hx hb dX13_wordAt_0 rfl (lv_at hl 1 rfl) ?_
  refine g_if_ne (tgt := 13) hx hb hx1 h dX13_wordAt_1 (by decide) (fun h => ?_) (fun h => ?_)
  · refine lv_iload_n hx hb dX13_wordAt_13 rfl (lv_at hl 1 rfl) ?_
    refine lv_iconst (v := 1) hx hb dX13_wordAt_14 (by decide) ?_
    refine g_icmp_ne (tgt := 27) hx hb hx1 (show (1 : Int32).toInt = 1 by decide) h dX13_wordAt_15 (by decide) (fun h => ?_) (fun h => ?_)
    · refine lv_aload_n hx hb dX13_wordAt_27 rfl (lv_at hl 0 rfl) ?_
      refine m_get fl_X13_64_X13 C hM (i := 192) (by omega) (e_192 b kc T S) (v := .ref (b + 195)) rfl dX13_wordAt_28 ?_
      refine lv_iload_n hx hb dX13_wordAt_31 rfl (lv_at hl 2 rfl) ?_
      refine g_lald C hM (j := 195) (by omega) (jK_M b kc T (by omega)) (a_195 b kc) hx2 (B := 320) rfl h dX13_wordAt_32 (fun h => ?_)
      exact ret S _ _ _ _ (gl S 195 (v2).toNat) (Option.some.inj h) rfl hM hS dX13_wordAt_33
    · refine lv_aload_n hx hb dX13_wordAt_18 rfl (lv_at hl 0 rfl) ?_
      refine m_get fl_X13_61_X13 C hM (i := 192) (by omega) (e_192 b kc T S) (v := .ref (b + 194)) rfl dX13_wordAt_19 ?_
      refine lv_iload_n hx hb dX13_wordAt_22 rfl (lv_at hl 2 rfl) ?_
      refine g_lald C hM (j := 194) (by omega) (jK_M b kc T (by omega)) (a_194 b kc) hx2 (B := 150) rfl h dX13_wordAt_23 (fun h => ?_)
      refine lv_goto (tgt := 33) hx hb dX13_wordAt_24 (by decide) ?_
      exact ret S _ _ _ _ (gl S 194 (v2).toNat) (Option.some.inj h) rfl hM hS dX13_wordAt_33
  · refine lv_aload_n hx hb dX13_wordAt_4 rfl (lv_at hl 0 rfl) ?_
    refine m_get fl_X13_58_X13 C hM (i := 192) (by omega) (e_192 b kc T S) (v := .ref (b + 193)) rfl dX13_wordAt_5 ?_
    refine lv_iload_n hx hb dX13_wordAt_8 rfl (lv_at hl 2 rfl) ?_
    refine g_lald C hM (j := 193) (by omega) (jK_M b kc T (by omega)) (a_193 b kc) hx2 (B := 60) rfl h dX13_wordAt_9 (fun h => ?_)
    refine lv_goto (tgt := 33) hx hb dX13_wordAt_10 (by decide) ?_
    exact ret S _ _ _ _ (gl S 193 (v2).toNat) (Option.some.inj h) rfl hM hS dX13_wordAt_33

def f_M_word (S : SS) (v1 : Int) (v2 : Int) : Option (Int64 × SS) := w_b1 (f_M_isText S v1) (fun r1_z => (if r1_z = 0 then some (0, S) else w_b2 (f_M_wordsOf S v1) (fun r5_z S4_z => w_chk (i64 (r5_z - 1)) ((if f_M_in S4_z v2 0 (r5_z - 1) = 0 then some (0, S4_z) else w_b1 (f_M_wordAt S4_z v1 v2) (fun w10_z => some (w10_z, S4_z)))))))
set_option maxHeartbeats 4000000 in
set_option maxRecDepth 100000 in
theorem g_M_word (l : Launch) (D : va_G) (kc : Nat → ClassId) (b : Nat) (T S : SS) (x1 : Int32) (v1 : Int) (hx1 : x1.toInt = v1) (x2 : Int32) (v2 : Int) (hx2 : x2.toInt = v2) (hS : rng S) {wr : Int64} {Sr : SS} (h : f_M_word S v1 v2 = some (wr, Sr)) : cL l yX13_word cX13_word 3 95 D kc b (jM b kc T) S [.ref (b + 192), .int x1, .int x2] wr Sr := by
  refine g_beg_l (by decide) (Nat.le_of_ble_eq_true rfl) ?_
  intro p e s m args below meth c Q C ret hM ls hl
  obtain ⟨hx, hb, hml, hown, hts, hE, hbs⟩ := id C
  have hl : lv_has ls 3 [(0, .ref (b + 192)), (1, .int x1), (2, .int x2)] := hl
  unfold f_M_word at h
  refine lv_iload_n hx hb dX13_word_0 rfl (lv_at hl 1 rfl) ?_
  obtain ⟨r1_z, cr1_z, h⟩ := w_b1E h
  refine g_callI (J := jM b kc T) (m_runS calS_X13_isText wd_1373 (g_M_isText l D kc b T S x1 v1 hx1 hS cr1_z) C hM hl.1 rfl rfl (Nat.le_of_ble_eq_true rfl) dX13_word_1 ⟨Nat.le_of_ble_eq_true rfl, Nat.le_of_ble_eq_true rfl⟩ ⟨Nat.le_of_ble_eq_true rfl, Nat.le_of_ble_eq_true rfl⟩) hM (fun z2_z H locs bz2_z hM hS => ?_)
  refine g_if_eq (tgt := 33) hx hb bz2_z h dX13_word_4 (by decide) (fun h => ?_) (fun h => ?_)
  · refine lv_lconst (v := 0) hx hb dX13_word_33 (by decide) ?_
    exact ret S _ _ _ _ 0 (r_1 h) (r_2 h) hM hS dX13_word_34
  · refine lv_iload_n hx hb dX13_word_7 rfl (lv_at hl 2 rfl) ?_
    refine g_i2l (a := v2) hx hb hx2 dX13_word_8 (fun c3_z => ?_)
    refine lv_lconst (v := 0) hx hb dX13_word_9 (by decide) ?_
    refine lv_aload_n hx hb dX13_word_10 rfl (lv_at hl 0 rfl) ?_
    refine lv_iload_n hx hb dX13_word_11 rfl (lv_at hl 1 rfl) ?_
    obtain ⟨r5_z, S4_z, cr5_z, h⟩ := w_b2E h
    refine g_callI (J := jM b kc T) (m_runV calV_X13_wordsOf wd_1376 (g_M_wordsOf l D kc b T S x1 v1 hx1 hS cr5_z) C hM (i := 192) (by omega) (e_192 b kc T S) rfl hl.1 rfl rfl (Nat.le_of_ble_eq_true rfl) dX13_word_12 ⟨Nat.le_of_ble_eq_true rfl, Nat.le_of_ble_eq_true rfl⟩ ⟨Nat.le_of_ble_eq_true rfl, Nat.le_of_ble_eq_true rfl⟩) hM (fun z6_z H locs bz6_z hM hS => ?_)
    refine g_i2l (a := r5_z) hx hb bz6_z dX13_word_15 (fun c7_z => ?_)
    refine lv_lconst (v := 1) hx hb dX13_word_16 (by decide) ?_
    obtain ⟨cz8_z, h⟩ := w_chkE h
    refine g_lsub hx hb c7_z (show (1 : Int64).toInt = 1 by decide) cz8_z.1 cz8_z.2 dX13_word_17 (fun z8_z bz8_z => ?_)
    refine g_callI (J := jM b kc T) (m_runS calS_X13_in wd_1221 (g_M_in l D kc b T S4_z (i2l v2) v2 c3_z 0 0 (show (0 : Int64).toInt = 0 by decide) z8_z (r5_z - 1) bz8_z hS rfl) C hM hl.1 rfl rfl (Nat.le_of_ble_eq_true rfl) dX13_word_18 ⟨Nat.le_of_ble_eq_true rfl, Nat.le_of_ble_eq_true rfl⟩ ⟨Nat.le_of_ble_eq_true rfl, Nat.le_of_ble_eq_true rfl⟩) hM (fun z9_z H locs bz9_z hM hS => ?_)
    refine g_if_eq (tgt := 33) hx hb bz9_z h dX13_word_21 (by decide) (fun h => ?_) (fun h => ?_)
    · refine lv_lconst (v := 0) hx hb dX13_word_33 (by decide) ?_
      exact ret S4_z _ _ _ _ 0 (r_1 h) (r_2 h) hM hS dX13_word_34
    · refine lv_aload_n hx hb dX13_word_24 rfl (lv_at hl 0 rfl) ?_
      refine lv_iload_n hx hb dX13_word_25 rfl (lv_at hl 1 rfl) ?_
      refine lv_iload_n hx hb dX13_word_26 rfl (lv_at hl 2 rfl) ?_
      obtain ⟨w10_z, cw10_z, h⟩ := w_b1E h
      refine g_callL (J := jM b kc T) (m_runV calV_X13_wordAt wd_1420 (g_M_wordAt l D kc b T S4_z x1 v1 hx1 x2 v2 hx2 hS cw10_z) C hM (i := 192) (by omega) (e_192 b kc T S4_z) rfl hl.1 rfl rfl (Nat.le_of_ble_eq_true rfl) dX13_word_27 ⟨Nat.le_of_ble_eq_true rfl, Nat.le_of_ble_eq_true rfl⟩ ⟨Nat.le_of_ble_eq_true rfl, Nat.le_of_ble_eq_true rfl⟩) hM (fun z11_z H locs bz11_z hM hS => ?_)
      have ez11_z := bz11_z.symm
      subst ez11_z
      refine lv_goto (tgt := 34) hx hb dX13_word_30 (by decide) ?_
      exact ret S4_z _ _ _ _ w10_z (r_1 h) (r_2 h) hM hS dX13_word_34

def f_M_at (S : SS) (v0 : Int) (v1 : Int) : Option Int := w_chk (i32 (321 * v0)) (w_chk (i32 ((321 * v0) + v1)) (some ((321 * v0) + v1)))
set_option maxHeartbeats 4000000 in
set_option maxRecDepth 100000 in
theorem g_M_at (l : Launch) (D : va_G) (kc : Nat → ClassId) (b : Nat) (T S : SS) (x0 : Int32) (v0 : Int) (hx0 : x0.toInt = v0) (x1 : Int32) (v1 : Int) (hx1 : x1.toInt = v1) (hS : rng S) {vr : Int} (h : f_M_at S v0 v1 = some vr) : cI l yX13_at cX13_at 2 .int 1 D kc b (jM b kc T) S [.int x0, .int x1] vr S := by
  refine g_beg_i (by decide) (Nat.le_of_ble_eq_true rfl) ?_
  intro p e s m args below meth c Q C ret hM ls hl
  obtain ⟨hx, hb, hml, hown, hts, hE, hbs⟩ := id C
  have hl : lv_has ls 2 [(0, .int x0), (1, .int x1)] := hl
  unfold f_M_at at h
  refine lv_sipush (v := 321) hx hb dX13_at_0 (by decide) ?_
  refine lv_iload_n hx hb dX13_at_3 rfl (lv_at hl 0 rfl) ?_
  refine g_imul hx hb (show (321 : Int32).toInt = 321 by decide) hx0 h dX13_at_4 (fun z1_z bz1_z h => ?_)
  refine lv_iload_n hx hb dX13_at_5 rfl (lv_at hl 1 rfl) ?_
  refine g_iadd hx hb bz1_z hx1 h dX13_at_6 (fun z2_z bz2_z h => ?_)
  exact ret S _ _ _ _ z2_z (bz2_z.trans (Option.some.inj h)) rfl hM hS dX13_at_7

def f_M_apart_140 (v1 : Int) (v2 : Int) (v3 : Int) (v4 : Int) (kf3_ : SS → Int → Option (Int × SS)) (kf12_ : SS → Int → Int → Option (Int × SS)) (S : SS) (v5_ : Int) (v6_ : Int) (v7_ : Int) : Option (Int × SS) := w_b1 (f_M_at S v5_ v6_) (fun r1_z => w_chk (0 ≤ r1_z ∧ r1_z < 103041) (w_lt (si S 215 (r1_z).toNat v7_) (fun S3_z => w_chk (i32 (v6_ + (-1))) (kf12_ S3_z v5_ (v6_ + (-1))))))
def f_M_apart_85 (v1 : Int) (v2 : Int) (v3 : Int) (v4 : Int) (kf3_ : SS → Int → Option (Int × SS)) (kf12_ : SS → Int → Int → Option (Int × SS)) (S : SS) (v5_ : Int) (v6_ : Int) (vt0_ : Int) : Option (Int × SS) := (if v2 ≤ v5_ then f_M_apart_140 v1 v2 v3 v4 kf3_ kf12_ S v5_ v6_ vt0_ else (if v4 ≤ v6_ then f_M_apart_140 v1 v2 v3 v4 kf3_ kf12_ S v5_ v6_ vt0_ else w_chk (i32 (v5_ + 1)) (w_b1 (f_M_at S (v5_ + 1) v6_) (fun r2_z => w_chk (0 ≤ r2_z ∧ r2_z < 103041) (w_chk (i32 (v6_ + 1)) (w_b1 (f_M_at S v5_ (v6_ + 1)) (fun r6_z => w_chk (0 ≤ r6_z ∧ r6_z < 103041) (w_chk (i32 (1 + (min (gi S 215 (r2_z).toNat) (gi S 215 (r6_z).toNat)))) (f_M_apart_140 v1 v2 v3 v4 kf3_ kf12_ S v5_ v6_ (min vt0_ (1 + (min (gi S 215 (r2_z).toNat) (gi S 215 (r6_z).toNat)))))))))))))
def f_M_apart_84 (v1 : Int) (v2 : Int) (v3 : Int) (v4 : Int) (kf3_ : SS → Int → Option (Int × SS)) (kf12_ : SS → Int → Int → Option (Int × SS)) (S : SS) (v5_ : Int) (v6_ : Int) (vt0_ : Int) (vt1_ : Int) : Option (Int × SS) := w_chk (i32 (vt1_ + vt0_)) (f_M_apart_85 v1 v2 v3 v4 kf3_ kf12_ S v5_ v6_ (vt1_ + vt0_))
def f_M_apart_12_b (v1 : Int) (v2 : Int) (v3 : Int) (v4 : Int) (kf3_ : SS → Int → Option (Int × SS)) (kf12_ : SS → Int → Int → Option (Int × SS)) (S : SS) (v5_ : Int) (v6_ : Int) : Option (Int × SS) := (if v6_ < 0 then w_chk (i32 (v5_ + (-1))) (kf3_ S (v5_ + (-1))) else (if v5_ = v2 then w_chk (i32 (v4 - v6_)) (f_M_apart_85 v1 v2 v3 v4 kf3_ kf12_ S v5_ v6_ (v4 - v6_)) else (if v6_ = v4 then w_chk (i32 (v2 - v5_)) (f_M_apart_85 v1 v2 v3 v4 kf3_ kf12_ S v5_ v6_ (v2 - v5_)) else w_chk (i32 (v5_ + 1)) (w_chk (i32 (v6_ + 1)) (w_b1 (f_M_at S (v5_ + 1) (v6_ + 1)) (fun r4_z => w_chk (0 ≤ r4_z ∧ r4_z < 103041) (w_b1 (f_M_wordAt S v1 v5_) (fun w7_z => w_b1 (f_M_wordAt S v3 v6_) (fun w9_z => (if w7_z = w9_z then f_M_apart_84 v1 v2 v3 v4 kf3_ kf12_ S v5_ v6_ 0 (gi S 215 (r4_z).toNat) else f_M_apart_84 v1 v2 v3 v4 kf3_ kf12_ S v5_ v6_ 1 (gi S 215 (r4_z).toNat)))))))))))
def f_M_apart_12 (v1 : Int) (v2 : Int) (v3 : Int) (v4 : Int) (kf3_ : SS → Int → Option (Int × SS)) : Nat → SS → Int → Int → Option (Int × SS)
  | 0 => fun _ _ _ => none
  | n + 1 => f_M_apart_12_b v1 v2 v3 v4 kf3_ (f_M_apart_12 v1 v2 v3 v4 kf3_ n)
def f_M_apart_3_b (v1 : Int) (v2 : Int) (v3 : Int) (v4 : Int) (kf3_ : SS → Int → Option (Int × SS)) (S : SS) (v5_ : Int) : Option (Int × SS) := (if v5_ < 0 then some (gi S 215 0, S) else f_M_apart_12 v1 v2 v3 v4 kf3_ FU S v5_ v4)
def f_M_apart_3 (v1 : Int) (v2 : Int) (v3 : Int) (v4 : Int) : Nat → SS → Int → Option (Int × SS)
  | 0 => fun _ _ => none
  | n + 1 => f_M_apart_3_b v1 v2 v3 v4 (f_M_apart_3 v1 v2 v3 v4 n)
def f_M_apart (S : SS) (v1 : Int) (v2 : Int) (v3 : Int) (v4 : Int) : Option (Int × SS) := f_M_apart_3 v1 v2 v3 v4 FU S v2
set_option maxHeartbeats 4000000 in
set_option maxRecDepth 100000 in
theorem g_M_apart (l : Launch) (D : va_G) (kc : Nat → ClassId) (b : Nat) (T S : SS) (x1 : Int32) (v1 : Int) (hx1 : x1.toInt = v1) (x2 : Int32) (v2 : Int) (hx2 : x2.toInt = v2) (x3 : Int32) (v3 : Int) (hx3 : x3.toInt = v3) (x4 : Int32) (v4 : Int) (hx4 : x4.toInt = v4) (hS : rng S) {vr : Int} {Sr : SS} (h : f_M_apart S v1 v2 v3 v4 = some (vr, Sr)) : cI l yX13_apart cX13_apart 8 .int 2 D kc b (jM b kc T) S [.ref (b + 192), .int x1, .int x2, .int x3, .int x4] vr Sr := by
  refine g_beg_i (by decide) (Nat.le_of_ble_eq_true rfl) ?_
  intro p e s m args below meth c Q C ret hM ls hl
  obtain ⟨hx, hb, hml, hown, hts, hE, hbs⟩ := id C
  have hl : lv_has ls 8 [(0, .ref (b + 192)), (1, .int x1), (2, .int x2), (3, .int x3), (4, .int x4)] := hl
  unfold f_M_apart at h
  have B140 : ∀ (kf3_ : SS → Int → Option (Int × SS)) (hkf3_ : ∀ (S : SS) (H : Heap) (locs : List Loc) (ls : Array Slot) (x5_ : Int32) (v5_ : Int) (hx5_ : x5_.toInt = v5_), rng S → mS D b s 220 (jM b kc T S) H locs → lv_has ls 8 [(0, .ref (b + 192)), (1, .int x1), (2, .int x2), (3, .int x3), (4, .int x4), (5, .int x5_)] → kf3_ S v5_ = some (vr, Sr) → W p l e (mR 2 0 0) s m args below meth c H locs 0 0 Q (F0 m 3 ls [])) (kf12_ : SS → Int → Int → Option (Int × SS)) (hkf12_ : ∀ (S : SS) (H : Heap) (locs : List Loc) (ls : Array Slot) (x5_ : Int32) (v5_ : Int) (hx5_ : x5_.toInt = v5_) (x6_ : Int32) (v6_ : Int) (hx6_ : x6_.toInt = v6_), rng S → mS D b s 220 (jM b kc T S) H locs → lv_has ls 8 [(0, .ref (b + 192)), (1, .int x1), (2, .int x2), (3, .int x3), (4, .int x4), (5, .int x5_), (6, .int x6_)] → kf12_ S v5_ v6_ = some (vr, Sr) → W p l e (mR 2 0 0) s m args below meth c H locs 0 0 Q (F0 m 12 ls [])), ∀ (S : SS) (H : Heap) (locs : List Loc) (ls : Array Slot) (x5_ : Int32) (v5_ : Int) (hx5_ : x5_.toInt = v5_) (x6_ : Int32) (v6_ : Int) (hx6_ : x6_.toInt = v6_) (x7_ : Int32) (v7_ : Int) (hx7_ : x7_.toInt = v7_), rng S → mS D b s 220 (jM b kc T S) H locs → lv_has ls 8 [(0, .ref (b + 192)), (1, .int x1), (2, .int x2), (3, .int x3), (4, .int x4), (5, .int x5_), (6, .int x6_), (7, .int x7_)] → f_M_apart_140 v1 v2 v3 v4 kf3_ kf12_ S v5_ v6_ v7_ = some (vr, Sr) → W p l e (mR 2 0 0) s m args below meth c H locs 0 0 Q (F0 m 140 ls []) := by
    intro kf3_ hkf3_ kf12_ hkf12_ S H locs ls x5_ v5_ hx5_ x6_ v6_ hx6_ x7_ v7_ hx7_ hS hM hl h
    unfold f_M_apart_140 at h
    refine lv_aload_n hx hb dX13_apart_140 rfl (lv_at hl 0 rfl) ?_
    refine m_get fl_X13_121_X13 C hM (i := 192) (by omega) (e_192 b kc T S) (v := .ref (b + 215)) rfl dX13_apart_141 ?_
    refine lv_iload hx hb dX13_apart_144 (lv_at hl 5 rfl) ?_
    refine lv_iload hx hb dX13_apart_146 (lv_at hl 6 rfl) ?_
    obtain ⟨r1_z, cr1_z, h⟩ := w_b1E h
    refine g_callI (J := jM b kc T) (m_runS calS_X13_at wd_1432 (g_M_at l D kc b T S x5_ v5_ hx5_ x6_ v6_ hx6_ hS cr1_z) C hM hl.1 rfl rfl (Nat.le_of_ble_eq_true rfl) dX13_apart_148 ⟨Nat.le_of_ble_eq_true rfl, Nat.le_of_ble_eq_true rfl⟩ ⟨Nat.le_of_ble_eq_true rfl, Nat.le_of_ble_eq_true rfl⟩) hM (fun z2_z H locs bz2_z hM hS => ?_)
    refine lv_iload hx hb dX13_apart_151 (lv_at hl 7 rfl) ?_
    refine g_iast C hM (j := 215) (by omega) (jK_M b kc T (by omega)) (a_215 b kc) hS bz2_z hx7_ (B := 103041) rfl h dX13_apart_153 (fun S3_z H locs h hM hS => ?_)
    refine g_iinc (y := (-1)) hx hb hx6_ (by decide) (by decide) h dX13_apart_154 hl (k := 6) rfl (by decide) (fun z4_z ls bz4_z h hl => ?_)
    have hl : lv_has ls 8 [(6, .int z4_z), (0, .ref (b + 192)), (1, .int x1), (2, .int x2), (3, .int x3), (4, .int x4), (5, .int x5_), (7, .int x7_)] := hl
    refine lv_goto (tgt := 12) hx hb dX13_apart_157 (by decide) ?_
    exact hkf12_ S3_z _ _ _ x5_ v5_ hx5_ z4_z (v6_ + (-1)) bz4_z hS hM (lv_sub hl [1, 2, 3, 4, 5, 6, 0] rfl) h
  have B85 : ∀ (kf3_ : SS → Int → Option (Int × SS)) (hkf3_ : ∀ (S : SS) (H : Heap) (locs : List Loc) (ls : Array Slot) (x5_ : Int32) (v5_ : Int) (hx5_ : x5_.toInt = v5_), rng S → mS D b s 220 (jM b kc T S) H locs → lv_has ls 8 [(0, .ref (b + 192)), (1, .int x1), (2, .int x2), (3, .int x3), (4, .int x4), (5, .int x5_)] → kf3_ S v5_ = some (vr, Sr) → W p l e (mR 2 0 0) s m args below meth c H locs 0 0 Q (F0 m 3 ls [])) (kf12_ : SS → Int → Int → Option (Int × SS)) (hkf12_ : ∀ (S : SS) (H : Heap) (locs : List Loc) (ls : Array Slot) (x5_ : Int32) (v5_ : Int) (hx5_ : x5_.toInt = v5_) (x6_ : Int32) (v6_ : Int) (hx6_ : x6_.toInt = v6_), rng S → mS D b s 220 (jM b kc T S) H locs → lv_has ls 8 [(0, .ref (b + 192)), (1, .int x1), (2, .int x2), (3, .int x3), (4, .int x4), (5, .int x5_), (6, .int x6_)] → kf12_ S v5_ v6_ = some (vr, Sr) → W p l e (mR 2 0 0) s m args below meth c H locs 0 0 Q (F0 m 12 ls [])), ∀ (S : SS) (H : Heap) (locs : List Loc) (ls : Array Slot) (x5_ : Int32) (v5_ : Int) (hx5_ : x5_.toInt = v5_) (x6_ : Int32) (v6_ : Int) (hx6_ : x6_.toInt = v6_) (xt0_ : Int32) (vt0_ : Int) (hxt0_ : xt0_.toInt = vt0_), rng S → mS D b s 220 (jM b kc T S) H locs → lv_has ls 8 [(0, .ref (b + 192)), (1, .int x1), (2, .int x2), (3, .int x3), (4, .int x4), (5, .int x5_), (6, .int x6_)] → f_M_apart_85 v1 v2 v3 v4 kf3_ kf12_ S v5_ v6_ vt0_ = some (vr, Sr) → W p l e (mR 2 0 0) s m args below meth c H locs 0 0 Q (F0 m 85 ls [.int xt0_]) := by
    intro kf3_ hkf3_ kf12_ hkf12_ S H locs ls x5_ v5_ hx5_ x6_ v6_ hx6_ xt0_ vt0_ hxt0_ hS hM hl h
    unfold f_M_apart_85 at h
    refine lv_istore (lv' := [(7, .int xt0_), (0, .ref (b + 192)), (1, .int x1), (2, .int x2), (3, .int x3), (4, .int x4), (5, .int x5_), (6, .int x6_)]) hx hb dX13_apart_85 hl (by decide) rfl (fun ls hl => ?_)
    refine lv_iload hx hb dX13_apart_87 (lv_at hl 6 rfl) ?_
    refine lv_iload_n hx hb dX13_apart_89 rfl (lv_at hl 3 rfl) ?_
    refine g_icmp_ge (tgt := 140) hx hb hx5_ hx2 h dX13_apart_90 (by decide) (fun h => ?_) (fun h => ?_)
    · exact B140 kf3_ hkf3_ kf12_ hkf12_ S _ _ _ x5_ v5_ hx5_ x6_ v6_ hx6_ xt0_ vt0_ hxt0_ hS hM (lv_sub hl [1, 2, 3, 4, 5, 6, 7, 0] rfl) h
    · refine lv_iload hx hb dX13_apart_93 (lv_at hl 7 rfl) ?_
      refine lv_iload hx hb dX13_apart_95 (lv_at hl 5 rfl) ?_
      refine g_icmp_ge (tgt := 140) hx hb hx6_ hx4 h dX13_apart_97 (by decide) (fun h => ?_) (fun h => ?_)
      · exact B140 kf3_ hkf3_ kf12_ hkf12_ S _ _ _ x5_ v5_ hx5_ x6_ v6_ hx6_ xt0_ vt0_ hxt0_ hS hM (lv_sub hl [1, 2, 3, 4, 5, 6, 7, 0] rfl) h
      · refine lv_iload hx hb dX13_apart_100 (lv_at hl 0 rfl) ?_
        refine lv_iconst (v := 1) hx hb dX13_apart_102 (by decide) ?_
        refine lv_aload_n hx hb dX13_apart_103 rfl (lv_at hl 1 rfl) ?_
        refine m_get fl_X13_121_X13 C hM (i := 192) (by omega) (e_192 b kc T S) (v := .ref (b + 215)) rfl dX13_apart_104 ?_
        refine lv_iload hx hb dX13_apart_107 (lv_at hl 6 rfl) ?_
        refine lv_iconst (v := 1) hx hb dX13_apart_109 (by decide) ?_
        refine g_iadd hx hb hx5_ (show (1 : Int32).toInt = 1 by decide) h dX13_apart_110 (fun z1_z bz1_z h => ?_)
        refine lv_iload hx hb dX13_apart_111 (lv_at hl 7 rfl) ?_
        obtain ⟨r2_z, cr2_z, h⟩ := w_b1E h
        refine g_callI (J := jM b kc T) (m_runS calS_X13_at wd_1432 (g_M_at l D kc b T S z1_z (v5_ + 1) bz1_z x6_ v6_ hx6_ hS cr2_z) C hM hl.1 rfl rfl (Nat.le_of_ble_eq_true rfl) dX13_apart_113 ⟨Nat.le_of_ble_eq_true rfl, Nat.le_of_ble_eq_true rfl⟩ ⟨Nat.le_of_ble_eq_true rfl, Nat.le_of_ble_eq_true rfl⟩) hM (fun z3_z H locs bz3_z hM hS => ?_)
        refine g_iald C hM (j := 215) (by omega) (jK_M b kc T (by omega)) (a_215 b kc) hS bz3_z (B := 103041) rfl h dX13_apart_116 (fun z4_z bz4_z h => ?_)
        refine lv_aload_n hx hb dX13_apart_117 rfl (lv_at hl 1 rfl) ?_
        refine m_get fl_X13_121_X13 C hM (i := 192) (by omega) (e_192 b kc T S) (v := .ref (b + 215)) rfl dX13_apart_118 ?_
        refine lv_iload hx hb dX13_apart_121 (lv_at hl 6 rfl) ?_
        refine lv_iload hx hb dX13_apart_123 (lv_at hl 7 rfl) ?_
        refine lv_iconst (v := 1) hx hb dX13_apart_125 (by decide) ?_
        refine g_iadd hx hb hx6_ (show (1 : Int32).toInt = 1 by decide) h dX13_apart_126 (fun z5_z bz5_z h => ?_)
        obtain ⟨r6_z, cr6_z, h⟩ := w_b1E h
        refine g_callI (J := jM b kc T) (m_runS calS_X13_at wd_1432 (g_M_at l D kc b T S x5_ v5_ hx5_ z5_z (v6_ + 1) bz5_z hS cr6_z) C hM hl.1 rfl rfl (Nat.le_of_ble_eq_true rfl) dX13_apart_127 ⟨Nat.le_of_ble_eq_true rfl, Nat.le_of_ble_eq_true rfl⟩ ⟨Nat.le_of_ble_eq_true rfl, Nat.le_of_ble_eq_true rfl⟩) hM (fun z7_z H locs bz7_z hM hS => ?_)
        refine g_iald C hM (j := 215) (by omega) (jK_M b kc T (by omega)) (a_215 b kc) hS bz7_z (B := 103041) rfl h dX13_apart_130 (fun z8_z bz8_z h => ?_)
        refine g_mmin hx hb (hml.trans hl.1.symm) hown (hts _ wd_1435) (hts _ wd_522) (hts _ wd_91) (hts _ wd_523) (Nat.le_of_ble_eq_true rfl) (Nat.le_of_ble_eq_true rfl) (Nat.le_of_ble_eq_true rfl) (Nat.le_of_ble_eq_true rfl) bz4_z bz8_z dX13_apart_131 (fun z9_z bz9_z => ?_)
        refine g_iadd hx hb (show (1 : Int32).toInt = 1 by decide) bz9_z h dX13_apart_134 (fun z10_z bz10_z h => ?_)
        refine g_mmin hx hb (hml.trans hl.1.symm) hown (hts _ wd_1435) (hts _ wd_522) (hts _ wd_91) (hts _ wd_523) (Nat.le_of_ble_eq_true rfl) (Nat.le_of_ble_eq_true rfl) (Nat.le_of_ble_eq_true rfl) (Nat.le_of_ble_eq_true rfl) hxt0_ bz10_z dX13_apart_135 (fun z11_z bz11_z => ?_)
        refine lv_istore (lv' := [(7, .int z11_z), (0, .ref (b + 192)), (1, .int x1), (2, .int x2), (3, .int x3), (4, .int x4), (5, .int x5_), (6, .int x6_)]) hx hb dX13_apart_138 hl (by decide) rfl (fun ls hl => ?_)
        exact B140 kf3_ hkf3_ kf12_ hkf12_ S _ _ _ x5_ v5_ hx5_ x6_ v6_ hx6_ z11_z (min vt0_ (1 + (min (gi S 215 (r2_z).toNat) (gi S 215 (r6_z).toNat)))) bz11_z hS hM (lv_sub hl [1, 2, 3, 4, 5, 6, 7, 0] rfl) h
  have B84 : ∀ (kf3_ : SS → Int → Option (Int × SS)) (hkf3_ : ∀ (S : SS) (H : Heap) (locs : List Loc) (ls : Array Slot) (x5_ : Int32) (v5_ : Int) (hx5_ : x5_.toInt = v5_), rng S → mS D b s 220 (jM b kc T S) H locs → lv_has ls 8 [(0, .ref (b + 192)), (1, .int x1), (2, .int x2), (3, .int x3), (4, .int x4), (5, .int x5_)] → kf3_ S v5_ = some (vr, Sr) → W p l e (mR 2 0 0) s m args below meth c H locs 0 0 Q (F0 m 3 ls [])) (kf12_ : SS → Int → Int → Option (Int × SS)) (hkf12_ : ∀ (S : SS) (H : Heap) (locs : List Loc) (ls : Array Slot) (x5_ : Int32) (v5_ : Int) (hx5_ : x5_.toInt = v5_) (x6_ : Int32) (v6_ : Int) (hx6_ : x6_.toInt = v6_), rng S → mS D b s 220 (jM b kc T S) H locs → lv_has ls 8 [(0, .ref (b + 192)), (1, .int x1), (2, .int x2), (3, .int x3), (4, .int x4), (5, .int x5_), (6, .int x6_)] → kf12_ S v5_ v6_ = some (vr, Sr) → W p l e (mR 2 0 0) s m args below meth c H locs 0 0 Q (F0 m 12 ls [])), ∀ (S : SS) (H : Heap) (locs : List Loc) (ls : Array Slot) (x5_ : Int32) (v5_ : Int) (hx5_ : x5_.toInt = v5_) (x6_ : Int32) (v6_ : Int) (hx6_ : x6_.toInt = v6_) (xt0_ : Int32) (vt0_ : Int) (hxt0_ : xt0_.toInt = vt0_) (xt1_ : Int32) (vt1_ : Int) (hxt1_ : xt1_.toInt = vt1_), rng S → mS D b s 220 (jM b kc T S) H locs → lv_has ls 8 [(0, .ref (b + 192)), (1, .int x1), (2, .int x2), (3, .int x3), (4, .int x4), (5, .int x5_), (6, .int x6_)] → f_M_apart_84 v1 v2 v3 v4 kf3_ kf12_ S v5_ v6_ vt0_ vt1_ = some (vr, Sr) → W p l e (mR 2 0 0) s m args below meth c H locs 0 0 Q (F0 m 84 ls [.int xt0_, .int xt1_]) := by
    intro kf3_ hkf3_ kf12_ hkf12_ S H locs ls x5_ v5_ hx5_ x6_ v6_ hx6_ xt0_ vt0_ hxt0_ xt1_ vt1_ hxt1_ hS hM hl h
    unfold f_M_apart_84 at h
    refine g_iadd hx hb hxt1_ hxt0_ h dX13_apart_84 (fun z1_z bz1_z h => ?_)
    exact B85 kf3_ hkf3_ kf12_ hkf12_ S _ _ _ x5_ v5_ hx5_ x6_ v6_ hx6_ z1_z (vt1_ + vt0_) bz1_z hS hM (lv_sub hl [0, 1, 2, 3, 4, 5, 6] rfl) h
  have B12 : ∀ (kf3_ : SS → Int → Option (Int × SS)) (hkf3_ : ∀ (S : SS) (H : Heap) (locs : List Loc) (ls : Array Slot) (x5_ : Int32) (v5_ : Int) (hx5_ : x5_.toInt = v5_), rng S → mS D b s 220 (jM b kc T S) H locs → lv_has ls 8 [(0, .ref (b + 192)), (1, .int x1), (2, .int x2), (3, .int x3), (4, .int x4), (5, .int x5_)] → kf3_ S v5_ = some (vr, Sr) → W p l e (mR 2 0 0) s m args below meth c H locs 0 0 Q (F0 m 3 ls [])) (n : Nat), ∀ (S : SS) (H : Heap) (locs : List Loc) (ls : Array Slot) (x5_ : Int32) (v5_ : Int) (hx5_ : x5_.toInt = v5_) (x6_ : Int32) (v6_ : Int) (hx6_ : x6_.toInt = v6_), rng S → mS D b s 220 (jM b kc T S) H locs → lv_has ls 8 [(0, .ref (b + 192)), (1, .int x1), (2, .int x2), (3, .int x3), (4, .int x4), (5, .int x5_), (6, .int x6_)] → f_M_apart_12 v1 v2 v3 v4 kf3_ n S v5_ v6_ = some (vr, Sr) → W p l e (mR 2 0 0) s m args below meth c H locs 0 0 Q (F0 m 12 ls []) := by
    intro kf3_ hkf3_ n
    induction n with
    | zero => intro S H locs ls x5_ v5_ hx5_ x6_ v6_ hx6_ hS hM hl h; exact absurd (h : none = some _) (fun q => nomatch q)
    | succ n hkf12_ =>
      intro S H locs ls x5_ v5_ hx5_ x6_ v6_ hx6_ hS hM hl h
      have h : f_M_apart_12_b v1 v2 v3 v4 kf3_ (f_M_apart_12 v1 v2 v3 v4 kf3_ n) S v5_ v6_ = some (vr, Sr) := h
      unfold f_M_apart_12_b at h
      refine lv_iload hx hb dX13_apart_12 (lv_at hl 6 rfl) ?_
      refine g_if_lt (tgt := 160) hx hb hx6_ h dX13_apart_14 (by decide) (fun h => ?_) (fun h => ?_)
      · refine g_iinc (y := (-1)) hx hb hx5_ (by decide) (by decide) h dX13_apart_160 hl (k := 5) rfl (by decide) (fun z1_z ls bz1_z h hl => ?_)
        have hl : lv_has ls 8 [(5, .int z1_z), (0, .ref (b + 192)), (1, .int x1), (2, .int x2), (3, .int x3), (4, .int x4), (6, .int x6_)] := hl
        refine lv_goto (tgt := 3) hx hb dX13_apart_163 (by decide) ?_
        exact hkf3_ S _ _ _ z1_z (v5_ + (-1)) bz1_z hS hM (lv_sub hl [1, 2, 3, 4, 5, 0] rfl) h
      · refine lv_iload hx hb dX13_apart_17 (lv_at hl 5 rfl) ?_
        refine lv_iload_n hx hb dX13_apart_19 rfl (lv_at hl 2 rfl) ?_
        refine g_icmp_ne (tgt := 31) hx hb hx5_ hx2 h dX13_apart_20 (by decide) (fun h => ?_) (fun h => ?_)
        · refine lv_iload hx hb dX13_apart_31 (lv_at hl 6 rfl) ?_
          refine lv_iload hx hb dX13_apart_33 (lv_at hl 4 rfl) ?_
          refine g_icmp_ne (tgt := 45) hx hb hx6_ hx4 h dX13_apart_35 (by decide) (fun h => ?_) (fun h => ?_)
          · refine lv_aload_n hx hb dX13_apart_45 rfl (lv_at hl 0 rfl) ?_
            refine m_get fl_X13_121_X13 C hM (i := 192) (by omega) (e_192 b kc T S) (v := .ref (b + 215)) rfl dX13_apart_46 ?_
            refine lv_iload hx hb dX13_apart_49 (lv_at hl 5 rfl) ?_
            refine lv_iconst (v := 1) hx hb dX13_apart_51 (by decide) ?_
            refine g_iadd hx hb hx5_ (show (1 : Int32).toInt = 1 by decide) h dX13_apart_52 (fun z2_z bz2_z h => ?_)
            refine lv_iload hx hb dX13_apart_53 (lv_at hl 6 rfl) ?_
            refine lv_iconst (v := 1) hx hb dX13_apart_55 (by decide) ?_
            refine g_iadd hx hb hx6_ (show (1 : Int32).toInt = 1 by decide) h dX13_apart_56 (fun z3_z bz3_z h => ?_)
            obtain ⟨r4_z, cr4_z, h⟩ := w_b1E h
            refine g_callI (J := jM b kc T) (m_runS calS_X13_at wd_1432 (g_M_at l D kc b T S z2_z (v5_ + 1) bz2_z z3_z (v6_ + 1) bz3_z hS cr4_z) C hM hl.1 rfl rfl (Nat.le_of_ble_eq_true rfl) dX13_apart_57 ⟨Nat.le_of_ble_eq_true rfl, Nat.le_of_ble_eq_true rfl⟩ ⟨Nat.le_of_ble_eq_true rfl, Nat.le_of_ble_eq_true rfl⟩) hM (fun z5_z H locs bz5_z hM hS => ?_)
            refine g_iald C hM (j := 215) (by omega) (jK_M b kc T (by omega)) (a_215 b kc) hS bz5_z (B := 103041) rfl h dX13_apart_60 (fun z6_z bz6_z h => ?_)
            refine lv_aload_n hx hb dX13_apart_61 rfl (lv_at hl 0 rfl) ?_
            refine lv_iload_n hx hb dX13_apart_62 rfl (lv_at hl 1 rfl) ?_
            refine lv_iload hx hb dX13_apart_63 (lv_at hl 5 rfl) ?_
            obtain ⟨w7_z, cw7_z, h⟩ := w_b1E h
            refine g_callL (J := jM b kc T) (m_runV calV_X13_wordAt wd_1420 (g_M_wordAt l D kc b T S x1 v1 hx1 x5_ v5_ hx5_ hS cw7_z) C hM (i := 192) (by omega) (e_192 b kc T S) rfl hl.1 rfl rfl (Nat.le_of_ble_eq_true rfl) dX13_apart_65 ⟨Nat.le_of_ble_eq_true rfl, Nat.le_of_ble_eq_true rfl⟩ ⟨Nat.le_of_ble_eq_true rfl, Nat.le_of_ble_eq_true rfl⟩) hM (fun z8_z H locs bz8_z hM hS => ?_)
            have ez8_z := bz8_z.symm
            subst ez8_z
            refine lv_aload_n hx hb dX13_apart_68 rfl (lv_at hl 0 rfl) ?_
            refine lv_iload_n hx hb dX13_apart_69 rfl (lv_at hl 3 rfl) ?_
            refine lv_iload hx hb dX13_apart_70 (lv_at hl 6 rfl) ?_
            obtain ⟨w9_z, cw9_z, h⟩ := w_b1E h
            refine g_callL (J := jM b kc T) (m_runV calV_X13_wordAt wd_1420 (g_M_wordAt l D kc b T S x3 v3 hx3 x6_ v6_ hx6_ hS cw9_z) C hM (i := 192) (by omega) (e_192 b kc T S) rfl hl.1 rfl rfl (Nat.le_of_ble_eq_true rfl) dX13_apart_72 ⟨Nat.le_of_ble_eq_true rfl, Nat.le_of_ble_eq_true rfl⟩ ⟨Nat.le_of_ble_eq_true rfl, Nat.le_of_ble_eq_true rfl⟩) hM (fun z10_z H locs bz10_z hM hS => ?_)
            have ez10_z := bz10_z.symm
            subst ez10_z
            refine g_lcmp_ne (tgt := 83) hx hb h dX13_apart_75 dX13_apart_76 (by decide) (fun h => ?_) (fun h => ?_)
            · refine lv_iconst (v := 1) hx hb dX13_apart_83 (by decide) ?_
              exact B84 kf3_ hkf3_ (f_M_apart_12 v1 v2 v3 v4 kf3_ n) hkf12_ S _ _ _ x5_ v5_ hx5_ x6_ v6_ hx6_ 1 1 (show (1 : Int32).toInt = 1 by decide) z6_z (gi S 215 (r4_z).toNat) bz6_z hS hM (lv_sub hl [0, 1, 2, 3, 4, 5, 6] rfl) h
            · refine lv_iconst (v := 0) hx hb dX13_apart_79 (by decide) ?_
              refine lv_goto (tgt := 84) hx hb dX13_apart_80 (by decide) ?_
              exact B84 kf3_ hkf3_ (f_M_apart_12 v1 v2 v3 v4 kf3_ n) hkf12_ S _ _ _ x5_ v5_ hx5_ x6_ v6_ hx6_ 0 0 (show (0 : Int32).toInt = 0 by decide) z6_z (gi S 215 (r4_z).toNat) bz6_z hS hM (lv_sub hl [0, 1, 2, 3, 4, 5, 6] rfl) h
          · refine lv_iload_n hx hb dX13_apart_38 rfl (lv_at hl 2 rfl) ?_
            refine lv_iload hx hb dX13_apart_39 (lv_at hl 5 rfl) ?_
            refine g_isub hx hb hx2 hx5_ h dX13_apart_41 (fun z11_z bz11_z h => ?_)
            refine lv_goto (tgt := 85) hx hb dX13_apart_42 (by decide) ?_
            exact B85 kf3_ hkf3_ (f_M_apart_12 v1 v2 v3 v4 kf3_ n) hkf12_ S _ _ _ x5_ v5_ hx5_ x6_ v6_ hx6_ z11_z (v2 - v5_) bz11_z hS hM (lv_sub hl [0, 1, 2, 3, 4, 5, 6] rfl) h
        · refine lv_iload hx hb dX13_apart_23 (lv_at hl 4 rfl) ?_
          refine lv_iload hx hb dX13_apart_25 (lv_at hl 6 rfl) ?_
          refine g_isub hx hb hx4 hx6_ h dX13_apart_27 (fun z12_z bz12_z h => ?_)
          refine lv_goto (tgt := 85) hx hb dX13_apart_28 (by decide) ?_
          exact B85 kf3_ hkf3_ (f_M_apart_12 v1 v2 v3 v4 kf3_ n) hkf12_ S _ _ _ x5_ v5_ hx5_ x6_ v6_ hx6_ z12_z (v4 - v6_) bz12_z hS hM (lv_sub hl [0, 1, 2, 3, 4, 5, 6] rfl) h
  have B3 : ∀ (n : Nat), ∀ (S : SS) (H : Heap) (locs : List Loc) (ls : Array Slot) (x5_ : Int32) (v5_ : Int) (hx5_ : x5_.toInt = v5_), rng S → mS D b s 220 (jM b kc T S) H locs → lv_has ls 8 [(0, .ref (b + 192)), (1, .int x1), (2, .int x2), (3, .int x3), (4, .int x4), (5, .int x5_)] → f_M_apart_3 v1 v2 v3 v4 n S v5_ = some (vr, Sr) → W p l e (mR 2 0 0) s m args below meth c H locs 0 0 Q (F0 m 3 ls []) := by
    intro n
    induction n with
    | zero => intro S H locs ls x5_ v5_ hx5_ hS hM hl h; exact absurd (h : none = some _) (fun q => nomatch q)
    | succ n hkf3_ =>
      intro S H locs ls x5_ v5_ hx5_ hS hM hl h
      have h : f_M_apart_3_b v1 v2 v3 v4 (f_M_apart_3 v1 v2 v3 v4 n) S v5_ = some (vr, Sr) := h
      unfold f_M_apart_3_b at h
      refine lv_iload hx hb dX13_apart_3 (lv_at hl 5 rfl) ?_
      refine g_if_lt (tgt := 166) hx hb hx5_ h dX13_apart_5 (by decide) (fun h => ?_) (fun h => ?_)
      · refine lv_aload_n hx hb dX13_apart_166 rfl (lv_at hl 0 rfl) ?_
        refine m_get fl_X13_121_X13 C hM (i := 192) (by omega) (e_192 b kc T S) (v := .ref (b + 215)) rfl dX13_apart_167 ?_
        refine lv_iconst (v := 0) hx hb dX13_apart_170 (by decide) ?_
        refine g_ialdc C hM (j := 215) (by omega) (jK_M b kc T (by omega)) (a_215 b kc) hS (k := 0) (m_in (by decide)) (by decide) dX13_apart_171 (fun z1_z bz1_z => ?_)
        exact ret S _ _ _ _ z1_z (bz1_z.trans (r_1 h)) (r_2 h) hM hS dX13_apart_172
      · refine lv_iload hx hb dX13_apart_8 (lv_at hl 4 rfl) ?_
        refine lv_istore (lv' := [(6, .int x4), (0, .ref (b + 192)), (1, .int x1), (2, .int x2), (3, .int x3), (4, .int x4), (5, .int x5_)]) hx hb dX13_apart_10 hl (by decide) rfl (fun ls hl => ?_)
        exact B12 (f_M_apart_3 v1 v2 v3 v4 n) hkf3_ FU S _ _ _ x5_ v5_ hx5_ x4 v4 hx4 hS hM (lv_sub hl [1, 2, 3, 4, 5, 6, 0] rfl) h
  refine lv_iload_n hx hb dX13_apart_0 rfl (lv_at hl 2 rfl) ?_
  refine lv_istore (lv' := [(5, .int x2), (0, .ref (b + 192)), (1, .int x1), (2, .int x2), (3, .int x3), (4, .int x4)]) hx hb dX13_apart_1 hl (by decide) rfl (fun ls hl => ?_)
  exact B3 FU S _ _ _ x2 v2 hx2 hS hM (lv_sub hl [1, 2, 3, 4, 5, 0] rfl) h

def f_M_distance (S : SS) (v1 : Int) (v2 : Int) : Option (Int × SS) := w_b1 (f_M_isText S v1) (fun r1_z => (if r1_z = 0 then some ((-2), S) else w_b1 (f_M_isText S v2) (fun r3_z => (if r3_z = 0 then some ((-2), S) else w_b2 (f_M_wordsOf S v1) (fun r6_z S5_z => w_b2 (f_M_wordsOf S5_z v2) (fun r9_z S8_z => w_b2 (f_M_apart S8_z v1 r6_z v2 r9_z) (fun r12_z S11_z => some (r12_z, S11_z))))))))
set_option maxHeartbeats 4000000 in
set_option maxRecDepth 100000 in
theorem g_M_distance (l : Launch) (D : va_G) (kc : Nat → ClassId) (b : Nat) (T S : SS) (x1 : Int32) (v1 : Int) (hx1 : x1.toInt = v1) (x2 : Int32) (v2 : Int) (hx2 : x2.toInt = v2) (hS : rng S) {vr : Int} {Sr : SS} (h : f_M_distance S v1 v2 = some (vr, Sr)) : cI l yX13_distance cX13_distance 5 .int 95 D kc b (jM b kc T) S [.ref (b + 192), .int x1, .int x2] vr Sr := by
  refine g_beg_i (by decide) (Nat.le_of_ble_eq_true rfl) ?_
  intro p e s m args below meth c Q C ret hM ls hl
  obtain ⟨hx, hb, hml, hown, hts, hE, hbs⟩ := id C
  have hl : lv_has ls 5 [(0, .ref (b + 192)), (1, .int x1), (2, .int x2)] := hl
  unfold f_M_distance at h
  refine lv_iload_n hx hb dX13_distance_0 rfl (lv_at hl 1 rfl) ?_
  obtain ⟨r1_z, cr1_z, h⟩ := w_b1E h
  refine g_callI (J := jM b kc T) (m_runS calS_X13_isText wd_1373 (g_M_isText l D kc b T S x1 v1 hx1 hS cr1_z) C hM hl.1 rfl rfl (Nat.le_of_ble_eq_true rfl) dX13_distance_1 ⟨Nat.le_of_ble_eq_true rfl, Nat.le_of_ble_eq_true rfl⟩ ⟨Nat.le_of_ble_eq_true rfl, Nat.le_of_ble_eq_true rfl⟩) hM (fun z2_z H locs bz2_z hM hS => ?_)
  refine g_if_eq (tgt := 14) hx hb bz2_z h dX13_distance_4 (by decide) (fun h => ?_) (fun h => ?_)
  · refine lv_bipush (v := (-2)) hx hb dX13_distance_14 (by decide) ?_
    exact ret S _ _ _ _ (-2) ((show ((-2) : Int32).toInt = (-2) by decide).trans (r_1 h)) (r_2 h) hM hS dX13_distance_16
  · refine lv_iload_n hx hb dX13_distance_7 rfl (lv_at hl 2 rfl) ?_
    obtain ⟨r3_z, cr3_z, h⟩ := w_b1E h
    refine g_callI (J := jM b kc T) (m_runS calS_X13_isText wd_1373 (g_M_isText l D kc b T S x2 v2 hx2 hS cr3_z) C hM hl.1 rfl rfl (Nat.le_of_ble_eq_true rfl) dX13_distance_8 ⟨Nat.le_of_ble_eq_true rfl, Nat.le_of_ble_eq_true rfl⟩ ⟨Nat.le_of_ble_eq_true rfl, Nat.le_of_ble_eq_true rfl⟩) hM (fun z4_z H locs bz4_z hM hS => ?_)
    refine g_if_ne (tgt := 17) hx hb bz4_z h dX13_distance_11 (by decide) (fun h => ?_) (fun h => ?_)
    · refine lv_aload_n hx hb dX13_distance_17 rfl (lv_at hl 0 rfl) ?_
      refine lv_iload_n hx hb dX13_distance_18 rfl (lv_at hl 1 rfl) ?_
      obtain ⟨r6_z, S5_z, cr6_z, h⟩ := w_b2E h
      refine g_callI (J := jM b kc T) (m_runV calV_X13_wordsOf wd_1376 (g_M_wordsOf l D kc b T S x1 v1 hx1 hS cr6_z) C hM (i := 192) (by omega) (e_192 b kc T S) rfl hl.1 rfl rfl (Nat.le_of_ble_eq_true rfl) dX13_distance_19 ⟨Nat.le_of_ble_eq_true rfl, Nat.le_of_ble_eq_true rfl⟩ ⟨Nat.le_of_ble_eq_true rfl, Nat.le_of_ble_eq_true rfl⟩) hM (fun z7_z H locs bz7_z hM hS => ?_)
      refine lv_istore_n (lv' := [(3, .int z7_z), (0, .ref (b + 192)), (1, .int x1), (2, .int x2)]) hx hb dX13_distance_22 rfl hl (by decide) rfl (fun ls hl => ?_)
      refine lv_aload_n hx hb dX13_distance_23 rfl (lv_at hl 1 rfl) ?_
      refine lv_iload_n hx hb dX13_distance_24 rfl (lv_at hl 3 rfl) ?_
      obtain ⟨r9_z, S8_z, cr9_z, h⟩ := w_b2E h
      refine g_callI (J := jM b kc T) (m_runV calV_X13_wordsOf wd_1376 (g_M_wordsOf l D kc b T S5_z x2 v2 hx2 hS cr9_z) C hM (i := 192) (by omega) (e_192 b kc T S5_z) rfl hl.1 rfl rfl (Nat.le_of_ble_eq_true rfl) dX13_distance_25 ⟨Nat.le_of_ble_eq_true rfl, Nat.le_of_ble_eq_true rfl⟩ ⟨Nat.le_of_ble_eq_true rfl, Nat.le_of_ble_eq_true rfl⟩) hM (fun z10_z H locs bz10_z hM hS => ?_)
      refine lv_istore (lv' := [(4, .int z10_z), (3, .int z7_z), (0, .ref (b + 192)), (1, .int x1), (2, .int x2)]) hx hb dX13_distance_28 hl (by decide) rfl (fun ls hl => ?_)
      refine lv_aload_n hx hb dX13_distance_30 rfl (lv_at hl 2 rfl) ?_
      refine lv_iload_n hx hb dX13_distance_31 rfl (lv_at hl 3 rfl) ?_
      refine lv_iload_n hx hb dX13_distance_32 rfl (lv_at hl 1 rfl) ?_
      refine lv_iload_n hx hb dX13_distance_33 rfl (lv_at hl 4 rfl) ?_
      refine lv_iload hx hb dX13_distance_34 (lv_at hl 0 rfl) ?_
      obtain ⟨r12_z, S11_z, cr12_z, h⟩ := w_b2E h
      refine g_callI (J := jM b kc T) (m_runV calV_X13_apart wd_1428 (g_M_apart l D kc b T S8_z x1 v1 hx1 z7_z r6_z bz7_z x2 v2 hx2 z10_z r9_z bz10_z hS cr12_z) C hM (i := 192) (by omega) (e_192 b kc T S8_z) rfl hl.1 rfl rfl (Nat.le_of_ble_eq_true rfl) dX13_distance_36 ⟨Nat.le_of_ble_eq_true rfl, Nat.le_of_ble_eq_true rfl⟩ ⟨Nat.le_of_ble_eq_true rfl, Nat.le_of_ble_eq_true rfl⟩) hM (fun z13_z H locs bz13_z hM hS => ?_)
      exact ret S11_z _ _ _ _ z13_z (bz13_z.trans (r_1 h)) (r_2 h) hM hS dX13_distance_39
    · refine lv_bipush (v := (-2)) hx hb dX13_distance_14 (by decide) ?_
      exact ret S _ _ _ _ (-2) ((show ((-2) : Int32).toInt = (-2) by decide).trans (r_1 h)) (r_2 h) hM hS dX13_distance_16

def f_M_costs (S : SS) (v1 : Int) (v2 : Int) : Option (Int × SS) := (if f_M_in S v1 1 9 = 0 then some ((-2), S) else (if f_M_in S v2 1 9 = 0 then some ((-2), S) else w_chk (0 ≤ (0 : Int) ∧ (0 : Int) < 2) (w_lt (si S 211 ((0 : Int)).toNat v1) (fun S5_z => w_chk (0 ≤ (1 : Int) ∧ (1 : Int) < 2) (w_lt (si S5_z 211 ((1 : Int)).toNat v2) (fun S6_z => some (1, S6_z)))))))
set_option maxHeartbeats 4000000 in
set_option maxRecDepth 100000 in
theorem g_M_costs (l : Launch) (D : va_G) (kc : Nat → ClassId) (b : Nat) (T S : SS) (x1 : Int32) (v1 : Int) (hx1 : x1.toInt = v1) (x2 : Int32) (v2 : Int) (hx2 : x2.toInt = v2) (hS : rng S) {vr : Int} {Sr : SS} (h : f_M_costs S v1 v2 = some (vr, Sr)) : cI l yX13_costs cX13_costs 3 .int 2 D kc b (jM b kc T) S [.ref (b + 192), .int x1, .int x2] vr Sr := by
  refine g_beg_i (by decide) (Nat.le_of_ble_eq_true rfl) ?_
  intro p e s m args below meth c Q C ret hM ls hl
  obtain ⟨hx, hb, hml, hown, hts, hE, hbs⟩ := id C
  have hl : lv_has ls 3 [(0, .ref (b + 192)), (1, .int x1), (2, .int x2)] := hl
  unfold f_M_costs at h
  refine lv_iload_n hx hb dX13_costs_0 rfl (lv_at hl 1 rfl) ?_
  refine g_i2l (a := v1) hx hb hx1 dX13_costs_1 (fun c1_z => ?_)
  refine lv_lconst (v := 1) hx hb dX13_costs_2 (by decide) ?_
  refine lv_ldc2 (v := 9) hx hb hown (hts _ wd_1351) dX13_costs_3 ?_
  refine g_callI (J := jM b kc T) (m_runS calS_X13_in wd_1221 (g_M_in l D kc b T S (i2l v1) v1 c1_z 1 1 (show (1 : Int64).toInt = 1 by decide) 9 9 (show (9 : Int64).toInt = 9 by decide) hS rfl) C hM hl.1 rfl rfl (Nat.le_of_ble_eq_true rfl) dX13_costs_6 ⟨Nat.le_of_ble_eq_true rfl, Nat.le_of_ble_eq_true rfl⟩ ⟨Nat.le_of_ble_eq_true rfl, Nat.le_of_ble_eq_true rfl⟩) hM (fun z2_z H locs bz2_z hM hS => ?_)
  refine g_if_eq (tgt := 24) hx hb bz2_z h dX13_costs_9 (by decide) (fun h => ?_) (fun h => ?_)
  · refine lv_bipush (v := (-2)) hx hb dX13_costs_24 (by decide) ?_
    exact ret S _ _ _ _ (-2) ((show ((-2) : Int32).toInt = (-2) by decide).trans (r_1 h)) (r_2 h) hM hS dX13_costs_26
  · refine lv_iload_n hx hb dX13_costs_12 rfl (lv_at hl 2 rfl) ?_
    refine g_i2l (a := v2) hx hb hx2 dX13_costs_13 (fun c3_z => ?_)
    refine lv_lconst (v := 1) hx hb dX13_costs_14 (by decide) ?_
    refine lv_ldc2 (v := 9) hx hb hown (hts _ wd_1351) dX13_costs_15 ?_
    refine g_callI (J := jM b kc T) (m_runS calS_X13_in wd_1221 (g_M_in l D kc b T S (i2l v2) v2 c3_z 1 1 (show (1 : Int64).toInt = 1 by decide) 9 9 (show (9 : Int64).toInt = 9 by decide) hS rfl) C hM hl.1 rfl rfl (Nat.le_of_ble_eq_true rfl) dX13_costs_18 ⟨Nat.le_of_ble_eq_true rfl, Nat.le_of_ble_eq_true rfl⟩ ⟨Nat.le_of_ble_eq_true rfl, Nat.le_of_ble_eq_true rfl⟩) hM (fun z4_z H locs bz4_z hM hS => ?_)
    refine g_if_ne (tgt := 27) hx hb bz4_z h dX13_costs_21 (by decide) (fun h => ?_) (fun h => ?_)
    · refine lv_aload_n hx hb dX13_costs_27 rfl (lv_at hl 0 rfl) ?_
      refine m_get fl_X13_108_X13 C hM (i := 192) (by omega) (e_192 b kc T S) (v := .ref (b + 211)) rfl dX13_costs_28 ?_
      refine lv_iconst (v := 0) hx hb dX13_costs_31 (by decide) ?_
      refine lv_iload_n hx hb dX13_costs_32 rfl (lv_at hl 1 rfl) ?_
      refine g_iast C hM (j := 211) (by omega) (jK_M b kc T (by omega)) (a_211 b kc) hS (show (0 : Int32).toInt = 0 by decide) hx1 (B := 2) rfl h dX13_costs_33 (fun S5_z H locs h hM hS => ?_)
      refine lv_aload_n hx hb dX13_costs_34 rfl (lv_at hl 0 rfl) ?_
      refine m_get fl_X13_108_X13 C hM (i := 192) (by omega) (e_192 b kc T S5_z) (v := .ref (b + 211)) rfl dX13_costs_35 ?_
      refine lv_iconst (v := 1) hx hb dX13_costs_38 (by decide) ?_
      refine lv_iload_n hx hb dX13_costs_39 rfl (lv_at hl 2 rfl) ?_
      refine g_iast C hM (j := 211) (by omega) (jK_M b kc T (by omega)) (a_211 b kc) hS (show (1 : Int32).toInt = 1 by decide) hx2 (B := 2) rfl h dX13_costs_40 (fun S6_z H locs h hM hS => ?_)
      refine lv_iconst (v := 1) hx hb dX13_costs_41 (by decide) ?_
      exact ret S6_z _ _ _ _ 1 ((show (1 : Int32).toInt = 1 by decide).trans (r_1 h)) (r_2 h) hM hS dX13_costs_42
    · refine lv_bipush (v := (-2)) hx hb dX13_costs_24 (by decide) ?_
      exact ret S _ _ _ _ (-2) ((show ((-2) : Int32).toInt = (-2) by decide).trans (r_1 h)) (r_2 h) hM hS dX13_costs_26

def f_M_bits_4_b (S : SS) (v0 : Int) (kf4_ : Int → Int → Option Int) (v1_ : Int) (v2_ : Int) : Option Int := (if 31 ≤ v2_ then some v1_ else w_chk (i32 (v1_ + (andi (shri v0 v2_) 1))) (w_chk (i32 (v2_ + 1)) (kf4_ (v1_ + (andi (shri v0 v2_) 1)) (v2_ + 1))))
def f_M_bits_4 (S : SS) (v0 : Int) : Nat → Int → Int → Option Int
  | 0 => fun _ _ => none
  | n + 1 => f_M_bits_4_b S v0 (f_M_bits_4 S v0 n)
def f_M_bits (S : SS) (v0 : Int) : Option Int := f_M_bits_4 S v0 FU 0 0
set_option maxHeartbeats 4000000 in
set_option maxRecDepth 100000 in
theorem g_M_bits (l : Launch) (D : va_G) (kc : Nat → ClassId) (b : Nat) (T S : SS) (x0 : Int32) (v0 : Int) (hx0 : x0.toInt = v0) (hS : rng S) {vr : Int} (h : f_M_bits S v0 = some vr) : cI l yX13_bits cX13_bits 3 .int 1 D kc b (jM b kc T) S [.int x0] vr S := by
  refine g_beg_i (by decide) (Nat.le_of_ble_eq_true rfl) ?_
  intro p e s m args below meth c Q C ret hM ls hl
  obtain ⟨hx, hb, hml, hown, hts, hE, hbs⟩ := id C
  have hl : lv_has ls 3 [(0, .int x0)] := hl
  unfold f_M_bits at h
  have B4 : ∀ (n : Nat), ∀ (H : Heap) (locs : List Loc) (ls : Array Slot) (x1_ : Int32) (v1_ : Int) (hx1_ : x1_.toInt = v1_) (x2_ : Int32) (v2_ : Int) (hx2_ : x2_.toInt = v2_), rng S → mS D b s 220 (jM b kc T S) H locs → lv_has ls 3 [(0, .int x0), (1, .int x1_), (2, .int x2_)] → f_M_bits_4 S v0 n v1_ v2_ = some vr → W p l e (mR 1 0 0) s m args below meth c H locs 0 0 Q (F0 m 4 ls []) := by
    intro n
    induction n with
    | zero => intro H locs ls x1_ v1_ hx1_ x2_ v2_ hx2_ hS hM hl h; exact absurd (h : none = some _) (fun q => nomatch q)
    | succ n hkf4_ =>
      intro H locs ls x1_ v1_ hx1_ x2_ v2_ hx2_ hS hM hl h
      have h : f_M_bits_4_b S v0 (f_M_bits_4 S v0 n) v1_ v2_ = some vr := h
      unfold f_M_bits_4_b at h
      refine lv_iload_n hx hb dX13_bits_4 rfl (lv_at hl 2 rfl) ?_
      refine lv_bipush (v := 31) hx hb dX13_bits_5 (by decide) ?_
      refine g_icmp_ge (tgt := 24) hx hb hx2_ (show (31 : Int32).toInt = 31 by decide) h dX13_bits_7 (by decide) (fun h => ?_) (fun h => ?_)
      · refine lv_iload_n hx hb dX13_bits_24 rfl (lv_at hl 1 rfl) ?_
        exact ret S _ _ _ _ x1_ (hx1_.trans (Option.some.inj h)) rfl hM hS dX13_bits_25
      · refine lv_iload_n hx hb dX13_bits_10 rfl (lv_at hl 1 rfl) ?_
        refine lv_iload_n hx hb dX13_bits_11 rfl (lv_at hl 0 rfl) ?_
        refine lv_iload_n hx hb dX13_bits_12 rfl (lv_at hl 2 rfl) ?_
        refine g_ishr hx hb hx0 hx2_ dX13_bits_13 (fun z1_z bz1_z => ?_)
        refine lv_iconst (v := 1) hx hb dX13_bits_14 (by decide) ?_
        refine g_iand hx hb bz1_z (show (1 : Int32).toInt = 1 by decide) dX13_bits_15 (fun z2_z bz2_z => ?_)
        refine g_iadd hx hb hx1_ bz2_z h dX13_bits_16 (fun z3_z bz3_z h => ?_)
        refine lv_istore_n (lv' := [(1, .int z3_z), (0, .int x0), (2, .int x2_)]) hx hb dX13_bits_17 rfl hl (by decide) rfl (fun ls hl => ?_)
        refine g_iinc (y := 1) hx hb hx2_ (by decide) (by decide) h dX13_bits_18 hl (k := 2) rfl (by decide) (fun z4_z ls bz4_z h hl => ?_)
        have hl : lv_has ls 3 [(2, .int z4_z), (1, .int z3_z), (0, .int x0)] := hl
        refine lv_goto (tgt := 4) hx hb dX13_bits_21 (by decide) ?_
        exact hkf4_ _ _ _ z3_z (v1_ + (andi (shri v0 v2_) 1)) bz3_z z4_z (v2_ + 1) bz4_z hS hM (lv_sub hl [2, 1, 0] rfl) h
  refine lv_iconst (v := 0) hx hb dX13_bits_0 (by decide) ?_
  refine lv_istore_n (lv' := [(1, .int 0), (0, .int x0)]) hx hb dX13_bits_1 rfl hl (by decide) rfl (fun ls hl => ?_)
  refine lv_iconst (v := 0) hx hb dX13_bits_2 (by decide) ?_
  refine lv_istore_n (lv' := [(2, .int 0), (1, .int 0), (0, .int x0)]) hx hb dX13_bits_3 rfl hl (by decide) rfl (fun ls hl => ?_)
  exact B4 FU _ _ _ 0 0 (show (0 : Int32).toInt = 0 by decide) 0 0 (show (0 : Int32).toInt = 0 by decide) hS hM (lv_sub hl [2, 1, 0] rfl) h

def f_M_trace_258 (kf24_ : SS → Int → Int → Int → Option SS) (S : SS) (v1_ : Int) (v2_ : Int) (vt0_ : Int) (vt1_ : Int) : Option SS := w_chk (i32 (vt1_ + vt0_)) (kf24_ S v1_ v2_ (vt1_ + vt0_))
def f_M_trace_245 (kf24_ : SS → Int → Int → Int → Option SS) (S : SS) (v1_ : Int) (v3_ : Int) (v5_ : Int) (vt0_ : Int) (vt1_ : Int) : Option SS := w_chk (i32 (vt1_ + vt0_)) ((if v5_ = 0 then f_M_trace_258 kf24_ S v1_ (vt1_ + vt0_) 1 v3_ else f_M_trace_258 kf24_ S v1_ (vt1_ + vt0_) 0 v3_))
def f_M_trace_240 (kf24_ : SS → Int → Int → Int → Option SS) (S : SS) (v1_ : Int) (v3_ : Int) (v5_ : Int) (vt0_ : Int) : Option SS := f_M_trace_245 kf24_ S v1_ v3_ v5_ 1 vt0_
def f_M_trace_195 (kf24_ : SS → Int → Int → Int → Option SS) (S : SS) (v1_ : Int) (v2_ : Int) (v3_ : Int) (v4_ : Int) (v5_ : Int) (vt0_ : Int) (vt1_ : Int) : Option SS := w_chk (0 ≤ vt1_ ∧ vt1_ < 470) (w_lt (si S 217 (vt1_).toNat vt0_) (fun S1_z => w_chk (0 ≤ (gi S1_z 192 37) ∧ (gi S1_z 192 37) < 470) (w_lt (si S1_z 218 (gi S1_z 192 37).toNat v2_) (fun S3_z => w_chk (0 ≤ (gi S3_z 192 37) ∧ (gi S3_z 192 37) < 470) (w_lt (si S3_z 219 (gi S3_z 192 37).toNat v3_) (fun S5_z => w_chk (i32 ((gi S5_z 192 37) + 1)) (w_lt (si S5_z 192 37 ((gi S5_z 192 37) + 1)) (fun S8_z => w_chk (i32 (v1_ + (-1))) ((if v4_ = 0 then (if v5_ = 0 then f_M_trace_245 kf24_ S8_z (v1_ + (-1)) v3_ v5_ 0 v2_ else f_M_trace_240 kf24_ S8_z (v1_ + (-1)) v3_ v5_ v2_) else f_M_trace_240 kf24_ S8_z (v1_ + (-1)) v3_ v5_ v2_))))))))))
def f_M_trace_166 (kf24_ : SS → Int → Int → Int → Option SS) (S : SS) (v1_ : Int) (v2_ : Int) (v3_ : Int) (v4_ : Int) (vt0_ : Int) : Option SS := (if v4_ = 0 then (if vt0_ = 0 then f_M_trace_195 kf24_ S v1_ v2_ v3_ v4_ vt0_ 2 (gi S 192 37) else f_M_trace_195 kf24_ S v1_ v2_ v3_ v4_ vt0_ 1 (gi S 192 37)) else f_M_trace_195 kf24_ S v1_ v2_ v3_ v4_ vt0_ 0 (gi S 192 37))
def f_M_trace_165 (kf24_ : SS → Int → Int → Int → Option SS) (S : SS) (v1_ : Int) (v2_ : Int) (v3_ : Int) (v4_ : Int) : Option SS := f_M_trace_166 kf24_ S v1_ v2_ v3_ v4_ 0
def f_M_trace_128 (kf24_ : SS → Int → Int → Int → Option SS) (S : SS) (v1_ : Int) (v2_ : Int) (v3_ : Int) (vt0_ : Int) : Option SS := (if vt0_ = 0 then (if gi S 192 5 ≤ v2_ then f_M_trace_165 kf24_ S v1_ v2_ v3_ vt0_ else w_chk (i32 (v2_ + 1)) (w_b1 (f_M_at S (v2_ + 1) v3_) (fun r3_z => w_chk (0 ≤ r3_z ∧ r3_z < 103041) (w_chk (i32 (v1_ - 1)) ((if gi S 215 (r3_z).toNat = v1_ - 1 then f_M_trace_166 kf24_ S v1_ v2_ v3_ vt0_ 1 else f_M_trace_165 kf24_ S v1_ v2_ v3_ vt0_)))))) else f_M_trace_165 kf24_ S v1_ v2_ v3_ vt0_)
def f_M_trace_127 (kf24_ : SS → Int → Int → Int → Option SS) (S : SS) (v1_ : Int) (v2_ : Int) (v3_ : Int) : Option SS := f_M_trace_128 kf24_ S v1_ v2_ v3_ 0
def f_M_trace_87 (kf24_ : SS → Int → Int → Int → Option SS) (S : SS) (v1_ : Int) (v2_ : Int) (v3_ : Int) : Option SS := (if gi S 192 5 ≤ v2_ then f_M_trace_127 kf24_ S v1_ v2_ v3_ else (if gi S 192 4 ≤ v3_ then f_M_trace_127 kf24_ S v1_ v2_ v3_ else w_chk (i32 (v2_ + 1)) (w_chk (i32 (v3_ + 1)) (w_b1 (f_M_at S (v2_ + 1) (v3_ + 1)) (fun r5_z => w_chk (0 ≤ r5_z ∧ r5_z < 103041) (w_chk (i32 (v1_ - 1)) ((if gi S 215 (r5_z).toNat = v1_ - 1 then f_M_trace_128 kf24_ S v1_ v2_ v3_ 1 else f_M_trace_127 kf24_ S v1_ v2_ v3_))))))))
def f_M_trace_24_b (kf24_ : SS → Int → Int → Int → Option SS) (S : SS) (v1_ : Int) (v2_ : Int) (v3_ : Int) : Option SS := (if v1_ ≤ 0 then some S else (if gi S 192 5 ≤ v2_ then f_M_trace_87 kf24_ S v1_ v2_ v3_ else (if gi S 192 4 ≤ v3_ then f_M_trace_87 kf24_ S v1_ v2_ v3_ else w_chk (0 ≤ v2_ ∧ v2_ < 320) (w_chk (0 ≤ v3_ ∧ v3_ < 150) ((if gl S 195 (v2_).toNat = gl S 194 (v3_).toNat then w_chk (i32 (v2_ + 1)) (w_chk (i32 (v3_ + 1)) (w_b1 (f_M_at S (v2_ + 1) (v3_ + 1)) (fun r7_z => w_chk (0 ≤ r7_z ∧ r7_z < 103041) ((if gi S 215 (r7_z).toNat = v1_ then w_chk (i32 (v2_ + 1)) (w_chk (i32 (v3_ + 1)) (kf24_ S v1_ (v2_ + 1) (v3_ + 1))) else f_M_trace_87 kf24_ S v1_ v2_ v3_))))) else f_M_trace_87 kf24_ S v1_ v2_ v3_))))))
def f_M_trace_24 : Nat → SS → Int → Int → Int → Option SS
  | 0 => fun _ _ _ _ => none
  | n + 1 => f_M_trace_24_b (f_M_trace_24 n)
def f_M_trace (S : SS) : Option SS := w_b2 (f_M_apart S 2 (gi S 192 5) 1 (gi S 192 4)) (fun r4_z S3_z => w_lt (si S3_z 192 37 0) (fun S6_z => f_M_trace_24 FU S6_z r4_z 0 0))
set_option maxHeartbeats 4000000 in
set_option maxRecDepth 100000 in
theorem g_M_trace (l : Launch) (D : va_G) (kc : Nat → ClassId) (b : Nat) (T S : SS) (hS : rng S) {Sr : SS} (h : f_M_trace S = some Sr) : cV l yX13_trace cX13_trace 6 3 D kc b (jM b kc T) S [.ref (b + 192)] Sr := by
  refine g_beg_v (by decide) (Nat.le_of_ble_eq_true rfl) ?_
  intro p e s m args below meth c Q C ret hM ls hl
  obtain ⟨hx, hb, hml, hown, hts, hE, hbs⟩ := id C
  have hl : lv_has ls 6 [(0, .ref (b + 192))] := hl
  unfold f_M_trace at h
  have B258 : ∀ (kf24_ : SS → Int → Int → Int → Option SS) (hkf24_ : ∀ (S : SS) (H : Heap) (locs : List Loc) (ls : Array Slot) (x1_ : Int32) (v1_ : Int) (hx1_ : x1_.toInt = v1_) (x2_ : Int32) (v2_ : Int) (hx2_ : x2_.toInt = v2_) (x3_ : Int32) (v3_ : Int) (hx3_ : x3_.toInt = v3_), rng S → mS D b s 220 (jM b kc T S) H locs → lv_has ls 6 [(0, .ref (b + 192)), (1, .int x1_), (2, .int x2_), (3, .int x3_)] → kf24_ S v1_ v2_ v3_ = some Sr → W p l e (mR 3 0 0) s m args below meth c H locs 0 0 Q (F0 m 24 ls [])), ∀ (S : SS) (H : Heap) (locs : List Loc) (ls : Array Slot) (x1_ : Int32) (v1_ : Int) (hx1_ : x1_.toInt = v1_) (x2_ : Int32) (v2_ : Int) (hx2_ : x2_.toInt = v2_) (xt0_ : Int32) (vt0_ : Int) (hxt0_ : xt0_.toInt = vt0_) (xt1_ : Int32) (vt1_ : Int) (hxt1_ : xt1_.toInt = vt1_), rng S → mS D b s 220 (jM b kc T S) H locs → lv_has ls 6 [(0, .ref (b + 192)), (1, .int x1_), (2, .int x2_)] → f_M_trace_258 kf24_ S v1_ v2_ vt0_ vt1_ = some Sr → W p l e (mR 3 0 0) s m args below meth c H locs 0 0 Q (F0 m 258 ls [.int xt0_, .int xt1_]) := by
    intro kf24_ hkf24_ S H locs ls x1_ v1_ hx1_ x2_ v2_ hx2_ xt0_ vt0_ hxt0_ xt1_ vt1_ hxt1_ hS hM hl h
    unfold f_M_trace_258 at h
    refine g_iadd hx hb hxt1_ hxt0_ h dX13_trace_258 (fun z1_z bz1_z h => ?_)
    refine lv_istore_n (lv' := [(3, .int z1_z), (0, .ref (b + 192)), (1, .int x1_), (2, .int x2_)]) hx hb dX13_trace_259 rfl hl (by decide) rfl (fun ls hl => ?_)
    refine lv_goto (tgt := 24) hx hb dX13_trace_260 (by decide) ?_
    exact hkf24_ S _ _ _ x1_ v1_ hx1_ x2_ v2_ hx2_ z1_z (vt1_ + vt0_) bz1_z hS hM (lv_sub hl [1, 2, 3, 0] rfl) h
  have B245 : ∀ (kf24_ : SS → Int → Int → Int → Option SS) (hkf24_ : ∀ (S : SS) (H : Heap) (locs : List Loc) (ls : Array Slot) (x1_ : Int32) (v1_ : Int) (hx1_ : x1_.toInt = v1_) (x2_ : Int32) (v2_ : Int) (hx2_ : x2_.toInt = v2_) (x3_ : Int32) (v3_ : Int) (hx3_ : x3_.toInt = v3_), rng S → mS D b s 220 (jM b kc T S) H locs → lv_has ls 6 [(0, .ref (b + 192)), (1, .int x1_), (2, .int x2_), (3, .int x3_)] → kf24_ S v1_ v2_ v3_ = some Sr → W p l e (mR 3 0 0) s m args below meth c H locs 0 0 Q (F0 m 24 ls [])), ∀ (S : SS) (H : Heap) (locs : List Loc) (ls : Array Slot) (x1_ : Int32) (v1_ : Int) (hx1_ : x1_.toInt = v1_) (x3_ : Int32) (v3_ : Int) (hx3_ : x3_.toInt = v3_) (x5_ : Int32) (v5_ : Int) (hx5_ : x5_.toInt = v5_) (xt0_ : Int32) (vt0_ : Int) (hxt0_ : xt0_.toInt = vt0_) (xt1_ : Int32) (vt1_ : Int) (hxt1_ : xt1_.toInt = vt1_), rng S → mS D b s 220 (jM b kc T S) H locs → lv_has ls 6 [(0, .ref (b + 192)), (1, .int x1_), (3, .int x3_), (5, .int x5_)] → f_M_trace_245 kf24_ S v1_ v3_ v5_ vt0_ vt1_ = some Sr → W p l e (mR 3 0 0) s m args below meth c H locs 0 0 Q (F0 m 245 ls [.int xt0_, .int xt1_]) := by
    intro kf24_ hkf24_ S H locs ls x1_ v1_ hx1_ x3_ v3_ hx3_ x5_ v5_ hx5_ xt0_ vt0_ hxt0_ xt1_ vt1_ hxt1_ hS hM hl h
    unfold f_M_trace_245 at h
    refine g_iadd hx hb hxt1_ hxt0_ h dX13_trace_245 (fun z1_z bz1_z h => ?_)
    refine lv_istore_n (lv' := [(2, .int z1_z), (0, .ref (b + 192)), (1, .int x1_), (3, .int x3_), (5, .int x5_)]) hx hb dX13_trace_246 rfl hl (by decide) rfl (fun ls hl => ?_)
    refine lv_iload_n hx hb dX13_trace_247 rfl (lv_at hl 3 rfl) ?_
    refine lv_iload hx hb dX13_trace_248 (lv_at hl 4 rfl) ?_
    refine g_if_eq (tgt := 257) hx hb hx5_ h dX13_trace_250 (by decide) (fun h => ?_) (fun h => ?_)
    · refine lv_iconst (v := 1) hx hb dX13_trace_257 (by decide) ?_
      exact B258 kf24_ hkf24_ S _ _ _ x1_ v1_ hx1_ z1_z (vt1_ + vt0_) bz1_z 1 1 (show (1 : Int32).toInt = 1 by decide) x3_ v3_ hx3_ hS hM (lv_sub hl [1, 2, 0] rfl) h
    · refine lv_iconst (v := 0) hx hb dX13_trace_253 (by decide) ?_
      refine lv_goto (tgt := 258) hx hb dX13_trace_254 (by decide) ?_
      exact B258 kf24_ hkf24_ S _ _ _ x1_ v1_ hx1_ z1_z (vt1_ + vt0_) bz1_z 0 0 (show (0 : Int32).toInt = 0 by decide) x3_ v3_ hx3_ hS hM (lv_sub hl [1, 2, 0] rfl) h
  have B240 : ∀ (kf24_ : SS → Int → Int → Int → Option SS) (hkf24_ : ∀ (S : SS) (H : Heap) (locs : List Loc) (ls : Array Slot) (x1_ : Int32) (v1_ : Int) (hx1_ : x1_.toInt = v1_) (x2_ : Int32) (v2_ : Int) (hx2_ : x2_.toInt = v2_) (x3_ : Int32) (v3_ : Int) (hx3_ : x3_.toInt = v3_), rng S → mS D b s 220 (jM b kc T S) H locs → lv_has ls 6 [(0, .ref (b + 192)), (1, .int x1_), (2, .int x2_), (3, .int x3_)] → kf24_ S v1_ v2_ v3_ = some Sr → W p l e (mR 3 0 0) s m args below meth c H locs 0 0 Q (F0 m 24 ls [])), ∀ (S : SS) (H : Heap) (locs : List Loc) (ls : Array Slot) (x1_ : Int32) (v1_ : Int) (hx1_ : x1_.toInt = v1_) (x3_ : Int32) (v3_ : Int) (hx3_ : x3_.toInt = v3_) (x5_ : Int32) (v5_ : Int) (hx5_ : x5_.toInt = v5_) (xt0_ : Int32) (vt0_ : Int) (hxt0_ : xt0_.toInt = vt0_), rng S → mS D b s 220 (jM b kc T S) H locs → lv_has ls 6 [(0, .ref (b + 192)), (1, .int x1_), (3, .int x3_), (5, .int x5_)] → f_M_trace_240 kf24_ S v1_ v3_ v5_ vt0_ = some Sr → W p l e (mR 3 0 0) s m args below meth c H locs 0 0 Q (F0 m 240 ls [.int xt0_]) := by
    intro kf24_ hkf24_ S H locs ls x1_ v1_ hx1_ x3_ v3_ hx3_ x5_ v5_ hx5_ xt0_ vt0_ hxt0_ hS hM hl h
    unfold f_M_trace_240 at h
    refine lv_iconst (v := 1) hx hb dX13_trace_240 (by decide) ?_
    refine lv_goto (tgt := 245) hx hb dX13_trace_241 (by decide) ?_
    exact B245 kf24_ hkf24_ S _ _ _ x1_ v1_ hx1_ x3_ v3_ hx3_ x5_ v5_ hx5_ 1 1 (show (1 : Int32).toInt = 1 by decide) xt0_ vt0_ hxt0_ hS hM (lv_sub hl [0, 1, 2, 3] rfl) h
  have B195 : ∀ (kf24_ : SS → Int → Int → Int → Option SS) (hkf24_ : ∀ (S : SS) (H : Heap) (locs : List Loc) (ls : Array Slot) (x1_ : Int32) (v1_ : Int) (hx1_ : x1_.toInt = v1_) (x2_ : Int32) (v2_ : Int) (hx2_ : x2_.toInt = v2_) (x3_ : Int32) (v3_ : Int) (hx3_ : x3_.toInt = v3_), rng S → mS D b s 220 (jM b kc T S) H locs → lv_has ls 6 [(0, .ref (b + 192)), (1, .int x1_), (2, .int x2_), (3, .int x3_)] → kf24_ S v1_ v2_ v3_ = some Sr → W p l e (mR 3 0 0) s m args below meth c H locs 0 0 Q (F0 m 24 ls [])), ∀ (S : SS) (H : Heap) (locs : List Loc) (ls : Array Slot) (x1_ : Int32) (v1_ : Int) (hx1_ : x1_.toInt = v1_) (x2_ : Int32) (v2_ : Int) (hx2_ : x2_.toInt = v2_) (x3_ : Int32) (v3_ : Int) (hx3_ : x3_.toInt = v3_) (x4_ : Int32) (v4_ : Int) (hx4_ : x4_.toInt = v4_) (x5_ : Int32) (v5_ : Int) (hx5_ : x5_.toInt = v5_) (xt0_ : Int32) (vt0_ : Int) (hxt0_ : xt0_.toInt = vt0_) (xt1_ : Int32) (vt1_ : Int) (hxt1_ : xt1_.toInt = vt1_), rng S → mS D b s 220 (jM b kc T S) H locs → lv_has ls 6 [(0, .ref (b + 192)), (1, .int x1_), (2, .int x2_), (3, .int x3_), (4, .int x4_), (5, .int x5_)] → f_M_trace_195 kf24_ S v1_ v2_ v3_ v4_ v5_ vt0_ vt1_ = some Sr → W p l e (mR 3 0 0) s m args below meth c H locs 0 0 Q (F0 m 195 ls [.int xt0_, .int xt1_, .ref (b + 217)]) := by
    intro kf24_ hkf24_ S H locs ls x1_ v1_ hx1_ x2_ v2_ hx2_ x3_ v3_ hx3_ x4_ v4_ hx4_ x5_ v5_ hx5_ xt0_ vt0_ hxt0_ xt1_ vt1_ hxt1_ hS hM hl h
    unfold f_M_trace_195 at h
    refine g_iast C hM (j := 217) (by omega) (jK_M b kc T (by omega)) (a_217 b kc) hS hxt1_ hxt0_ (B := 470) rfl h dX13_trace_195 (fun S1_z H locs h hM hS => ?_)
    refine lv_aload_n hx hb dX13_trace_196 rfl (lv_at hl 0 rfl) ?_
    refine m_get fl_X13_130_X13 C hM (i := 192) (by omega) (e_192 b kc T S1_z) (v := .ref (b + 218)) rfl dX13_trace_197 ?_
    refine lv_aload_n hx hb dX13_trace_200 rfl (lv_at hl 0 rfl) ?_
    refine g_get fl_X13_335_X13 C hM (i := 192) (r := 192) (by omega) (e_192 b kc T S1_z) rfl hS dX13_trace_201 (fun z2_z bz2_z => ?_)
    refine lv_iload_n hx hb dX13_trace_204 rfl (lv_at hl 2 rfl) ?_
    refine g_iast C hM (j := 218) (by omega) (jK_M b kc T (by omega)) (a_218 b kc) hS bz2_z hx2_ (B := 470) rfl h dX13_trace_205 (fun S3_z H locs h hM hS => ?_)
    refine lv_aload_n hx hb dX13_trace_206 rfl (lv_at hl 0 rfl) ?_
    refine m_get fl_X13_133_X13 C hM (i := 192) (by omega) (e_192 b kc T S3_z) (v := .ref (b + 219)) rfl dX13_trace_207 ?_
    refine lv_aload_n hx hb dX13_trace_210 rfl (lv_at hl 0 rfl) ?_
    refine g_get fl_X13_335_X13 C hM (i := 192) (r := 192) (by omega) (e_192 b kc T S3_z) rfl hS dX13_trace_211 (fun z4_z bz4_z => ?_)
    refine lv_iload_n hx hb dX13_trace_214 rfl (lv_at hl 3 rfl) ?_
    refine g_iast C hM (j := 219) (by omega) (jK_M b kc T (by omega)) (a_219 b kc) hS bz4_z hx3_ (B := 470) rfl h dX13_trace_215 (fun S5_z H locs h hM hS => ?_)
    refine lv_aload_n hx hb dX13_trace_216 rfl (lv_at hl 0 rfl) ?_
    refine lv_dup hx hb dX13_trace_217 rfl ?_
    refine g_get fl_X13_335_X13 C hM (i := 192) (r := 192) (by omega) (e_192 b kc T S5_z) rfl hS dX13_trace_218 (fun z6_z bz6_z => ?_)
    refine lv_iconst (v := 1) hx hb dX13_trace_221 (by decide) ?_
    refine g_iadd hx hb bz6_z (show (1 : Int32).toInt = 1 by decide) h dX13_trace_222 (fun z7_z bz7_z h => ?_)
    refine g_put fl_X13_335_X13 C hM (i := 192) (by omega) (e_192 b kc T S5_z) rfl rfl (Nat.le_of_ble_eq_true rfl) (fs1 := [.ref (b + 193), .ref (b + 194), .ref (b + 195), .int (oi (gi S5_z 192 3)), .int (oi (gi S5_z 192 4)), .int (oi (gi S5_z 192 5)), .ref (b + 196), .ref (b + 197), .int (oi (gi S5_z 192 8)), .int (oi (gi S5_z 192 9)), .int (oi (gi S5_z 192 10)), .int (oi (gi S5_z 192 11)), .int (oi (gi S5_z 192 12)), .int (oi (gi S5_z 192 13)), .int (oi (gi S5_z 192 14)), .int (oi (gi S5_z 192 15)), .ref (b + 198), .ref (b + 199), .ref (b + 200), .ref (b + 201), .ref (b + 202), .ref (b + 203), .ref (b + 204), .ref (b + 205), .ref (b + 206), .ref (b + 207), .ref (b + 208), .int (oi (gi S5_z 192 27)), .ref (b + 209), .ref (b + 210), .ref (b + 211), .ref (b + 212), .ref (b + 213), .ref (b + 214), .ref (b + 215), .int (oi (gi S5_z 192 35)), .int (oi (gi S5_z 192 36)), .int z7_z, .int (oi (gi S5_z 192 38)), .ref (b + 216), .ref (b + 217), .ref (b + 218), .ref (b + 219)]) rfl (p_192_37 bz7_z) (rng_si hS (i32_of bz7_z)) h dX13_trace_223 (fun S8_z H locs h hM hS => ?_)
    refine g_iinc (y := (-1)) hx hb hx1_ (by decide) (by decide) h dX13_trace_226 hl (k := 1) rfl (by decide) (fun z9_z ls bz9_z h hl => ?_)
    have hl : lv_has ls 6 [(1, .int z9_z), (0, .ref (b + 192)), (2, .int x2_), (3, .int x3_), (4, .int x4_), (5, .int x5_)] := hl
    refine lv_iload_n hx hb dX13_trace_229 rfl (lv_at hl 2 rfl) ?_
    refine lv_iload hx hb dX13_trace_230 (lv_at hl 4 rfl) ?_
    refine g_if_ne (tgt := 240) hx hb hx4_ h dX13_trace_232 (by decide) (fun h => ?_) (fun h => ?_)
    · exact B240 kf24_ hkf24_ S8_z _ _ _ z9_z (v1_ + (-1)) bz9_z x3_ v3_ hx3_ x5_ v5_ hx5_ x2_ v2_ hx2_ hS hM (lv_sub hl [1, 0, 3, 5] rfl) h
    · refine lv_iload hx hb dX13_trace_235 (lv_at hl 5 rfl) ?_
      refine g_if_eq (tgt := 244) hx hb hx5_ h dX13_trace_237 (by decide) (fun h => ?_) (fun h => ?_)
      · refine lv_iconst (v := 0) hx hb dX13_trace_244 (by decide) ?_
        exact B245 kf24_ hkf24_ S8_z _ _ _ z9_z (v1_ + (-1)) bz9_z x3_ v3_ hx3_ x5_ v5_ hx5_ 0 0 (show (0 : Int32).toInt = 0 by decide) x2_ v2_ hx2_ hS hM (lv_sub hl [1, 0, 3, 5] rfl) h
      · exact B240 kf24_ hkf24_ S8_z _ _ _ z9_z (v1_ + (-1)) bz9_z x3_ v3_ hx3_ x5_ v5_ hx5_ x2_ v2_ hx2_ hS hM (lv_sub hl [1, 0, 3, 5] rfl) h
  have B166 : ∀ (kf24_ : SS → Int → Int → Int → Option SS) (hkf24_ : ∀ (S : SS) (H : Heap) (locs : List Loc) (ls : Array Slot) (x1_ : Int32) (v1_ : Int) (hx1_ : x1_.toInt = v1_) (x2_ : Int32) (v2_ : Int) (hx2_ : x2_.toInt = v2_) (x3_ : Int32) (v3_ : Int) (hx3_ : x3_.toInt = v3_), rng S → mS D b s 220 (jM b kc T S) H locs → lv_has ls 6 [(0, .ref (b + 192)), (1, .int x1_), (2, .int x2_), (3, .int x3_)] → kf24_ S v1_ v2_ v3_ = some Sr → W p l e (mR 3 0 0) s m args below meth c H locs 0 0 Q (F0 m 24 ls [])), ∀ (S : SS) (H : Heap) (locs : List Loc) (ls : Array Slot) (x1_ : Int32) (v1_ : Int) (hx1_ : x1_.toInt = v1_) (x2_ : Int32) (v2_ : Int) (hx2_ : x2_.toInt = v2_) (x3_ : Int32) (v3_ : Int) (hx3_ : x3_.toInt = v3_) (x4_ : Int32) (v4_ : Int) (hx4_ : x4_.toInt = v4_) (xt0_ : Int32) (vt0_ : Int) (hxt0_ : xt0_.toInt = vt0_), rng S → mS D b s 220 (jM b kc T S) H locs → lv_has ls 6 [(0, .ref (b + 192)), (1, .int x1_), (2, .int x2_), (3, .int x3_), (4, .int x4_)] → f_M_trace_166 kf24_ S v1_ v2_ v3_ v4_ vt0_ = some Sr → W p l e (mR 3 0 0) s m args below meth c H locs 0 0 Q (F0 m 166 ls [.int xt0_]) := by
    intro kf24_ hkf24_ S H locs ls x1_ v1_ hx1_ x2_ v2_ hx2_ x3_ v3_ hx3_ x4_ v4_ hx4_ xt0_ vt0_ hxt0_ hS hM hl h
    unfold f_M_trace_166 at h
    refine lv_istore (lv' := [(5, .int xt0_), (0, .ref (b + 192)), (1, .int x1_), (2, .int x2_), (3, .int x3_), (4, .int x4_)]) hx hb dX13_trace_166 hl (by decide) rfl (fun ls hl => ?_)
    refine lv_aload_n hx hb dX13_trace_168 rfl (lv_at hl 1 rfl) ?_
    refine m_get fl_X13_127_X13 C hM (i := 192) (by omega) (e_192 b kc T S) (v := .ref (b + 217)) rfl dX13_trace_169 ?_
    refine lv_aload_n hx hb dX13_trace_172 rfl (lv_at hl 1 rfl) ?_
    refine g_get fl_X13_335_X13 C hM (i := 192) (r := 192) (by omega) (e_192 b kc T S) rfl hS dX13_trace_173 (fun z1_z bz1_z => ?_)
    refine lv_iload hx hb dX13_trace_176 (lv_at hl 5 rfl) ?_
    refine g_if_eq (tgt := 185) hx hb hx4_ h dX13_trace_178 (by decide) (fun h => ?_) (fun h => ?_)
    · refine lv_iload hx hb dX13_trace_185 (lv_at hl 0 rfl) ?_
      refine g_if_eq (tgt := 194) hx hb hxt0_ h dX13_trace_187 (by decide) (fun h => ?_) (fun h => ?_)
      · refine lv_iconst (v := 2) hx hb dX13_trace_194 (by decide) ?_
        exact B195 kf24_ hkf24_ S _ _ _ x1_ v1_ hx1_ x2_ v2_ hx2_ x3_ v3_ hx3_ x4_ v4_ hx4_ xt0_ vt0_ hxt0_ 2 2 (show (2 : Int32).toInt = 2 by decide) z1_z (gi S 192 37) bz1_z hS hM (lv_sub hl [1, 2, 3, 4, 5, 0] rfl) h
      · refine lv_iconst (v := 1) hx hb dX13_trace_190 (by decide) ?_
        refine lv_goto (tgt := 195) hx hb dX13_trace_191 (by decide) ?_
        exact B195 kf24_ hkf24_ S _ _ _ x1_ v1_ hx1_ x2_ v2_ hx2_ x3_ v3_ hx3_ x4_ v4_ hx4_ xt0_ vt0_ hxt0_ 1 1 (show (1 : Int32).toInt = 1 by decide) z1_z (gi S 192 37) bz1_z hS hM (lv_sub hl [1, 2, 3, 4, 5, 0] rfl) h
    · refine lv_iconst (v := 0) hx hb dX13_trace_181 (by decide) ?_
      refine lv_goto (tgt := 195) hx hb dX13_trace_182 (by decide) ?_
      exact B195 kf24_ hkf24_ S _ _ _ x1_ v1_ hx1_ x2_ v2_ hx2_ x3_ v3_ hx3_ x4_ v4_ hx4_ xt0_ vt0_ hxt0_ 0 0 (show (0 : Int32).toInt = 0 by decide) z1_z (gi S 192 37) bz1_z hS hM (lv_sub hl [1, 2, 3, 4, 5, 0] rfl) h
  have B165 : ∀ (kf24_ : SS → Int → Int → Int → Option SS) (hkf24_ : ∀ (S : SS) (H : Heap) (locs : List Loc) (ls : Array Slot) (x1_ : Int32) (v1_ : Int) (hx1_ : x1_.toInt = v1_) (x2_ : Int32) (v2_ : Int) (hx2_ : x2_.toInt = v2_) (x3_ : Int32) (v3_ : Int) (hx3_ : x3_.toInt = v3_), rng S → mS D b s 220 (jM b kc T S) H locs → lv_has ls 6 [(0, .ref (b + 192)), (1, .int x1_), (2, .int x2_), (3, .int x3_)] → kf24_ S v1_ v2_ v3_ = some Sr → W p l e (mR 3 0 0) s m args below meth c H locs 0 0 Q (F0 m 24 ls [])), ∀ (S : SS) (H : Heap) (locs : List Loc) (ls : Array Slot) (x1_ : Int32) (v1_ : Int) (hx1_ : x1_.toInt = v1_) (x2_ : Int32) (v2_ : Int) (hx2_ : x2_.toInt = v2_) (x3_ : Int32) (v3_ : Int) (hx3_ : x3_.toInt = v3_) (x4_ : Int32) (v4_ : Int) (hx4_ : x4_.toInt = v4_), rng S → mS D b s 220 (jM b kc T S) H locs → lv_has ls 6 [(0, .ref (b + 192)), (1, .int x1_), (2, .int x2_), (3, .int x3_), (4, .int x4_)] → f_M_trace_165 kf24_ S v1_ v2_ v3_ v4_ = some Sr → W p l e (mR 3 0 0) s m args below meth c H locs 0 0 Q (F0 m 165 ls []) := by
    intro kf24_ hkf24_ S H locs ls x1_ v1_ hx1_ x2_ v2_ hx2_ x3_ v3_ hx3_ x4_ v4_ hx4_ hS hM hl h
    unfold f_M_trace_165 at h
    refine lv_iconst (v := 0) hx hb dX13_trace_165 (by decide) ?_
    exact B166 kf24_ hkf24_ S _ _ _ x1_ v1_ hx1_ x2_ v2_ hx2_ x3_ v3_ hx3_ x4_ v4_ hx4_ 0 0 (show (0 : Int32).toInt = 0 by decide) hS hM (lv_sub hl [0, 1, 2, 3, 4] rfl) h
  have B128 : ∀ (kf24_ : SS → Int → Int → Int → Option SS) (hkf24_ : ∀ (S : SS) (H : Heap) (locs : List Loc) (ls : Array Slot) (x1_ : Int32) (v1_ : Int) (hx1_ : x1_.toInt = v1_) (x2_ : Int32) (v2_ : Int) (hx2_ : x2_.toInt = v2_) (x3_ : Int32) (v3_ : Int) (hx3_ : x3_.toInt = v3_), rng S → mS D b s 220 (jM b kc T S) H locs → lv_has ls 6 [(0, .ref (b + 192)), (1, .int x1_), (2, .int x2_), (3, .int x3_)] → kf24_ S v1_ v2_ v3_ = some Sr → W p l e (mR 3 0 0) s m args below meth c H locs 0 0 Q (F0 m 24 ls [])), ∀ (S : SS) (H : Heap) (locs : List Loc) (ls : Array Slot) (x1_ : Int32) (v1_ : Int) (hx1_ : x1_.toInt = v1_) (x2_ : Int32) (v2_ : Int) (hx2_ : x2_.toInt = v2_) (x3_ : Int32) (v3_ : Int) (hx3_ : x3_.toInt = v3_) (xt0_ : Int32) (vt0_ : Int) (hxt0_ : xt0_.toInt = vt0_), rng S → mS D b s 220 (jM b kc T S) H locs → lv_has ls 6 [(0, .ref (b + 192)), (1, .int x1_), (2, .int x2_), (3, .int x3_)] → f_M_trace_128 kf24_ S v1_ v2_ v3_ vt0_ = some Sr → W p l e (mR 3 0 0) s m args below meth c H locs 0 0 Q (F0 m 128 ls [.int xt0_]) := by
    intro kf24_ hkf24_ S H locs ls x1_ v1_ hx1_ x2_ v2_ hx2_ x3_ v3_ hx3_ xt0_ vt0_ hxt0_ hS hM hl h
    unfold f_M_trace_128 at h
    refine lv_istore (lv' := [(4, .int xt0_), (0, .ref (b + 192)), (1, .int x1_), (2, .int x2_), (3, .int x3_)]) hx hb dX13_trace_128 hl (by decide) rfl (fun ls hl => ?_)
    refine lv_iload hx hb dX13_trace_130 (lv_at hl 0 rfl) ?_
    refine g_if_ne (tgt := 165) hx hb hxt0_ h dX13_trace_132 (by decide) (fun h => ?_) (fun h => ?_)
    · exact B165 kf24_ hkf24_ S _ _ _ x1_ v1_ hx1_ x2_ v2_ hx2_ x3_ v3_ hx3_ xt0_ vt0_ hxt0_ hS hM (lv_sub hl [1, 2, 3, 4, 0] rfl) h
    · refine lv_iload_n hx hb dX13_trace_135 rfl (lv_at hl 3 rfl) ?_
      refine lv_aload_n hx hb dX13_trace_136 rfl (lv_at hl 1 rfl) ?_
      refine g_get fl_X13_260_X13 C hM (i := 192) (r := 192) (by omega) (e_192 b kc T S) rfl hS dX13_trace_137 (fun z1_z bz1_z => ?_)
      refine g_icmp_ge (tgt := 165) hx hb hx2_ bz1_z h dX13_trace_140 (by decide) (fun h => ?_) (fun h => ?_)
      · exact B165 kf24_ hkf24_ S _ _ _ x1_ v1_ hx1_ x2_ v2_ hx2_ x3_ v3_ hx3_ xt0_ vt0_ hxt0_ hS hM (lv_sub hl [1, 2, 3, 4, 0] rfl) h
      · refine lv_aload_n hx hb dX13_trace_143 rfl (lv_at hl 1 rfl) ?_
        refine m_get fl_X13_121_X13 C hM (i := 192) (by omega) (e_192 b kc T S) (v := .ref (b + 215)) rfl dX13_trace_144 ?_
        refine lv_iload_n hx hb dX13_trace_147 rfl (lv_at hl 3 rfl) ?_
        refine lv_iconst (v := 1) hx hb dX13_trace_148 (by decide) ?_
        refine g_iadd hx hb hx2_ (show (1 : Int32).toInt = 1 by decide) h dX13_trace_149 (fun z2_z bz2_z h => ?_)
        refine lv_iload_n hx hb dX13_trace_150 rfl (lv_at hl 4 rfl) ?_
        obtain ⟨r3_z, cr3_z, h⟩ := w_b1E h
        refine g_callI (J := jM b kc T) (m_runS calS_X13_at wd_1432 (g_M_at l D kc b T S z2_z (v2_ + 1) bz2_z x3_ v3_ hx3_ hS cr3_z) C hM hl.1 rfl rfl (Nat.le_of_ble_eq_true rfl) dX13_trace_151 ⟨Nat.le_of_ble_eq_true rfl, Nat.le_of_ble_eq_true rfl⟩ ⟨Nat.le_of_ble_eq_true rfl, Nat.le_of_ble_eq_true rfl⟩) hM (fun z4_z H locs bz4_z hM hS => ?_)
        refine g_iald C hM (j := 215) (by omega) (jK_M b kc T (by omega)) (a_215 b kc) hS bz4_z (B := 103041) rfl h dX13_trace_154 (fun z5_z bz5_z h => ?_)
        refine lv_iload_n hx hb dX13_trace_155 rfl (lv_at hl 2 rfl) ?_
        refine lv_iconst (v := 1) hx hb dX13_trace_156 (by decide) ?_
        refine g_isub hx hb hx1_ (show (1 : Int32).toInt = 1 by decide) h dX13_trace_157 (fun z6_z bz6_z h => ?_)
        refine g_icmp_ne (tgt := 165) hx hb bz5_z bz6_z h dX13_trace_158 (by decide) (fun h => ?_) (fun h => ?_)
        · exact B165 kf24_ hkf24_ S _ _ _ x1_ v1_ hx1_ x2_ v2_ hx2_ x3_ v3_ hx3_ xt0_ vt0_ hxt0_ hS hM (lv_sub hl [1, 2, 3, 4, 0] rfl) h
        · refine lv_iconst (v := 1) hx hb dX13_trace_161 (by decide) ?_
          refine lv_goto (tgt := 166) hx hb dX13_trace_162 (by decide) ?_
          exact B166 kf24_ hkf24_ S _ _ _ x1_ v1_ hx1_ x2_ v2_ hx2_ x3_ v3_ hx3_ xt0_ vt0_ hxt0_ 1 1 (show (1 : Int32).toInt = 1 by decide) hS hM (lv_sub hl [1, 2, 3, 4, 0] rfl) h
  have B127 : ∀ (kf24_ : SS → Int → Int → Int → Option SS) (hkf24_ : ∀ (S : SS) (H : Heap) (locs : List Loc) (ls : Array Slot) (x1_ : Int32) (v1_ : Int) (hx1_ : x1_.toInt = v1_) (x2_ : Int32) (v2_ : Int) (hx2_ : x2_.toInt = v2_) (x3_ : Int32) (v3_ : Int) (hx3_ : x3_.toInt = v3_), rng S → mS D b s 220 (jM b kc T S) H locs → lv_has ls 6 [(0, .ref (b + 192)), (1, .int x1_), (2, .int x2_), (3, .int x3_)] → kf24_ S v1_ v2_ v3_ = some Sr → W p l e (mR 3 0 0) s m args below meth c H locs 0 0 Q (F0 m 24 ls [])), ∀ (S : SS) (H : Heap) (locs : List Loc) (ls : Array Slot) (x1_ : Int32) (v1_ : Int) (hx1_ : x1_.toInt = v1_) (x2_ : Int32) (v2_ : Int) (hx2_ : x2_.toInt = v2_) (x3_ : Int32) (v3_ : Int) (hx3_ : x3_.toInt = v3_), rng S → mS D b s 220 (jM b kc T S) H locs → lv_has ls 6 [(0, .ref (b + 192)), (1, .int x1_), (2, .int x2_), (3, .int x3_)] → f_M_trace_127 kf24_ S v1_ v2_ v3_ = some Sr → W p l e (mR 3 0 0) s m args below meth c H locs 0 0 Q (F0 m 127 ls []) := by
    intro kf24_ hkf24_ S H locs ls x1_ v1_ hx1_ x2_ v2_ hx2_ x3_ v3_ hx3_ hS hM hl h
    unfold f_M_trace_127 at h
    refine lv_iconst (v := 0) hx hb dX13_trace_127 (by decide) ?_
    exact B128 kf24_ hkf24_ S _ _ _ x1_ v1_ hx1_ x2_ v2_ hx2_ x3_ v3_ hx3_ 0 0 (show (0 : Int32).toInt = 0 by decide) hS hM (lv_sub hl [0, 1, 2, 3] rfl) h
  have B87 : ∀ (kf24_ : SS → Int → Int → Int → Option SS) (hkf24_ : ∀ (S : SS) (H : Heap) (locs : List Loc) (ls : Array Slot) (x1_ : Int32) (v1_ : Int) (hx1_ : x1_.toInt = v1_) (x2_ : Int32) (v2_ : Int) (hx2_ : x2_.toInt = v2_) (x3_ : Int32) (v3_ : Int) (hx3_ : x3_.toInt = v3_), rng S → mS D b s 220 (jM b kc T S) H locs → lv_has ls 6 [(0, .ref (b + 192)), (1, .int x1_), (2, .int x2_), (3, .int x3_)] → kf24_ S v1_ v2_ v3_ = some Sr → W p l e (mR 3 0 0) s m args below meth c H locs 0 0 Q (F0 m 24 ls [])), ∀ (S : SS) (H : Heap) (locs : List Loc) (ls : Array Slot) (x1_ : Int32) (v1_ : Int) (hx1_ : x1_.toInt = v1_) (x2_ : Int32) (v2_ : Int) (hx2_ : x2_.toInt = v2_) (x3_ : Int32) (v3_ : Int) (hx3_ : x3_.toInt = v3_), rng S → mS D b s 220 (jM b kc T S) H locs → lv_has ls 6 [(0, .ref (b + 192)), (1, .int x1_), (2, .int x2_), (3, .int x3_)] → f_M_trace_87 kf24_ S v1_ v2_ v3_ = some Sr → W p l e (mR 3 0 0) s m args below meth c H locs 0 0 Q (F0 m 87 ls []) := by
    intro kf24_ hkf24_ S H locs ls x1_ v1_ hx1_ x2_ v2_ hx2_ x3_ v3_ hx3_ hS hM hl h
    unfold f_M_trace_87 at h
    refine lv_iload_n hx hb dX13_trace_87 rfl (lv_at hl 2 rfl) ?_
    refine lv_aload_n hx hb dX13_trace_88 rfl (lv_at hl 0 rfl) ?_
    refine g_get fl_X13_260_X13 C hM (i := 192) (r := 192) (by omega) (e_192 b kc T S) rfl hS dX13_trace_89 (fun z1_z bz1_z => ?_)
    refine g_icmp_ge (tgt := 127) hx hb hx2_ bz1_z h dX13_trace_92 (by decide) (fun h => ?_) (fun h => ?_)
    · exact B127 kf24_ hkf24_ S _ _ _ x1_ v1_ hx1_ x2_ v2_ hx2_ x3_ v3_ hx3_ hS hM (lv_sub hl [0, 1, 2, 3] rfl) h
    · refine lv_iload_n hx hb dX13_trace_95 rfl (lv_at hl 3 rfl) ?_
      refine lv_aload_n hx hb dX13_trace_96 rfl (lv_at hl 0 rfl) ?_
      refine g_get fl_X13_156_X13 C hM (i := 192) (r := 192) (by omega) (e_192 b kc T S) rfl hS dX13_trace_97 (fun z2_z bz2_z => ?_)
      refine g_icmp_ge (tgt := 127) hx hb hx3_ bz2_z h dX13_trace_100 (by decide) (fun h => ?_) (fun h => ?_)
      · exact B127 kf24_ hkf24_ S _ _ _ x1_ v1_ hx1_ x2_ v2_ hx2_ x3_ v3_ hx3_ hS hM (lv_sub hl [0, 1, 2, 3] rfl) h
      · refine lv_aload_n hx hb dX13_trace_103 rfl (lv_at hl 0 rfl) ?_
        refine m_get fl_X13_121_X13 C hM (i := 192) (by omega) (e_192 b kc T S) (v := .ref (b + 215)) rfl dX13_trace_104 ?_
        refine lv_iload_n hx hb dX13_trace_107 rfl (lv_at hl 2 rfl) ?_
        refine lv_iconst (v := 1) hx hb dX13_trace_108 (by decide) ?_
        refine g_iadd hx hb hx2_ (show (1 : Int32).toInt = 1 by decide) h dX13_trace_109 (fun z3_z bz3_z h => ?_)
        refine lv_iload_n hx hb dX13_trace_110 rfl (lv_at hl 3 rfl) ?_
        refine lv_iconst (v := 1) hx hb dX13_trace_111 (by decide) ?_
        refine g_iadd hx hb hx3_ (show (1 : Int32).toInt = 1 by decide) h dX13_trace_112 (fun z4_z bz4_z h => ?_)
        obtain ⟨r5_z, cr5_z, h⟩ := w_b1E h
        refine g_callI (J := jM b kc T) (m_runS calS_X13_at wd_1432 (g_M_at l D kc b T S z3_z (v2_ + 1) bz3_z z4_z (v3_ + 1) bz4_z hS cr5_z) C hM hl.1 rfl rfl (Nat.le_of_ble_eq_true rfl) dX13_trace_113 ⟨Nat.le_of_ble_eq_true rfl, Nat.le_of_ble_eq_true rfl⟩ ⟨Nat.le_of_ble_eq_true rfl, Nat.le_of_ble_eq_true rfl⟩) hM (fun z6_z H locs bz6_z hM hS => ?_)
        refine g_iald C hM (j := 215) (by omega) (jK_M b kc T (by omega)) (a_215 b kc) hS bz6_z (B := 103041) rfl h dX13_trace_116 (fun z7_z bz7_z h => ?_)
        refine lv_iload_n hx hb dX13_trace_117 rfl (lv_at hl 1 rfl) ?_
        refine lv_iconst (v := 1) hx hb dX13_trace_118 (by decide) ?_
        refine g_isub hx hb hx1_ (show (1 : Int32).toInt = 1 by decide) h dX13_trace_119 (fun z8_z bz8_z h => ?_)
        refine g_icmp_ne (tgt := 127) hx hb bz7_z bz8_z h dX13_trace_120 (by decide) (fun h => ?_) (fun h => ?_)
        · exact B127 kf24_ hkf24_ S _ _ _ x1_ v1_ hx1_ x2_ v2_ hx2_ x3_ v3_ hx3_ hS hM (lv_sub hl [0, 1, 2, 3] rfl) h
        · refine lv_iconst (v := 1) hx hb dX13_trace_123 (by decide) ?_
          refine lv_goto (tgt := 128) hx hb dX13_trace_124 (by decide) ?_
          exact B128 kf24_ hkf24_ S _ _ _ x1_ v1_ hx1_ x2_ v2_ hx2_ x3_ v3_ hx3_ 1 1 (show (1 : Int32).toInt = 1 by decide) hS hM (lv_sub hl [0, 1, 2, 3] rfl) h
  have B24 : ∀ (n : Nat), ∀ (S : SS) (H : Heap) (locs : List Loc) (ls : Array Slot) (x1_ : Int32) (v1_ : Int) (hx1_ : x1_.toInt = v1_) (x2_ : Int32) (v2_ : Int) (hx2_ : x2_.toInt = v2_) (x3_ : Int32) (v3_ : Int) (hx3_ : x3_.toInt = v3_), rng S → mS D b s 220 (jM b kc T S) H locs → lv_has ls 6 [(0, .ref (b + 192)), (1, .int x1_), (2, .int x2_), (3, .int x3_)] → f_M_trace_24 n S v1_ v2_ v3_ = some Sr → W p l e (mR 3 0 0) s m args below meth c H locs 0 0 Q (F0 m 24 ls []) := by
    intro n
    induction n with
    | zero => intro S H locs ls x1_ v1_ hx1_ x2_ v2_ hx2_ x3_ v3_ hx3_ hS hM hl h; exact absurd (h : none = some _) (fun q => nomatch q)
    | succ n hkf24_ =>
      intro S H locs ls x1_ v1_ hx1_ x2_ v2_ hx2_ x3_ v3_ hx3_ hS hM hl h
      have h : f_M_trace_24_b (f_M_trace_24 n) S v1_ v2_ v3_ = some Sr := h
      unfold f_M_trace_24_b at h
      refine lv_iload_n hx hb dX13_trace_24 rfl (lv_at hl 1 rfl) ?_
      refine g_if_le (tgt := 263) hx hb hx1_ h dX13_trace_25 (by decide) (fun h => ?_) (fun h => ?_)
      · exact ret S _ _ _ _ (Option.some.inj h) hM hS dX13_trace_263
      · refine lv_iload_n hx hb dX13_trace_28 rfl (lv_at hl 2 rfl) ?_
        refine lv_aload_n hx hb dX13_trace_29 rfl (lv_at hl 0 rfl) ?_
        refine g_get fl_X13_260_X13 C hM (i := 192) (r := 192) (by omega) (e_192 b kc T S) rfl hS dX13_trace_30 (fun z1_z bz1_z => ?_)
        refine g_icmp_ge (tgt := 87) hx hb hx2_ bz1_z h dX13_trace_33 (by decide) (fun h => ?_) (fun h => ?_)
        · exact B87 (f_M_trace_24 n) hkf24_ S _ _ _ x1_ v1_ hx1_ x2_ v2_ hx2_ x3_ v3_ hx3_ hS hM (lv_sub hl [0, 1, 2, 3] rfl) h
        · refine lv_iload_n hx hb dX13_trace_36 rfl (lv_at hl 3 rfl) ?_
          refine lv_aload_n hx hb dX13_trace_37 rfl (lv_at hl 0 rfl) ?_
          refine g_get fl_X13_156_X13 C hM (i := 192) (r := 192) (by omega) (e_192 b kc T S) rfl hS dX13_trace_38 (fun z2_z bz2_z => ?_)
          refine g_icmp_ge (tgt := 87) hx hb hx3_ bz2_z h dX13_trace_41 (by decide) (fun h => ?_) (fun h => ?_)
          · exact B87 (f_M_trace_24 n) hkf24_ S _ _ _ x1_ v1_ hx1_ x2_ v2_ hx2_ x3_ v3_ hx3_ hS hM (lv_sub hl [0, 1, 2, 3] rfl) h
          · refine lv_aload_n hx hb dX13_trace_44 rfl (lv_at hl 0 rfl) ?_
            refine m_get fl_X13_64_X13 C hM (i := 192) (by omega) (e_192 b kc T S) (v := .ref (b + 195)) rfl dX13_trace_45 ?_
            refine lv_iload_n hx hb dX13_trace_48 rfl (lv_at hl 2 rfl) ?_
            refine g_lald C hM (j := 195) (by omega) (jK_M b kc T (by omega)) (a_195 b kc) hx2_ (B := 320) rfl h dX13_trace_49 (fun h => ?_)
            refine lv_aload_n hx hb dX13_trace_50 rfl (lv_at hl 0 rfl) ?_
            refine m_get fl_X13_61_X13 C hM (i := 192) (by omega) (e_192 b kc T S) (v := .ref (b + 194)) rfl dX13_trace_51 ?_
            refine lv_iload_n hx hb dX13_trace_54 rfl (lv_at hl 3 rfl) ?_
            refine g_lald C hM (j := 194) (by omega) (jK_M b kc T (by omega)) (a_194 b kc) hx3_ (B := 150) rfl h dX13_trace_55 (fun h => ?_)
            refine g_lcmp_ne (tgt := 87) hx hb h dX13_trace_56 dX13_trace_57 (by decide) (fun h => ?_) (fun h => ?_)
            · exact B87 (f_M_trace_24 n) hkf24_ S _ _ _ x1_ v1_ hx1_ x2_ v2_ hx2_ x3_ v3_ hx3_ hS hM (lv_sub hl [0, 1, 2, 3] rfl) h
            · refine lv_aload_n hx hb dX13_trace_60 rfl (lv_at hl 0 rfl) ?_
              refine m_get fl_X13_121_X13 C hM (i := 192) (by omega) (e_192 b kc T S) (v := .ref (b + 215)) rfl dX13_trace_61 ?_
              refine lv_iload_n hx hb dX13_trace_64 rfl (lv_at hl 2 rfl) ?_
              refine lv_iconst (v := 1) hx hb dX13_trace_65 (by decide) ?_
              refine g_iadd hx hb hx2_ (show (1 : Int32).toInt = 1 by decide) h dX13_trace_66 (fun z5_z bz5_z h => ?_)
              refine lv_iload_n hx hb dX13_trace_67 rfl (lv_at hl 3 rfl) ?_
              refine lv_iconst (v := 1) hx hb dX13_trace_68 (by decide) ?_
              refine g_iadd hx hb hx3_ (show (1 : Int32).toInt = 1 by decide) h dX13_trace_69 (fun z6_z bz6_z h => ?_)
              obtain ⟨r7_z, cr7_z, h⟩ := w_b1E h
              refine g_callI (J := jM b kc T) (m_runS calS_X13_at wd_1432 (g_M_at l D kc b T S z5_z (v2_ + 1) bz5_z z6_z (v3_ + 1) bz6_z hS cr7_z) C hM hl.1 rfl rfl (Nat.le_of_ble_eq_true rfl) dX13_trace_70 ⟨Nat.le_of_ble_eq_true rfl, Nat.le_of_ble_eq_true rfl⟩ ⟨Nat.le_of_ble_eq_true rfl, Nat.le_of_ble_eq_true rfl⟩) hM (fun z8_z H locs bz8_z hM hS => ?_)
              refine g_iald C hM (j := 215) (by omega) (jK_M b kc T (by omega)) (a_215 b kc) hS bz8_z (B := 103041) rfl h dX13_trace_73 (fun z9_z bz9_z h => ?_)
              refine lv_iload_n hx hb dX13_trace_74 rfl (lv_at hl 1 rfl) ?_
              refine g_icmp_ne (tgt := 87) hx hb bz9_z hx1_ h dX13_trace_75 (by decide) (fun h => ?_) (fun h => ?_)
              · exact B87 (f_M_trace_24 n) hkf24_ S _ _ _ x1_ v1_ hx1_ x2_ v2_ hx2_ x3_ v3_ hx3_ hS hM (lv_sub hl [0, 1, 2, 3] rfl) h
              · refine g_iinc (y := 1) hx hb hx2_ (by decide) (by decide) h dX13_trace_78 hl (k := 2) rfl (by decide) (fun z10_z ls bz10_z h hl => ?_)
                have hl : lv_has ls 6 [(2, .int z10_z), (0, .ref (b + 192)), (1, .int x1_), (3, .int x3_)] := hl
                refine g_iinc (y := 1) hx hb hx3_ (by decide) (by decide) h dX13_trace_81 hl (k := 3) rfl (by decide) (fun z11_z ls bz11_z h hl => ?_)
                have hl : lv_has ls 6 [(3, .int z11_z), (2, .int z10_z), (0, .ref (b + 192)), (1, .int x1_)] := hl
                refine lv_goto (tgt := 24) hx hb dX13_trace_84 (by decide) ?_
                exact hkf24_ S _ _ _ x1_ v1_ hx1_ z10_z (v2_ + 1) bz10_z z11_z (v3_ + 1) bz11_z hS hM (lv_sub hl [2, 3, 1, 0] rfl) h
  refine lv_aload_n hx hb dX13_trace_0 rfl (lv_at hl 0 rfl) ?_
  refine lv_iconst (v := 2) hx hb dX13_trace_1 (by decide) ?_
  refine lv_aload_n hx hb dX13_trace_2 rfl (lv_at hl 0 rfl) ?_
  refine g_get fl_X13_260_X13 C hM (i := 192) (r := 192) (by omega) (e_192 b kc T S) rfl hS dX13_trace_3 (fun z1_z bz1_z => ?_)
  refine lv_iconst (v := 1) hx hb dX13_trace_6 (by decide) ?_
  refine lv_aload_n hx hb dX13_trace_7 rfl (lv_at hl 0 rfl) ?_
  refine g_get fl_X13_156_X13 C hM (i := 192) (r := 192) (by omega) (e_192 b kc T S) rfl hS dX13_trace_8 (fun z2_z bz2_z => ?_)
  obtain ⟨r4_z, S3_z, cr4_z, h⟩ := w_b2E h
  refine g_callI (J := jM b kc T) (m_runV calV_X13_apart wd_1428 (g_M_apart l D kc b T S 2 2 (show (2 : Int32).toInt = 2 by decide) z1_z (gi S 192 5) bz1_z 1 1 (show (1 : Int32).toInt = 1 by decide) z2_z (gi S 192 4) bz2_z hS cr4_z) C hM (i := 192) (by omega) (e_192 b kc T S) rfl hl.1 rfl rfl (Nat.le_of_ble_eq_true rfl) dX13_trace_11 ⟨Nat.le_of_ble_eq_true rfl, Nat.le_of_ble_eq_true rfl⟩ ⟨Nat.le_of_ble_eq_true rfl, Nat.le_of_ble_eq_true rfl⟩) hM (fun z5_z H locs bz5_z hM hS => ?_)
  refine lv_istore_n (lv' := [(1, .int z5_z), (0, .ref (b + 192))]) hx hb dX13_trace_14 rfl hl (by decide) rfl (fun ls hl => ?_)
  refine lv_aload_n hx hb dX13_trace_15 rfl (lv_at hl 1 rfl) ?_
  refine lv_iconst (v := 0) hx hb dX13_trace_16 (by decide) ?_
  refine g_put fl_X13_335_X13 C hM (i := 192) (by omega) (e_192 b kc T S3_z) rfl rfl (Nat.le_of_ble_eq_true rfl) (fs1 := [.ref (b + 193), .ref (b + 194), .ref (b + 195), .int (oi (gi S3_z 192 3)), .int (oi (gi S3_z 192 4)), .int (oi (gi S3_z 192 5)), .ref (b + 196), .ref (b + 197), .int (oi (gi S3_z 192 8)), .int (oi (gi S3_z 192 9)), .int (oi (gi S3_z 192 10)), .int (oi (gi S3_z 192 11)), .int (oi (gi S3_z 192 12)), .int (oi (gi S3_z 192 13)), .int (oi (gi S3_z 192 14)), .int (oi (gi S3_z 192 15)), .ref (b + 198), .ref (b + 199), .ref (b + 200), .ref (b + 201), .ref (b + 202), .ref (b + 203), .ref (b + 204), .ref (b + 205), .ref (b + 206), .ref (b + 207), .ref (b + 208), .int (oi (gi S3_z 192 27)), .ref (b + 209), .ref (b + 210), .ref (b + 211), .ref (b + 212), .ref (b + 213), .ref (b + 214), .ref (b + 215), .int (oi (gi S3_z 192 35)), .int (oi (gi S3_z 192 36)), .int 0, .int (oi (gi S3_z 192 38)), .ref (b + 216), .ref (b + 217), .ref (b + 218), .ref (b + 219)]) rfl (p_192_37 (show (0 : Int32).toInt = 0 by decide)) (rng_si hS (i32_of (show (0 : Int32).toInt = 0 by decide))) h dX13_trace_17 (fun S6_z H locs h hM hS => ?_)
  refine lv_iconst (v := 0) hx hb dX13_trace_20 (by decide) ?_
  refine lv_istore_n (lv' := [(2, .int 0), (1, .int z5_z), (0, .ref (b + 192))]) hx hb dX13_trace_21 rfl hl (by decide) rfl (fun ls hl => ?_)
  refine lv_iconst (v := 0) hx hb dX13_trace_22 (by decide) ?_
  refine lv_istore_n (lv' := [(3, .int 0), (2, .int 0), (1, .int z5_z), (0, .ref (b + 192))]) hx hb dX13_trace_23 rfl hl (by decide) rfl (fun ls hl => ?_)
  exact B24 FU S6_z _ _ _ z5_z r4_z bz5_z 0 0 (show (0 : Int32).toInt = 0 by decide) 0 0 (show (0 : Int32).toInt = 0 by decide) hS hM (lv_sub hl [3, 2, 1, 0] rfl) h

def f_M_hold_31 (kf8_ : SS → Int → Int → Option (Int × SS)) (S : SS) (v2_ : Int) (vt0_ : Int) (vt1_ : Int) : Option (Int × SS) := w_chk (i32 (vt1_ + vt0_)) (w_chk (i32 (v2_ + 1)) (kf8_ S (vt1_ + vt0_) (v2_ + 1)))
def f_M_hold_155 (kf55_ : SS → Int → Int → Int → Int → Option (Int × SS)) (S : SS) (v1_ : Int) (v2_ : Int) (v3_ : Int) (v4_ : Int) : Option (Int × SS) := w_chk (i32 (v4_ + 1)) (kf55_ S v1_ v2_ v3_ (v4_ + 1))
def f_M_hold_139 (kf55_ : SS → Int → Int → Int → Int → Option (Int × SS)) (S : SS) (v1_ : Int) (v2_ : Int) (v3_ : Int) (v4_ : Int) (v5_ : Int) (vt0_ : Int) : Option (Int × SS) := (if vt0_ = 0 then f_M_hold_155 kf55_ S v1_ v2_ v3_ v4_ else f_M_hold_155 kf55_ S v1_ v4_ v5_ v4_)
def f_M_hold_134 (kf55_ : SS → Int → Int → Int → Int → Option (Int × SS)) (S : SS) (v1_ : Int) (v2_ : Int) (v3_ : Int) (v4_ : Int) (v5_ : Int) : Option (Int × SS) := f_M_hold_139 kf55_ S v1_ v2_ v3_ v4_ v5_ 1
def f_M_hold_138 (kf55_ : SS → Int → Int → Int → Int → Option (Int × SS)) (S : SS) (v1_ : Int) (v2_ : Int) (v3_ : Int) (v4_ : Int) (v5_ : Int) : Option (Int × SS) := f_M_hold_139 kf55_ S v1_ v2_ v3_ v4_ v5_ 0
def f_M_hold_238 (kf182_ : SS → Int → Int → Int → Int → Option (Int × SS)) (S : SS) (v2_ : Int) (v3_ : Int) (v4_ : Int) (v5_ : Int) : Option (Int × SS) := w_chk (i32 (v5_ + 1)) (kf182_ S v2_ v3_ v4_ (v5_ + 1))
def f_M_hold_235 (kf182_ : SS → Int → Int → Int → Int → Option (Int × SS)) (S : SS) (v2_ : Int) (v3_ : Int) (v4_ : Int) (v5_ : Int) : Option (Int × SS) := w_chk (i32 (v4_ + 1)) (f_M_hold_238 kf182_ S v2_ v3_ (v4_ + 1) v5_)
def f_M_hold_182_b (kf182_ : SS → Int → Int → Int → Int → Option (Int × SS)) (S : SS) (v2_ : Int) (v3_ : Int) (v4_ : Int) (v5_ : Int) : Option (Int × SS) := (if gi S 192 27 ≤ v5_ then w_b1 (f_M_make S v2_) (fun S2_z => w_b1 (f_M_trace S2_z) (fun S4_z => some (v3_, S4_z))) else w_chk (0 ≤ v5_ ∧ v5_ < 40) ((if gi S 212 (v5_).toNat = 0 then (if andi (shri v2_ v4_) 1 = 1 then w_chk (0 ≤ (gi S 192 36) ∧ (gi S 192 36) < 8) (w_lt (si S 216 (gi S 192 36).toNat v5_) (fun S10_z => w_chk (i32 ((gi S10_z 192 36) + 1)) (w_lt (si S10_z 192 36 ((gi S10_z 192 36) + 1)) (fun S13_z => f_M_hold_235 kf182_ S13_z v2_ v3_ v4_ v5_)))) else f_M_hold_235 kf182_ S v2_ v3_ v4_ v5_) else f_M_hold_238 kf182_ S v2_ v3_ v4_ v5_)))
def f_M_hold_182 : Nat → SS → Int → Int → Int → Int → Option (Int × SS)
  | 0 => fun _ _ _ _ _ => none
  | n + 1 => f_M_hold_182_b (f_M_hold_182 n)
def f_M_hold_55_b (kf55_ : SS → Int → Int → Int → Int → Option (Int × SS)) (S : SS) (v1_ : Int) (v2_ : Int) (v3_ : Int) (v4_ : Int) : Option (Int × SS) := (if shli 1 v1_ ≤ v4_ then w_lt (si S 192 38 1) (fun S2_z => w_lt (si S2_z 192 35 v2_) (fun S3_z => w_lt (si S3_z 192 36 0) (fun S4_z => f_M_hold_182 FU S4_z v2_ v3_ 0 0))) else w_b1 (f_M_make S v4_) (fun S5_z => w_b2 (f_M_apart S5_z 2 (gi S5_z 192 5) 1 (gi S5_z 192 4)) (fun r11_z S10_z => w_chk (i32 ((gi S5_z 211 0) * r11_z)) (w_b1 (f_M_bits S10_z v4_) (fun r15_z => w_chk (i32 ((gi S10_z 211 1) * r15_z)) (w_chk (i32 (((gi S5_z 211 0) * r11_z) + ((gi S10_z 211 1) * r15_z))) ((if v2_ = (-1) then f_M_hold_134 kf55_ S10_z v1_ v2_ v3_ v4_ (((gi S5_z 211 0) * r11_z) + ((gi S10_z 211 1) * r15_z)) else (if ((gi S5_z 211 0) * r11_z) + ((gi S10_z 211 1) * r15_z) < v3_ then f_M_hold_134 kf55_ S10_z v1_ v2_ v3_ v4_ (((gi S5_z 211 0) * r11_z) + ((gi S10_z 211 1) * r15_z)) else (if ((gi S5_z 211 0) * r11_z) + ((gi S10_z 211 1) * r15_z) = v3_ then w_b1 (f_M_bits S10_z v4_) (fun r19_z => w_b1 (f_M_bits S10_z v2_) (fun r21_z => (if r21_z ≤ r19_z then f_M_hold_138 kf55_ S10_z v1_ v2_ v3_ v4_ (((gi S5_z 211 0) * r11_z) + ((gi S10_z 211 1) * r15_z)) else f_M_hold_134 kf55_ S10_z v1_ v2_ v3_ v4_ (((gi S5_z 211 0) * r11_z) + ((gi S10_z 211 1) * r15_z))))) else f_M_hold_138 kf55_ S10_z v1_ v2_ v3_ v4_ (((gi S5_z 211 0) * r11_z) + ((gi S10_z 211 1) * r15_z))))))))))))
def f_M_hold_55 : Nat → SS → Int → Int → Int → Int → Option (Int × SS)
  | 0 => fun _ _ _ _ _ => none
  | n + 1 => f_M_hold_55_b (f_M_hold_55 n)
def f_M_hold_8_b (kf8_ : SS → Int → Int → Option (Int × SS)) (S : SS) (v1_ : Int) (v2_ : Int) : Option (Int × SS) := (if gi S 192 27 ≤ v2_ then (if v1_ ≤ 8 then f_M_hold_55 FU S v1_ (-1) 0 0 else some ((-3), S)) else w_chk (0 ≤ v2_ ∧ v2_ < 40) ((if gi S 212 (v2_).toNat = 0 then f_M_hold_31 kf8_ S v2_ 1 v1_ else f_M_hold_31 kf8_ S v2_ 0 v1_)))
def f_M_hold_8 : Nat → SS → Int → Int → Option (Int × SS)
  | 0 => fun _ _ _ => none
  | n + 1 => f_M_hold_8_b (f_M_hold_8 n)
def f_M_hold (S : SS) : Option (Int × SS) := w_b1 (f_M_judge S) (fun S1_z => f_M_hold_8 FU S1_z 0 0)
set_option maxHeartbeats 4000000 in
set_option maxRecDepth 100000 in
theorem g_M_hold (l : Launch) (D : va_G) (kc : Nat → ClassId) (b : Nat) (T S : SS) (hS : rng S) {vr : Int} {Sr : SS} (h : f_M_hold S = some (vr, Sr)) : cI l yX13_hold cX13_hold 7 .int 94 D kc b (jM b kc T) S [.ref (b + 192)] vr Sr := by
  refine g_beg_i (by decide) (Nat.le_of_ble_eq_true rfl) ?_
  intro p e s m args below meth c Q C ret hM ls hl
  obtain ⟨hx, hb, hml, hown, hts, hE, hbs⟩ := id C
  have hl : lv_has ls 7 [(0, .ref (b + 192))] := hl
  unfold f_M_hold at h
  have B31 : ∀ (kf8_ : SS → Int → Int → Option (Int × SS)) (hkf8_ : ∀ (S : SS) (H : Heap) (locs : List Loc) (ls : Array Slot) (x1_ : Int32) (v1_ : Int) (hx1_ : x1_.toInt = v1_) (x2_ : Int32) (v2_ : Int) (hx2_ : x2_.toInt = v2_), rng S → mS D b s 220 (jM b kc T S) H locs → lv_has ls 7 [(0, .ref (b + 192)), (1, .int x1_), (2, .int x2_)] → kf8_ S v1_ v2_ = some (vr, Sr) → W p l e (mR 94 0 0) s m args below meth c H locs 0 0 Q (F0 m 8 ls [])), ∀ (S : SS) (H : Heap) (locs : List Loc) (ls : Array Slot) (x2_ : Int32) (v2_ : Int) (hx2_ : x2_.toInt = v2_) (xt0_ : Int32) (vt0_ : Int) (hxt0_ : xt0_.toInt = vt0_) (xt1_ : Int32) (vt1_ : Int) (hxt1_ : xt1_.toInt = vt1_), rng S → mS D b s 220 (jM b kc T S) H locs → lv_has ls 7 [(0, .ref (b + 192)), (2, .int x2_)] → f_M_hold_31 kf8_ S v2_ vt0_ vt1_ = some (vr, Sr) → W p l e (mR 94 0 0) s m args below meth c H locs 0 0 Q (F0 m 31 ls [.int xt0_, .int xt1_]) := by
    intro kf8_ hkf8_ S H locs ls x2_ v2_ hx2_ xt0_ vt0_ hxt0_ xt1_ vt1_ hxt1_ hS hM hl h
    unfold f_M_hold_31 at h
    refine g_iadd hx hb hxt1_ hxt0_ h dX13_hold_31 (fun z1_z bz1_z h => ?_)
    refine lv_istore_n (lv' := [(1, .int z1_z), (0, .ref (b + 192)), (2, .int x2_)]) hx hb dX13_hold_32 rfl hl (by decide) rfl (fun ls hl => ?_)
    refine g_iinc (y := 1) hx hb hx2_ (by decide) (by decide) h dX13_hold_33 hl (k := 2) rfl (by decide) (fun z2_z ls bz2_z h hl => ?_)
    have hl : lv_has ls 7 [(2, .int z2_z), (1, .int z1_z), (0, .ref (b + 192))] := hl
    refine lv_goto (tgt := 8) hx hb dX13_hold_36 (by decide) ?_
    exact hkf8_ S _ _ _ z1_z (vt1_ + vt0_) bz1_z z2_z (v2_ + 1) bz2_z hS hM (lv_sub hl [2, 1, 0] rfl) h
  have B155 : ∀ (kf55_ : SS → Int → Int → Int → Int → Option (Int × SS)) (hkf55_ : ∀ (S : SS) (H : Heap) (locs : List Loc) (ls : Array Slot) (x1_ : Int32) (v1_ : Int) (hx1_ : x1_.toInt = v1_) (x2_ : Int32) (v2_ : Int) (hx2_ : x2_.toInt = v2_) (x3_ : Int32) (v3_ : Int) (hx3_ : x3_.toInt = v3_) (x4_ : Int32) (v4_ : Int) (hx4_ : x4_.toInt = v4_), rng S → mS D b s 220 (jM b kc T S) H locs → lv_has ls 7 [(0, .ref (b + 192)), (1, .int x1_), (2, .int x2_), (3, .int x3_), (4, .int x4_)] → kf55_ S v1_ v2_ v3_ v4_ = some (vr, Sr) → W p l e (mR 94 0 0) s m args below meth c H locs 0 0 Q (F0 m 55 ls [])), ∀ (S : SS) (H : Heap) (locs : List Loc) (ls : Array Slot) (x1_ : Int32) (v1_ : Int) (hx1_ : x1_.toInt = v1_) (x2_ : Int32) (v2_ : Int) (hx2_ : x2_.toInt = v2_) (x3_ : Int32) (v3_ : Int) (hx3_ : x3_.toInt = v3_) (x4_ : Int32) (v4_ : Int) (hx4_ : x4_.toInt = v4_), rng S → mS D b s 220 (jM b kc T S) H locs → lv_has ls 7 [(0, .ref (b + 192)), (1, .int x1_), (2, .int x2_), (3, .int x3_), (4, .int x4_)] → f_M_hold_155 kf55_ S v1_ v2_ v3_ v4_ = some (vr, Sr) → W p l e (mR 94 0 0) s m args below meth c H locs 0 0 Q (F0 m 155 ls []) := by
    intro kf55_ hkf55_ S H locs ls x1_ v1_ hx1_ x2_ v2_ hx2_ x3_ v3_ hx3_ x4_ v4_ hx4_ hS hM hl h
    unfold f_M_hold_155 at h
    refine g_iinc (y := 1) hx hb hx4_ (by decide) (by decide) h dX13_hold_155 hl (k := 4) rfl (by decide) (fun z1_z ls bz1_z h hl => ?_)
    have hl : lv_has ls 7 [(4, .int z1_z), (0, .ref (b + 192)), (1, .int x1_), (2, .int x2_), (3, .int x3_)] := hl
    refine lv_goto (tgt := 55) hx hb dX13_hold_158 (by decide) ?_
    exact hkf55_ S _ _ _ x1_ v1_ hx1_ x2_ v2_ hx2_ x3_ v3_ hx3_ z1_z (v4_ + 1) bz1_z hS hM (lv_sub hl [1, 2, 3, 4, 0] rfl) h
  have B139 : ∀ (kf55_ : SS → Int → Int → Int → Int → Option (Int × SS)) (hkf55_ : ∀ (S : SS) (H : Heap) (locs : List Loc) (ls : Array Slot) (x1_ : Int32) (v1_ : Int) (hx1_ : x1_.toInt = v1_) (x2_ : Int32) (v2_ : Int) (hx2_ : x2_.toInt = v2_) (x3_ : Int32) (v3_ : Int) (hx3_ : x3_.toInt = v3_) (x4_ : Int32) (v4_ : Int) (hx4_ : x4_.toInt = v4_), rng S → mS D b s 220 (jM b kc T S) H locs → lv_has ls 7 [(0, .ref (b + 192)), (1, .int x1_), (2, .int x2_), (3, .int x3_), (4, .int x4_)] → kf55_ S v1_ v2_ v3_ v4_ = some (vr, Sr) → W p l e (mR 94 0 0) s m args below meth c H locs 0 0 Q (F0 m 55 ls [])), ∀ (S : SS) (H : Heap) (locs : List Loc) (ls : Array Slot) (x1_ : Int32) (v1_ : Int) (hx1_ : x1_.toInt = v1_) (x2_ : Int32) (v2_ : Int) (hx2_ : x2_.toInt = v2_) (x3_ : Int32) (v3_ : Int) (hx3_ : x3_.toInt = v3_) (x4_ : Int32) (v4_ : Int) (hx4_ : x4_.toInt = v4_) (x5_ : Int32) (v5_ : Int) (hx5_ : x5_.toInt = v5_) (xt0_ : Int32) (vt0_ : Int) (hxt0_ : xt0_.toInt = vt0_), rng S → mS D b s 220 (jM b kc T S) H locs → lv_has ls 7 [(0, .ref (b + 192)), (1, .int x1_), (2, .int x2_), (3, .int x3_), (4, .int x4_), (5, .int x5_)] → f_M_hold_139 kf55_ S v1_ v2_ v3_ v4_ v5_ vt0_ = some (vr, Sr) → W p l e (mR 94 0 0) s m args below meth c H locs 0 0 Q (F0 m 139 ls [.int xt0_]) := by
    intro kf55_ hkf55_ S H locs ls x1_ v1_ hx1_ x2_ v2_ hx2_ x3_ v3_ hx3_ x4_ v4_ hx4_ x5_ v5_ hx5_ xt0_ vt0_ hxt0_ hS hM hl h
    unfold f_M_hold_139 at h
    refine lv_istore (lv' := [(6, .int xt0_), (0, .ref (b + 192)), (1, .int x1_), (2, .int x2_), (3, .int x3_), (4, .int x4_), (5, .int x5_)]) hx hb dX13_hold_139 hl (by decide) rfl (fun ls hl => ?_)
    refine lv_iload hx hb dX13_hold_141 (lv_at hl 0 rfl) ?_
    refine g_if_ne (tgt := 149) hx hb hxt0_ h dX13_hold_143 (by decide) (fun h => ?_) (fun h => ?_)
    · refine lv_iload hx hb dX13_hold_149 (lv_at hl 5 rfl) ?_
      refine lv_istore_n (lv' := [(2, .int x4_), (6, .int xt0_), (0, .ref (b + 192)), (1, .int x1_), (3, .int x3_), (4, .int x4_), (5, .int x5_)]) hx hb dX13_hold_151 rfl hl (by decide) rfl (fun ls hl => ?_)
      refine lv_iload hx hb dX13_hold_152 (lv_at hl 6 rfl) ?_
      refine lv_istore_n (lv' := [(3, .int x5_), (2, .int x4_), (6, .int xt0_), (0, .ref (b + 192)), (1, .int x1_), (4, .int x4_), (5, .int x5_)]) hx hb dX13_hold_154 rfl hl (by decide) rfl (fun ls hl => ?_)
      exact B155 kf55_ hkf55_ S _ _ _ x1_ v1_ hx1_ x4_ v4_ hx4_ x5_ v5_ hx5_ x4_ v4_ hx4_ hS hM (lv_sub hl [3, 4, 1, 0, 5] rfl) h
    · refine lv_goto (tgt := 155) hx hb dX13_hold_146 (by decide) ?_
      exact B155 kf55_ hkf55_ S _ _ _ x1_ v1_ hx1_ x2_ v2_ hx2_ x3_ v3_ hx3_ x4_ v4_ hx4_ hS hM (lv_sub hl [1, 2, 3, 4, 5] rfl) h
  have B134 : ∀ (kf55_ : SS → Int → Int → Int → Int → Option (Int × SS)) (hkf55_ : ∀ (S : SS) (H : Heap) (locs : List Loc) (ls : Array Slot) (x1_ : Int32) (v1_ : Int) (hx1_ : x1_.toInt = v1_) (x2_ : Int32) (v2_ : Int) (hx2_ : x2_.toInt = v2_) (x3_ : Int32) (v3_ : Int) (hx3_ : x3_.toInt = v3_) (x4_ : Int32) (v4_ : Int) (hx4_ : x4_.toInt = v4_), rng S → mS D b s 220 (jM b kc T S) H locs → lv_has ls 7 [(0, .ref (b + 192)), (1, .int x1_), (2, .int x2_), (3, .int x3_), (4, .int x4_)] → kf55_ S v1_ v2_ v3_ v4_ = some (vr, Sr) → W p l e (mR 94 0 0) s m args below meth c H locs 0 0 Q (F0 m 55 ls [])), ∀ (S : SS) (H : Heap) (locs : List Loc) (ls : Array Slot) (x1_ : Int32) (v1_ : Int) (hx1_ : x1_.toInt = v1_) (x2_ : Int32) (v2_ : Int) (hx2_ : x2_.toInt = v2_) (x3_ : Int32) (v3_ : Int) (hx3_ : x3_.toInt = v3_) (x4_ : Int32) (v4_ : Int) (hx4_ : x4_.toInt = v4_) (x5_ : Int32) (v5_ : Int) (hx5_ : x5_.toInt = v5_), rng S → mS D b s 220 (jM b kc T S) H locs → lv_has ls 7 [(0, .ref (b + 192)), (1, .int x1_), (2, .int x2_), (3, .int x3_), (4, .int x4_), (5, .int x5_)] → f_M_hold_134 kf55_ S v1_ v2_ v3_ v4_ v5_ = some (vr, Sr) → W p l e (mR 94 0 0) s m args below meth c H locs 0 0 Q (F0 m 134 ls []) := by
    intro kf55_ hkf55_ S H locs ls x1_ v1_ hx1_ x2_ v2_ hx2_ x3_ v3_ hx3_ x4_ v4_ hx4_ x5_ v5_ hx5_ hS hM hl h
    unfold f_M_hold_134 at h
    refine lv_iconst (v := 1) hx hb dX13_hold_134 (by decide) ?_
    refine lv_goto (tgt := 139) hx hb dX13_hold_135 (by decide) ?_
    exact B139 kf55_ hkf55_ S _ _ _ x1_ v1_ hx1_ x2_ v2_ hx2_ x3_ v3_ hx3_ x4_ v4_ hx4_ x5_ v5_ hx5_ 1 1 (show (1 : Int32).toInt = 1 by decide) hS hM (lv_sub hl [0, 1, 2, 3, 4, 5] rfl) h
  have B138 : ∀ (kf55_ : SS → Int → Int → Int → Int → Option (Int × SS)) (hkf55_ : ∀ (S : SS) (H : Heap) (locs : List Loc) (ls : Array Slot) (x1_ : Int32) (v1_ : Int) (hx1_ : x1_.toInt = v1_) (x2_ : Int32) (v2_ : Int) (hx2_ : x2_.toInt = v2_) (x3_ : Int32) (v3_ : Int) (hx3_ : x3_.toInt = v3_) (x4_ : Int32) (v4_ : Int) (hx4_ : x4_.toInt = v4_), rng S → mS D b s 220 (jM b kc T S) H locs → lv_has ls 7 [(0, .ref (b + 192)), (1, .int x1_), (2, .int x2_), (3, .int x3_), (4, .int x4_)] → kf55_ S v1_ v2_ v3_ v4_ = some (vr, Sr) → W p l e (mR 94 0 0) s m args below meth c H locs 0 0 Q (F0 m 55 ls [])), ∀ (S : SS) (H : Heap) (locs : List Loc) (ls : Array Slot) (x1_ : Int32) (v1_ : Int) (hx1_ : x1_.toInt = v1_) (x2_ : Int32) (v2_ : Int) (hx2_ : x2_.toInt = v2_) (x3_ : Int32) (v3_ : Int) (hx3_ : x3_.toInt = v3_) (x4_ : Int32) (v4_ : Int) (hx4_ : x4_.toInt = v4_) (x5_ : Int32) (v5_ : Int) (hx5_ : x5_.toInt = v5_), rng S → mS D b s 220 (jM b kc T S) H locs → lv_has ls 7 [(0, .ref (b + 192)), (1, .int x1_), (2, .int x2_), (3, .int x3_), (4, .int x4_), (5, .int x5_)] → f_M_hold_138 kf55_ S v1_ v2_ v3_ v4_ v5_ = some (vr, Sr) → W p l e (mR 94 0 0) s m args below meth c H locs 0 0 Q (F0 m 138 ls []) := by
    intro kf55_ hkf55_ S H locs ls x1_ v1_ hx1_ x2_ v2_ hx2_ x3_ v3_ hx3_ x4_ v4_ hx4_ x5_ v5_ hx5_ hS hM hl h
    unfold f_M_hold_138 at h
    refine lv_iconst (v := 0) hx hb dX13_hold_138 (by decide) ?_
    exact B139 kf55_ hkf55_ S _ _ _ x1_ v1_ hx1_ x2_ v2_ hx2_ x3_ v3_ hx3_ x4_ v4_ hx4_ x5_ v5_ hx5_ 0 0 (show (0 : Int32).toInt = 0 by decide) hS hM (lv_sub hl [0, 1, 2, 3, 4, 5] rfl) h
  have B238 : ∀ (kf182_ : SS → Int → Int → Int → Int → Option (Int × SS)) (hkf182_ : ∀ (S : SS) (H : Heap) (locs : List Loc) (ls : Array Slot) (x2_ : Int32) (v2_ : Int) (hx2_ : x2_.toInt = v2_) (x3_ : Int32) (v3_ : Int) (hx3_ : x3_.toInt = v3_) (x4_ : Int32) (v4_ : Int) (hx4_ : x4_.toInt = v4_) (x5_ : Int32) (v5_ : Int) (hx5_ : x5_.toInt = v5_), rng S → mS D b s 220 (jM b kc T S) H locs → lv_has ls 7 [(0, .ref (b + 192)), (2, .int x2_), (3, .int x3_), (4, .int x4_), (5, .int x5_)] → kf182_ S v2_ v3_ v4_ v5_ = some (vr, Sr) → W p l e (mR 94 0 0) s m args below meth c H locs 0 0 Q (F0 m 182 ls [])), ∀ (S : SS) (H : Heap) (locs : List Loc) (ls : Array Slot) (x2_ : Int32) (v2_ : Int) (hx2_ : x2_.toInt = v2_) (x3_ : Int32) (v3_ : Int) (hx3_ : x3_.toInt = v3_) (x4_ : Int32) (v4_ : Int) (hx4_ : x4_.toInt = v4_) (x5_ : Int32) (v5_ : Int) (hx5_ : x5_.toInt = v5_), rng S → mS D b s 220 (jM b kc T S) H locs → lv_has ls 7 [(0, .ref (b + 192)), (2, .int x2_), (3, .int x3_), (4, .int x4_), (5, .int x5_)] → f_M_hold_238 kf182_ S v2_ v3_ v4_ v5_ = some (vr, Sr) → W p l e (mR 94 0 0) s m args below meth c H locs 0 0 Q (F0 m 238 ls []) := by
    intro kf182_ hkf182_ S H locs ls x2_ v2_ hx2_ x3_ v3_ hx3_ x4_ v4_ hx4_ x5_ v5_ hx5_ hS hM hl h
    unfold f_M_hold_238 at h
    refine g_iinc (y := 1) hx hb hx5_ (by decide) (by decide) h dX13_hold_238 hl (k := 4) rfl (by decide) (fun z1_z ls bz1_z h hl => ?_)
    have hl : lv_has ls 7 [(5, .int z1_z), (0, .ref (b + 192)), (2, .int x2_), (3, .int x3_), (4, .int x4_)] := hl
    refine lv_goto (tgt := 182) hx hb dX13_hold_241 (by decide) ?_
    exact hkf182_ S _ _ _ x2_ v2_ hx2_ x3_ v3_ hx3_ x4_ v4_ hx4_ z1_z (v5_ + 1) bz1_z hS hM (lv_sub hl [1, 2, 3, 4, 0] rfl) h
  have B235 : ∀ (kf182_ : SS → Int → Int → Int → Int → Option (Int × SS)) (hkf182_ : ∀ (S : SS) (H : Heap) (locs : List Loc) (ls : Array Slot) (x2_ : Int32) (v2_ : Int) (hx2_ : x2_.toInt = v2_) (x3_ : Int32) (v3_ : Int) (hx3_ : x3_.toInt = v3_) (x4_ : Int32) (v4_ : Int) (hx4_ : x4_.toInt = v4_) (x5_ : Int32) (v5_ : Int) (hx5_ : x5_.toInt = v5_), rng S → mS D b s 220 (jM b kc T S) H locs → lv_has ls 7 [(0, .ref (b + 192)), (2, .int x2_), (3, .int x3_), (4, .int x4_), (5, .int x5_)] → kf182_ S v2_ v3_ v4_ v5_ = some (vr, Sr) → W p l e (mR 94 0 0) s m args below meth c H locs 0 0 Q (F0 m 182 ls [])), ∀ (S : SS) (H : Heap) (locs : List Loc) (ls : Array Slot) (x2_ : Int32) (v2_ : Int) (hx2_ : x2_.toInt = v2_) (x3_ : Int32) (v3_ : Int) (hx3_ : x3_.toInt = v3_) (x4_ : Int32) (v4_ : Int) (hx4_ : x4_.toInt = v4_) (x5_ : Int32) (v5_ : Int) (hx5_ : x5_.toInt = v5_), rng S → mS D b s 220 (jM b kc T S) H locs → lv_has ls 7 [(0, .ref (b + 192)), (2, .int x2_), (3, .int x3_), (4, .int x4_), (5, .int x5_)] → f_M_hold_235 kf182_ S v2_ v3_ v4_ v5_ = some (vr, Sr) → W p l e (mR 94 0 0) s m args below meth c H locs 0 0 Q (F0 m 235 ls []) := by
    intro kf182_ hkf182_ S H locs ls x2_ v2_ hx2_ x3_ v3_ hx3_ x4_ v4_ hx4_ x5_ v5_ hx5_ hS hM hl h
    unfold f_M_hold_235 at h
    refine g_iinc (y := 1) hx hb hx4_ (by decide) (by decide) h dX13_hold_235 hl (k := 3) rfl (by decide) (fun z1_z ls bz1_z h hl => ?_)
    have hl : lv_has ls 7 [(4, .int z1_z), (0, .ref (b + 192)), (2, .int x2_), (3, .int x3_), (5, .int x5_)] := hl
    exact B238 kf182_ hkf182_ S _ _ _ x2_ v2_ hx2_ x3_ v3_ hx3_ z1_z (v4_ + 1) bz1_z x5_ v5_ hx5_ hS hM (lv_sub hl [1, 2, 3, 0, 4] rfl) h
  have B182 : ∀ (n : Nat), ∀ (S : SS) (H : Heap) (locs : List Loc) (ls : Array Slot) (x2_ : Int32) (v2_ : Int) (hx2_ : x2_.toInt = v2_) (x3_ : Int32) (v3_ : Int) (hx3_ : x3_.toInt = v3_) (x4_ : Int32) (v4_ : Int) (hx4_ : x4_.toInt = v4_) (x5_ : Int32) (v5_ : Int) (hx5_ : x5_.toInt = v5_), rng S → mS D b s 220 (jM b kc T S) H locs → lv_has ls 7 [(0, .ref (b + 192)), (2, .int x2_), (3, .int x3_), (4, .int x4_), (5, .int x5_)] → f_M_hold_182 n S v2_ v3_ v4_ v5_ = some (vr, Sr) → W p l e (mR 94 0 0) s m args below meth c H locs 0 0 Q (F0 m 182 ls []) := by
    intro n
    induction n with
    | zero => intro S H locs ls x2_ v2_ hx2_ x3_ v3_ hx3_ x4_ v4_ hx4_ x5_ v5_ hx5_ hS hM hl h; exact absurd (h : none = some _) (fun q => nomatch q)
    | succ n hkf182_ =>
      intro S H locs ls x2_ v2_ hx2_ x3_ v3_ hx3_ x4_ v4_ hx4_ x5_ v5_ hx5_ hS hM hl h
      have h : f_M_hold_182_b (f_M_hold_182 n) S v2_ v3_ v4_ v5_ = some (vr, Sr) := h
      unfold f_M_hold_182_b at h
      refine lv_iload hx hb dX13_hold_182 (lv_at hl 4 rfl) ?_
      refine lv_aload_n hx hb dX13_hold_184 rfl (lv_at hl 0 rfl) ?_
      refine g_get fl_X13_153_X13 C hM (i := 192) (r := 192) (by omega) (e_192 b kc T S) rfl hS dX13_hold_185 (fun z1_z bz1_z => ?_)
      refine g_icmp_ge (tgt := 244) hx hb hx5_ bz1_z h dX13_hold_188 (by decide) (fun h => ?_) (fun h => ?_)
      · refine lv_aload_n hx hb dX13_hold_244 rfl (lv_at hl 0 rfl) ?_
        refine lv_iload_n hx hb dX13_hold_245 rfl (lv_at hl 1 rfl) ?_
        obtain ⟨S2_z, cS2_z, h⟩ := w_b1E h
        refine g_callV (J := jM b kc T) (m_runV calV_X13_make wd_1380 (g_M_make l D kc b T S x2_ v2_ hx2_ hS cS2_z) C hM (i := 192) (by omega) (e_192 b kc T S) rfl hl.1 rfl rfl (Nat.le_of_ble_eq_true rfl) dX13_hold_246 ⟨Nat.le_of_ble_eq_true rfl, Nat.le_of_ble_eq_true rfl⟩ ⟨Nat.le_of_ble_eq_true rfl, Nat.le_of_ble_eq_true rfl⟩) hM (fun H locs hM hS => ?_)
        refine lv_aload_n hx hb dX13_hold_249 rfl (lv_at hl 0 rfl) ?_
        obtain ⟨S4_z, cS4_z, h⟩ := w_b1E h
        refine g_callV (J := jM b kc T) (m_runV calV_X13_trace wd_1447 (g_M_trace l D kc b T S2_z hS cS4_z) C hM (i := 192) (by omega) (e_192 b kc T S2_z) rfl hl.1 rfl rfl (Nat.le_of_ble_eq_true rfl) dX13_hold_250 ⟨Nat.le_of_ble_eq_true rfl, Nat.le_of_ble_eq_true rfl⟩ ⟨Nat.le_of_ble_eq_true rfl, Nat.le_of_ble_eq_true rfl⟩) hM (fun H locs hM hS => ?_)
        refine lv_iload_n hx hb dX13_hold_253 rfl (lv_at hl 2 rfl) ?_
        exact ret S4_z _ _ _ _ x3_ (hx3_.trans (r_1 h)) (r_2 h) hM hS dX13_hold_254
      · refine lv_aload_n hx hb dX13_hold_191 rfl (lv_at hl 0 rfl) ?_
        refine m_get fl_X13_111_X13 C hM (i := 192) (by omega) (e_192 b kc T S) (v := .ref (b + 212)) rfl dX13_hold_192 ?_
        refine lv_iload hx hb dX13_hold_195 (lv_at hl 4 rfl) ?_
        refine g_iald C hM (j := 212) (by omega) (jK_M b kc T (by omega)) (a_212 b kc) hS hx5_ (B := 40) rfl h dX13_hold_197 (fun z6_z bz6_z h => ?_)
        refine g_if_eq (tgt := 204) hx hb bz6_z h dX13_hold_198 (by decide) (fun h => ?_) (fun h => ?_)
        · refine lv_iload_n hx hb dX13_hold_204 rfl (lv_at hl 1 rfl) ?_
          refine lv_iload hx hb dX13_hold_205 (lv_at hl 3 rfl) ?_
          refine g_ishr hx hb hx2_ hx4_ dX13_hold_207 (fun z7_z bz7_z => ?_)
          refine lv_iconst (v := 1) hx hb dX13_hold_208 (by decide) ?_
          refine g_iand hx hb bz7_z (show (1 : Int32).toInt = 1 by decide) dX13_hold_209 (fun z8_z bz8_z => ?_)
          refine lv_iconst (v := 1) hx hb dX13_hold_210 (by decide) ?_
          refine g_icmp_ne (tgt := 235) hx hb bz8_z (show (1 : Int32).toInt = 1 by decide) h dX13_hold_211 (by decide) (fun h => ?_) (fun h => ?_)
          · exact B235 (f_M_hold_182 n) hkf182_ S _ _ _ x2_ v2_ hx2_ x3_ v3_ hx3_ x4_ v4_ hx4_ x5_ v5_ hx5_ hS hM (lv_sub hl [0, 1, 2, 3, 4] rfl) h
          · refine lv_aload_n hx hb dX13_hold_214 rfl (lv_at hl 0 rfl) ?_
            refine m_get fl_X13_124_X13 C hM (i := 192) (by omega) (e_192 b kc T S) (v := .ref (b + 216)) rfl dX13_hold_215 ?_
            refine lv_aload_n hx hb dX13_hold_218 rfl (lv_at hl 0 rfl) ?_
            refine g_get fl_X13_329_X13 C hM (i := 192) (r := 192) (by omega) (e_192 b kc T S) rfl hS dX13_hold_219 (fun z9_z bz9_z => ?_)
            refine lv_iload hx hb dX13_hold_222 (lv_at hl 4 rfl) ?_
            refine g_iast C hM (j := 216) (by omega) (jK_M b kc T (by omega)) (a_216 b kc) hS bz9_z hx5_ (B := 8) rfl h dX13_hold_224 (fun S10_z H locs h hM hS => ?_)
            refine lv_aload_n hx hb dX13_hold_225 rfl (lv_at hl 0 rfl) ?_
            refine lv_dup hx hb dX13_hold_226 rfl ?_
            refine g_get fl_X13_329_X13 C hM (i := 192) (r := 192) (by omega) (e_192 b kc T S10_z) rfl hS dX13_hold_227 (fun z11_z bz11_z => ?_)
            refine lv_iconst (v := 1) hx hb dX13_hold_230 (by decide) ?_
            refine g_iadd hx hb bz11_z (show (1 : Int32).toInt = 1 by decide) h dX13_hold_231 (fun z12_z bz12_z h => ?_)
            refine g_put fl_X13_329_X13 C hM (i := 192) (by omega) (e_192 b kc T S10_z) rfl rfl (Nat.le_of_ble_eq_true rfl) (fs1 := [.ref (b + 193), .ref (b + 194), .ref (b + 195), .int (oi (gi S10_z 192 3)), .int (oi (gi S10_z 192 4)), .int (oi (gi S10_z 192 5)), .ref (b + 196), .ref (b + 197), .int (oi (gi S10_z 192 8)), .int (oi (gi S10_z 192 9)), .int (oi (gi S10_z 192 10)), .int (oi (gi S10_z 192 11)), .int (oi (gi S10_z 192 12)), .int (oi (gi S10_z 192 13)), .int (oi (gi S10_z 192 14)), .int (oi (gi S10_z 192 15)), .ref (b + 198), .ref (b + 199), .ref (b + 200), .ref (b + 201), .ref (b + 202), .ref (b + 203), .ref (b + 204), .ref (b + 205), .ref (b + 206), .ref (b + 207), .ref (b + 208), .int (oi (gi S10_z 192 27)), .ref (b + 209), .ref (b + 210), .ref (b + 211), .ref (b + 212), .ref (b + 213), .ref (b + 214), .ref (b + 215), .int (oi (gi S10_z 192 35)), .int z12_z, .int (oi (gi S10_z 192 37)), .int (oi (gi S10_z 192 38)), .ref (b + 216), .ref (b + 217), .ref (b + 218), .ref (b + 219)]) rfl (p_192_36 bz12_z) (rng_si hS (i32_of bz12_z)) h dX13_hold_232 (fun S13_z H locs h hM hS => ?_)
            exact B235 (f_M_hold_182 n) hkf182_ S13_z _ _ _ x2_ v2_ hx2_ x3_ v3_ hx3_ x4_ v4_ hx4_ x5_ v5_ hx5_ hS hM (lv_sub hl [0, 1, 2, 3, 4] rfl) h
        · refine lv_goto (tgt := 238) hx hb dX13_hold_201 (by decide) ?_
          exact B238 (f_M_hold_182 n) hkf182_ S _ _ _ x2_ v2_ hx2_ x3_ v3_ hx3_ x4_ v4_ hx4_ x5_ v5_ hx5_ hS hM (lv_sub hl [0, 1, 2, 3, 4] rfl) h
  have B55 : ∀ (n : Nat), ∀ (S : SS) (H : Heap) (locs : List Loc) (ls : Array Slot) (x1_ : Int32) (v1_ : Int) (hx1_ : x1_.toInt = v1_) (x2_ : Int32) (v2_ : Int) (hx2_ : x2_.toInt = v2_) (x3_ : Int32) (v3_ : Int) (hx3_ : x3_.toInt = v3_) (x4_ : Int32) (v4_ : Int) (hx4_ : x4_.toInt = v4_), rng S → mS D b s 220 (jM b kc T S) H locs → lv_has ls 7 [(0, .ref (b + 192)), (1, .int x1_), (2, .int x2_), (3, .int x3_), (4, .int x4_)] → f_M_hold_55 n S v1_ v2_ v3_ v4_ = some (vr, Sr) → W p l e (mR 94 0 0) s m args below meth c H locs 0 0 Q (F0 m 55 ls []) := by
    intro n
    induction n with
    | zero => intro S H locs ls x1_ v1_ hx1_ x2_ v2_ hx2_ x3_ v3_ hx3_ x4_ v4_ hx4_ hS hM hl h; exact absurd (h : none = some _) (fun q => nomatch q)
    | succ n hkf55_ =>
      intro S H locs ls x1_ v1_ hx1_ x2_ v2_ hx2_ x3_ v3_ hx3_ x4_ v4_ hx4_ hS hM hl h
      have h : f_M_hold_55_b (f_M_hold_55 n) S v1_ v2_ v3_ v4_ = some (vr, Sr) := h
      unfold f_M_hold_55_b at h
      refine lv_iload hx hb dX13_hold_55 (lv_at hl 4 rfl) ?_
      refine lv_iconst (v := 1) hx hb dX13_hold_57 (by decide) ?_
      refine lv_iload_n hx hb dX13_hold_58 rfl (lv_at hl 1 rfl) ?_
      refine g_ishl hx hb (show (1 : Int32).toInt = 1 by decide) hx1_ dX13_hold_59 (fun z1_z bz1_z => ?_)
      refine g_icmp_ge (tgt := 161) hx hb hx4_ bz1_z h dX13_hold_60 (by decide) (fun h => ?_) (fun h => ?_)
      · refine lv_aload_n hx hb dX13_hold_161 rfl (lv_at hl 0 rfl) ?_
        refine lv_iconst (v := 1) hx hb dX13_hold_162 (by decide) ?_
        refine g_put fl_X13_322_X13 C hM (i := 192) (by omega) (e_192 b kc T S) (z_nar (show (1 : Int32).toInt = 1 by decide) (by decide)) (z_fit (show (1 : Int32).toInt = 1 by decide) (by decide)) (Nat.le_of_ble_eq_true rfl) (fs1 := [.ref (b + 193), .ref (b + 194), .ref (b + 195), .int (oi (gi S 192 3)), .int (oi (gi S 192 4)), .int (oi (gi S 192 5)), .ref (b + 196), .ref (b + 197), .int (oi (gi S 192 8)), .int (oi (gi S 192 9)), .int (oi (gi S 192 10)), .int (oi (gi S 192 11)), .int (oi (gi S 192 12)), .int (oi (gi S 192 13)), .int (oi (gi S 192 14)), .int (oi (gi S 192 15)), .ref (b + 198), .ref (b + 199), .ref (b + 200), .ref (b + 201), .ref (b + 202), .ref (b + 203), .ref (b + 204), .ref (b + 205), .ref (b + 206), .ref (b + 207), .ref (b + 208), .int (oi (gi S 192 27)), .ref (b + 209), .ref (b + 210), .ref (b + 211), .ref (b + 212), .ref (b + 213), .ref (b + 214), .ref (b + 215), .int (oi (gi S 192 35)), .int (oi (gi S 192 36)), .int (oi (gi S 192 37)), .int 1, .ref (b + 216), .ref (b + 217), .ref (b + 218), .ref (b + 219)]) rfl (p_192_38 (show (1 : Int32).toInt = 1 by decide)) (rng_si hS (i32_of (show (1 : Int32).toInt = 1 by decide))) h dX13_hold_163 (fun S2_z H locs h hM hS => ?_)
        refine lv_aload_n hx hb dX13_hold_166 rfl (lv_at hl 0 rfl) ?_
        refine lv_iload_n hx hb dX13_hold_167 rfl (lv_at hl 2 rfl) ?_
        refine g_put fl_X13_326_X13 C hM (i := 192) (by omega) (e_192 b kc T S2_z) rfl rfl (Nat.le_of_ble_eq_true rfl) (fs1 := [.ref (b + 193), .ref (b + 194), .ref (b + 195), .int (oi (gi S2_z 192 3)), .int (oi (gi S2_z 192 4)), .int (oi (gi S2_z 192 5)), .ref (b + 196), .ref (b + 197), .int (oi (gi S2_z 192 8)), .int (oi (gi S2_z 192 9)), .int (oi (gi S2_z 192 10)), .int (oi (gi S2_z 192 11)), .int (oi (gi S2_z 192 12)), .int (oi (gi S2_z 192 13)), .int (oi (gi S2_z 192 14)), .int (oi (gi S2_z 192 15)), .ref (b + 198), .ref (b + 199), .ref (b + 200), .ref (b + 201), .ref (b + 202), .ref (b + 203), .ref (b + 204), .ref (b + 205), .ref (b + 206), .ref (b + 207), .ref (b + 208), .int (oi (gi S2_z 192 27)), .ref (b + 209), .ref (b + 210), .ref (b + 211), .ref (b + 212), .ref (b + 213), .ref (b + 214), .ref (b + 215), .int x2_, .int (oi (gi S2_z 192 36)), .int (oi (gi S2_z 192 37)), .int (oi (gi S2_z 192 38)), .ref (b + 216), .ref (b + 217), .ref (b + 218), .ref (b + 219)]) rfl (p_192_35 hx2_) (rng_si hS (i32_of hx2_)) h dX13_hold_168 (fun S3_z H locs h hM hS => ?_)
        refine lv_aload_n hx hb dX13_hold_171 rfl (lv_at hl 0 rfl) ?_
        refine lv_iconst (v := 0) hx hb dX13_hold_172 (by decide) ?_
        refine g_put fl_X13_329_X13 C hM (i := 192) (by omega) (e_192 b kc T S3_z) rfl rfl (Nat.le_of_ble_eq_true rfl) (fs1 := [.ref (b + 193), .ref (b + 194), .ref (b + 195), .int (oi (gi S3_z 192 3)), .int (oi (gi S3_z 192 4)), .int (oi (gi S3_z 192 5)), .ref (b + 196), .ref (b + 197), .int (oi (gi S3_z 192 8)), .int (oi (gi S3_z 192 9)), .int (oi (gi S3_z 192 10)), .int (oi (gi S3_z 192 11)), .int (oi (gi S3_z 192 12)), .int (oi (gi S3_z 192 13)), .int (oi (gi S3_z 192 14)), .int (oi (gi S3_z 192 15)), .ref (b + 198), .ref (b + 199), .ref (b + 200), .ref (b + 201), .ref (b + 202), .ref (b + 203), .ref (b + 204), .ref (b + 205), .ref (b + 206), .ref (b + 207), .ref (b + 208), .int (oi (gi S3_z 192 27)), .ref (b + 209), .ref (b + 210), .ref (b + 211), .ref (b + 212), .ref (b + 213), .ref (b + 214), .ref (b + 215), .int (oi (gi S3_z 192 35)), .int 0, .int (oi (gi S3_z 192 37)), .int (oi (gi S3_z 192 38)), .ref (b + 216), .ref (b + 217), .ref (b + 218), .ref (b + 219)]) rfl (p_192_36 (show (0 : Int32).toInt = 0 by decide)) (rng_si hS (i32_of (show (0 : Int32).toInt = 0 by decide))) h dX13_hold_173 (fun S4_z H locs h hM hS => ?_)
        refine lv_iconst (v := 0) hx hb dX13_hold_176 (by decide) ?_
        refine lv_istore (lv' := [(4, .int 0), (0, .ref (b + 192)), (1, .int x1_), (2, .int x2_), (3, .int x3_)]) hx hb dX13_hold_177 hl (by decide) rfl (fun ls hl => ?_)
        refine lv_iconst (v := 0) hx hb dX13_hold_179 (by decide) ?_
        refine lv_istore (lv' := [(5, .int 0), (4, .int 0), (0, .ref (b + 192)), (1, .int x1_), (2, .int x2_), (3, .int x3_)]) hx hb dX13_hold_180 hl (by decide) rfl (fun ls hl => ?_)
        exact B182 FU S4_z _ _ _ x2_ v2_ hx2_ x3_ v3_ hx3_ 0 0 (show (0 : Int32).toInt = 0 by decide) 0 0 (show (0 : Int32).toInt = 0 by decide) hS hM (lv_sub hl [2, 4, 5, 1, 0] rfl) h
      · refine lv_aload_n hx hb dX13_hold_63 rfl (lv_at hl 0 rfl) ?_
        refine lv_iload hx hb dX13_hold_64 (lv_at hl 4 rfl) ?_
        obtain ⟨S5_z, cS5_z, h⟩ := w_b1E h
        refine g_callV (J := jM b kc T) (m_runV calV_X13_make wd_1380 (g_M_make l D kc b T S x4_ v4_ hx4_ hS cS5_z) C hM (i := 192) (by omega) (e_192 b kc T S) rfl hl.1 rfl rfl (Nat.le_of_ble_eq_true rfl) dX13_hold_66 ⟨Nat.le_of_ble_eq_true rfl, Nat.le_of_ble_eq_true rfl⟩ ⟨Nat.le_of_ble_eq_true rfl, Nat.le_of_ble_eq_true rfl⟩) hM (fun H locs hM hS => ?_)
        refine lv_aload_n hx hb dX13_hold_69 rfl (lv_at hl 0 rfl) ?_
        refine m_get fl_X13_108_X13 C hM (i := 192) (by omega) (e_192 b kc T S5_z) (v := .ref (b + 211)) rfl dX13_hold_70 ?_
        refine lv_iconst (v := 0) hx hb dX13_hold_73 (by decide) ?_
        refine g_ialdc C hM (j := 211) (by omega) (jK_M b kc T (by omega)) (a_211 b kc) hS (k := 0) (m_in (by decide)) (by decide) dX13_hold_74 (fun z7_z bz7_z => ?_)
        refine lv_aload_n hx hb dX13_hold_75 rfl (lv_at hl 0 rfl) ?_
        refine lv_iconst (v := 2) hx hb dX13_hold_76 (by decide) ?_
        refine lv_aload_n hx hb dX13_hold_77 rfl (lv_at hl 0 rfl) ?_
        refine g_get fl_X13_260_X13 C hM (i := 192) (r := 192) (by omega) (e_192 b kc T S5_z) rfl hS dX13_hold_78 (fun z8_z bz8_z => ?_)
        refine lv_iconst (v := 1) hx hb dX13_hold_81 (by decide) ?_
        refine lv_aload_n hx hb dX13_hold_82 rfl (lv_at hl 0 rfl) ?_
        refine g_get fl_X13_156_X13 C hM (i := 192) (r := 192) (by omega) (e_192 b kc T S5_z) rfl hS dX13_hold_83 (fun z9_z bz9_z => ?_)
        obtain ⟨r11_z, S10_z, cr11_z, h⟩ := w_b2E h
        refine g_callI (J := jM b kc T) (m_runV calV_X13_apart wd_1428 (g_M_apart l D kc b T S5_z 2 2 (show (2 : Int32).toInt = 2 by decide) z8_z (gi S5_z 192 5) bz8_z 1 1 (show (1 : Int32).toInt = 1 by decide) z9_z (gi S5_z 192 4) bz9_z hS cr11_z) C hM (i := 192) (by omega) (e_192 b kc T S5_z) rfl hl.1 rfl rfl (Nat.le_of_ble_eq_true rfl) dX13_hold_86 ⟨Nat.le_of_ble_eq_true rfl, Nat.le_of_ble_eq_true rfl⟩ ⟨Nat.le_of_ble_eq_true rfl, Nat.le_of_ble_eq_true rfl⟩) hM (fun z12_z H locs bz12_z hM hS => ?_)
        refine g_imul hx hb bz7_z bz12_z h dX13_hold_89 (fun z13_z bz13_z h => ?_)
        refine lv_aload_n hx hb dX13_hold_90 rfl (lv_at hl 0 rfl) ?_
        refine m_get fl_X13_108_X13 C hM (i := 192) (by omega) (e_192 b kc T S10_z) (v := .ref (b + 211)) rfl dX13_hold_91 ?_
        refine lv_iconst (v := 1) hx hb dX13_hold_94 (by decide) ?_
        refine g_ialdc C hM (j := 211) (by omega) (jK_M b kc T (by omega)) (a_211 b kc) hS (k := 1) (m_in (by decide)) (by decide) dX13_hold_95 (fun z14_z bz14_z => ?_)
        refine lv_iload hx hb dX13_hold_96 (lv_at hl 4 rfl) ?_
        obtain ⟨r15_z, cr15_z, h⟩ := w_b1E h
        refine g_callI (J := jM b kc T) (m_runS calS_X13_bits wd_1444 (g_M_bits l D kc b T S10_z x4_ v4_ hx4_ hS cr15_z) C hM hl.1 rfl rfl (Nat.le_of_ble_eq_true rfl) dX13_hold_98 ⟨Nat.le_of_ble_eq_true rfl, Nat.le_of_ble_eq_true rfl⟩ ⟨Nat.le_of_ble_eq_true rfl, Nat.le_of_ble_eq_true rfl⟩) hM (fun z16_z H locs bz16_z hM hS => ?_)
        refine g_imul hx hb bz14_z bz16_z h dX13_hold_101 (fun z17_z bz17_z h => ?_)
        refine g_iadd hx hb bz13_z bz17_z h dX13_hold_102 (fun z18_z bz18_z h => ?_)
        refine lv_istore (lv' := [(5, .int z18_z), (0, .ref (b + 192)), (1, .int x1_), (2, .int x2_), (3, .int x3_), (4, .int x4_)]) hx hb dX13_hold_103 hl (by decide) rfl (fun ls hl => ?_)
        refine lv_iload_n hx hb dX13_hold_105 rfl (lv_at hl 3 rfl) ?_
        refine lv_iconst (v := (-1)) hx hb dX13_hold_106 (by decide) ?_
        refine g_icmp_eq (tgt := 134) hx hb hx2_ (show ((-1) : Int32).toInt = (-1) by decide) h dX13_hold_107 (by decide) (fun h => ?_) (fun h => ?_)
        · exact B134 (f_M_hold_55 n) hkf55_ S10_z _ _ _ x1_ v1_ hx1_ x2_ v2_ hx2_ x3_ v3_ hx3_ x4_ v4_ hx4_ z18_z (((gi S5_z 211 0) * r11_z) + ((gi S10_z 211 1) * r15_z)) bz18_z hS hM (lv_sub hl [1, 2, 3, 4, 5, 0] rfl) h
        · refine lv_iload hx hb dX13_hold_110 (lv_at hl 0 rfl) ?_
          refine lv_iload_n hx hb dX13_hold_112 rfl (lv_at hl 4 rfl) ?_
          refine g_icmp_lt (tgt := 134) hx hb bz18_z hx3_ h dX13_hold_113 (by decide) (fun h => ?_) (fun h => ?_)
          · exact B134 (f_M_hold_55 n) hkf55_ S10_z _ _ _ x1_ v1_ hx1_ x2_ v2_ hx2_ x3_ v3_ hx3_ x4_ v4_ hx4_ z18_z (((gi S5_z 211 0) * r11_z) + ((gi S10_z 211 1) * r15_z)) bz18_z hS hM (lv_sub hl [1, 2, 3, 4, 5, 0] rfl) h
          · refine lv_iload hx hb dX13_hold_116 (lv_at hl 0 rfl) ?_
            refine lv_iload_n hx hb dX13_hold_118 rfl (lv_at hl 4 rfl) ?_
            refine g_icmp_ne (tgt := 138) hx hb bz18_z hx3_ h dX13_hold_119 (by decide) (fun h => ?_) (fun h => ?_)
            · exact B138 (f_M_hold_55 n) hkf55_ S10_z _ _ _ x1_ v1_ hx1_ x2_ v2_ hx2_ x3_ v3_ hx3_ x4_ v4_ hx4_ z18_z (((gi S5_z 211 0) * r11_z) + ((gi S10_z 211 1) * r15_z)) bz18_z hS hM (lv_sub hl [1, 2, 3, 4, 5, 0] rfl) h
            · refine lv_iload hx hb dX13_hold_122 (lv_at hl 5 rfl) ?_
              obtain ⟨r19_z, cr19_z, h⟩ := w_b1E h
              refine g_callI (J := jM b kc T) (m_runS calS_X13_bits wd_1444 (g_M_bits l D kc b T S10_z x4_ v4_ hx4_ hS cr19_z) C hM hl.1 rfl rfl (Nat.le_of_ble_eq_true rfl) dX13_hold_124 ⟨Nat.le_of_ble_eq_true rfl, Nat.le_of_ble_eq_true rfl⟩ ⟨Nat.le_of_ble_eq_true rfl, Nat.le_of_ble_eq_true rfl⟩) hM (fun z20_z H locs bz20_z hM hS => ?_)
              refine lv_iload_n hx hb dX13_hold_127 rfl (lv_at hl 3 rfl) ?_
              obtain ⟨r21_z, cr21_z, h⟩ := w_b1E h
              refine g_callI (J := jM b kc T) (m_runS calS_X13_bits wd_1444 (g_M_bits l D kc b T S10_z x2_ v2_ hx2_ hS cr21_z) C hM hl.1 rfl rfl (Nat.le_of_ble_eq_true rfl) dX13_hold_128 ⟨Nat.le_of_ble_eq_true rfl, Nat.le_of_ble_eq_true rfl⟩ ⟨Nat.le_of_ble_eq_true rfl, Nat.le_of_ble_eq_true rfl⟩) hM (fun z22_z H locs bz22_z hM hS => ?_)
              refine g_icmp_ge (tgt := 138) hx hb bz20_z bz22_z h dX13_hold_131 (by decide) (fun h => ?_) (fun h => ?_)
              · exact B138 (f_M_hold_55 n) hkf55_ S10_z _ _ _ x1_ v1_ hx1_ x2_ v2_ hx2_ x3_ v3_ hx3_ x4_ v4_ hx4_ z18_z (((gi S5_z 211 0) * r11_z) + ((gi S10_z 211 1) * r15_z)) bz18_z hS hM (lv_sub hl [1, 2, 3, 4, 5, 0] rfl) h
              · exact B134 (f_M_hold_55 n) hkf55_ S10_z _ _ _ x1_ v1_ hx1_ x2_ v2_ hx2_ x3_ v3_ hx3_ x4_ v4_ hx4_ z18_z (((gi S5_z 211 0) * r11_z) + ((gi S10_z 211 1) * r15_z)) bz18_z hS hM (lv_sub hl [1, 2, 3, 4, 5, 0] rfl) h
  have B8 : ∀ (n : Nat), ∀ (S : SS) (H : Heap) (locs : List Loc) (ls : Array Slot) (x1_ : Int32) (v1_ : Int) (hx1_ : x1_.toInt = v1_) (x2_ : Int32) (v2_ : Int) (hx2_ : x2_.toInt = v2_), rng S → mS D b s 220 (jM b kc T S) H locs → lv_has ls 7 [(0, .ref (b + 192)), (1, .int x1_), (2, .int x2_)] → f_M_hold_8 n S v1_ v2_ = some (vr, Sr) → W p l e (mR 94 0 0) s m args below meth c H locs 0 0 Q (F0 m 8 ls []) := by
    intro n
    induction n with
    | zero => intro S H locs ls x1_ v1_ hx1_ x2_ v2_ hx2_ hS hM hl h; exact absurd (h : none = some _) (fun q => nomatch q)
    | succ n hkf8_ =>
      intro S H locs ls x1_ v1_ hx1_ x2_ v2_ hx2_ hS hM hl h
      have h : f_M_hold_8_b (f_M_hold_8 n) S v1_ v2_ = some (vr, Sr) := h
      unfold f_M_hold_8_b at h
      refine lv_iload_n hx hb dX13_hold_8 rfl (lv_at hl 2 rfl) ?_
      refine lv_aload_n hx hb dX13_hold_9 rfl (lv_at hl 0 rfl) ?_
      refine g_get fl_X13_153_X13 C hM (i := 192) (r := 192) (by omega) (e_192 b kc T S) rfl hS dX13_hold_10 (fun z1_z bz1_z => ?_)
      refine g_icmp_ge (tgt := 39) hx hb hx2_ bz1_z h dX13_hold_13 (by decide) (fun h => ?_) (fun h => ?_)
      · refine lv_iload_n hx hb dX13_hold_39 rfl (lv_at hl 1 rfl) ?_
        refine lv_bipush (v := 8) hx hb dX13_hold_40 (by decide) ?_
        refine g_icmp_le (tgt := 48) hx hb hx1_ (show (8 : Int32).toInt = 8 by decide) h dX13_hold_42 (by decide) (fun h => ?_) (fun h => ?_)
        · refine lv_iconst (v := (-1)) hx hb dX13_hold_48 (by decide) ?_
          refine lv_istore_n (lv' := [(2, .int (-1)), (0, .ref (b + 192)), (1, .int x1_)]) hx hb dX13_hold_49 rfl hl (by decide) rfl (fun ls hl => ?_)
          refine lv_iconst (v := 0) hx hb dX13_hold_50 (by decide) ?_
          refine lv_istore_n (lv' := [(3, .int 0), (2, .int (-1)), (0, .ref (b + 192)), (1, .int x1_)]) hx hb dX13_hold_51 rfl hl (by decide) rfl (fun ls hl => ?_)
          refine lv_iconst (v := 0) hx hb dX13_hold_52 (by decide) ?_
          refine lv_istore (lv' := [(4, .int 0), (3, .int 0), (2, .int (-1)), (0, .ref (b + 192)), (1, .int x1_)]) hx hb dX13_hold_53 hl (by decide) rfl (fun ls hl => ?_)
          exact B55 FU S _ _ _ x1_ v1_ hx1_ (-1) (-1) (show ((-1) : Int32).toInt = (-1) by decide) 0 0 (show (0 : Int32).toInt = 0 by decide) 0 0 (show (0 : Int32).toInt = 0 by decide) hS hM (lv_sub hl [3, 4, 2, 1, 0] rfl) h
        · refine lv_bipush (v := (-3)) hx hb dX13_hold_45 (by decide) ?_
          exact ret S _ _ _ _ (-3) ((show ((-3) : Int32).toInt = (-3) by decide).trans (r_1 h)) (r_2 h) hM hS dX13_hold_47
      · refine lv_iload_n hx hb dX13_hold_16 rfl (lv_at hl 1 rfl) ?_
        refine lv_aload_n hx hb dX13_hold_17 rfl (lv_at hl 0 rfl) ?_
        refine m_get fl_X13_111_X13 C hM (i := 192) (by omega) (e_192 b kc T S) (v := .ref (b + 212)) rfl dX13_hold_18 ?_
        refine lv_iload_n hx hb dX13_hold_21 rfl (lv_at hl 2 rfl) ?_
        refine g_iald C hM (j := 212) (by omega) (jK_M b kc T (by omega)) (a_212 b kc) hS hx2_ (B := 40) rfl h dX13_hold_22 (fun z2_z bz2_z h => ?_)
        refine g_if_ne (tgt := 30) hx hb bz2_z h dX13_hold_23 (by decide) (fun h => ?_) (fun h => ?_)
        · refine lv_iconst (v := 0) hx hb dX13_hold_30 (by decide) ?_
          exact B31 (f_M_hold_8 n) hkf8_ S _ _ _ x2_ v2_ hx2_ 0 0 (show (0 : Int32).toInt = 0 by decide) x1_ v1_ hx1_ hS hM (lv_sub hl [0, 2] rfl) h
        · refine lv_iconst (v := 1) hx hb dX13_hold_26 (by decide) ?_
          refine lv_goto (tgt := 31) hx hb dX13_hold_27 (by decide) ?_
          exact B31 (f_M_hold_8 n) hkf8_ S _ _ _ x2_ v2_ hx2_ 1 1 (show (1 : Int32).toInt = 1 by decide) x1_ v1_ hx1_ hS hM (lv_sub hl [0, 2] rfl) h
  refine lv_aload_n hx hb dX13_hold_0 rfl (lv_at hl 0 rfl) ?_
  obtain ⟨S1_z, cS1_z, h⟩ := w_b1E h
  refine g_callV (J := jM b kc T) (m_runV calV_X13_judge wd_1352 (g_M_judge l D kc b T S hS cS1_z) C hM (i := 192) (by omega) (e_192 b kc T S) rfl hl.1 rfl rfl (Nat.le_of_ble_eq_true rfl) dX13_hold_1 ⟨Nat.le_of_ble_eq_true rfl, Nat.le_of_ble_eq_true rfl⟩ ⟨Nat.le_of_ble_eq_true rfl, Nat.le_of_ble_eq_true rfl⟩) hM (fun H locs hM hS => ?_)
  refine lv_iconst (v := 0) hx hb dX13_hold_4 (by decide) ?_
  refine lv_istore_n (lv' := [(1, .int 0), (0, .ref (b + 192))]) hx hb dX13_hold_5 rfl hl (by decide) rfl (fun ls hl => ?_)
  refine lv_iconst (v := 0) hx hb dX13_hold_6 (by decide) ?_
  refine lv_istore_n (lv' := [(2, .int 0), (1, .int 0), (0, .ref (b + 192))]) hx hb dX13_hold_7 rfl hl (by decide) rfl (fun ls hl => ?_)
  exact B8 FU S1_z _ _ _ 0 0 (show (0 : Int32).toInt = 0 by decide) 0 0 (show (0 : Int32).toInt = 0 by decide) hS hM (lv_sub hl [2, 1, 0] rfl) h

def f_M_held (S : SS) (v1 : Int) : Option Int := (if gi S 192 38 = 0 then some (-1) else w_chk (i64 (9 + (gi S 192 36))) ((if f_M_in S v1 10 (9 + (gi S 192 36)) = 0 then (if v1 = 0 then some (gi S 192 35) else (if v1 = 1 then some (gi S 192 36) else (if v1 = 2 then some (gi S 192 37) else some (-1)))) else w_chk (i32 (v1 - 10)) (w_chk (0 ≤ (v1 - 10) ∧ (v1 - 10) < 8) (some (gi S 216 (v1 - 10).toNat))))))
set_option maxHeartbeats 4000000 in
set_option maxRecDepth 100000 in
theorem g_M_held (l : Launch) (D : va_G) (kc : Nat → ClassId) (b : Nat) (T S : SS) (x1 : Int32) (v1 : Int) (hx1 : x1.toInt = v1) (hS : rng S) {vr : Int} (h : f_M_held S v1 = some vr) : cI l yX13_held cX13_held 2 .int 2 D kc b (jM b kc T) S [.ref (b + 192), .int x1] vr S := by
  refine g_beg_i (by decide) (Nat.le_of_ble_eq_true rfl) ?_
  intro p e s m args below meth c Q C ret hM ls hl
  obtain ⟨hx, hb, hml, hown, hts, hE, hbs⟩ := id C
  have hl : lv_has ls 2 [(0, .ref (b + 192)), (1, .int x1)] := hl
  unfold f_M_held at h
  refine lv_aload_n hx hb dX13_held_0 rfl (lv_at hl 0 rfl) ?_
  refine g_get fl_X13_322_X13 C hM (i := 192) (r := 192) (by omega) (e_192 b kc T S) rfl hS dX13_held_1 (fun z1_z bz1_z => ?_)
  refine g_if_ne (tgt := 9) hx hb bz1_z h dX13_held_4 (by decide) (fun h => ?_) (fun h => ?_)
  · refine lv_iload_n hx hb dX13_held_9 rfl (lv_at hl 1 rfl) ?_
    refine g_i2l (a := v1) hx hb hx1 dX13_held_10 (fun c2_z => ?_)
    refine lv_ldc2 (v := 10) hx hb hown (hts _ wd_1350) dX13_held_11 ?_
    refine lv_ldc2 (v := 9) hx hb hown (hts _ wd_1351) dX13_held_14 ?_
    refine lv_aload_n hx hb dX13_held_17 rfl (lv_at hl 0 rfl) ?_
    refine g_get fl_X13_329_X13 C hM (i := 192) (r := 192) (by omega) (e_192 b kc T S) rfl hS dX13_held_18 (fun z3_z bz3_z => ?_)
    refine g_i2l (a := gi S 192 36) hx hb bz3_z dX13_held_21 (fun c4_z => ?_)
    obtain ⟨cz5_z, h⟩ := w_chkE h
    refine g_ladd hx hb (show (9 : Int64).toInt = 9 by decide) c4_z cz5_z.1 cz5_z.2 dX13_held_22 (fun z5_z bz5_z => ?_)
    refine g_callI (J := jM b kc T) (m_runS calS_X13_in wd_1221 (g_M_in l D kc b T S (i2l v1) v1 c2_z 10 10 (show (10 : Int64).toInt = 10 by decide) z5_z (9 + (gi S 192 36)) bz5_z hS rfl) C hM hl.1 rfl rfl (Nat.le_of_ble_eq_true rfl) dX13_held_23 ⟨Nat.le_of_ble_eq_true rfl, Nat.le_of_ble_eq_true rfl⟩ ⟨Nat.le_of_ble_eq_true rfl, Nat.le_of_ble_eq_true rfl⟩) hM (fun z6_z H locs bz6_z hM hS => ?_)
    refine g_if_eq (tgt := 39) hx hb bz6_z h dX13_held_26 (by decide) (fun h => ?_) (fun h => ?_)
    · refine lv_iload_n hx hb dX13_held_39 rfl (lv_at hl 1 rfl) ?_
      refine g_if_ne (tgt := 50) hx hb hx1 h dX13_held_40 (by decide) (fun h => ?_) (fun h => ?_)
      · refine lv_iload_n hx hb dX13_held_50 rfl (lv_at hl 1 rfl) ?_
        refine lv_iconst (v := 1) hx hb dX13_held_51 (by decide) ?_
        refine g_icmp_ne (tgt := 62) hx hb hx1 (show (1 : Int32).toInt = 1 by decide) h dX13_held_52 (by decide) (fun h => ?_) (fun h => ?_)
        · refine lv_iload_n hx hb dX13_held_62 rfl (lv_at hl 1 rfl) ?_
          refine lv_iconst (v := 2) hx hb dX13_held_63 (by decide) ?_
          refine g_icmp_ne (tgt := 74) hx hb hx1 (show (2 : Int32).toInt = 2 by decide) h dX13_held_64 (by decide) (fun h => ?_) (fun h => ?_)
          · refine lv_iconst (v := (-1)) hx hb dX13_held_74 (by decide) ?_
            exact ret S _ _ _ _ (-1) ((show ((-1) : Int32).toInt = (-1) by decide).trans (Option.some.inj h)) rfl hM hS dX13_held_75
          · refine lv_aload_n hx hb dX13_held_67 rfl (lv_at hl 0 rfl) ?_
            refine g_get fl_X13_335_X13 C hM (i := 192) (r := 192) (by omega) (e_192 b kc T S) rfl hS dX13_held_68 (fun z7_z bz7_z => ?_)
            refine lv_goto (tgt := 75) hx hb dX13_held_71 (by decide) ?_
            exact ret S _ _ _ _ z7_z (bz7_z.trans (Option.some.inj h)) rfl hM hS dX13_held_75
        · refine lv_aload_n hx hb dX13_held_55 rfl (lv_at hl 0 rfl) ?_
          refine g_get fl_X13_329_X13 C hM (i := 192) (r := 192) (by omega) (e_192 b kc T S) rfl hS dX13_held_56 (fun z8_z bz8_z => ?_)
          refine lv_goto (tgt := 75) hx hb dX13_held_59 (by decide) ?_
          exact ret S _ _ _ _ z8_z (bz8_z.trans (Option.some.inj h)) rfl hM hS dX13_held_75
      · refine lv_aload_n hx hb dX13_held_43 rfl (lv_at hl 0 rfl) ?_
        refine g_get fl_X13_326_X13 C hM (i := 192) (r := 192) (by omega) (e_192 b kc T S) rfl hS dX13_held_44 (fun z9_z bz9_z => ?_)
        refine lv_goto (tgt := 75) hx hb dX13_held_47 (by decide) ?_
        exact ret S _ _ _ _ z9_z (bz9_z.trans (Option.some.inj h)) rfl hM hS dX13_held_75
    · refine lv_aload_n hx hb dX13_held_29 rfl (lv_at hl 0 rfl) ?_
      refine m_get fl_X13_124_X13 C hM (i := 192) (by omega) (e_192 b kc T S) (v := .ref (b + 216)) rfl dX13_held_30 ?_
      refine lv_iload_n hx hb dX13_held_33 rfl (lv_at hl 1 rfl) ?_
      refine lv_bipush (v := 10) hx hb dX13_held_34 (by decide) ?_
      refine g_isub hx hb hx1 (show (10 : Int32).toInt = 10 by decide) h dX13_held_36 (fun z10_z bz10_z h => ?_)
      refine g_iald C hM (j := 216) (by omega) (jK_M b kc T (by omega)) (a_216 b kc) hS bz10_z (B := 8) rfl h dX13_held_37 (fun z11_z bz11_z h => ?_)
      exact ret S _ _ _ _ z11_z (bz11_z.trans (Option.some.inj h)) rfl hM hS dX13_held_38
  · refine lv_iconst (v := (-1)) hx hb dX13_held_7 (by decide) ?_
    exact ret S _ _ _ _ (-1) ((show ((-1) : Int32).toInt = (-1) by decide).trans (Option.some.inj h)) rfl hM hS dX13_held_8

def f_M_unasked (S : SS) (v1 : Int) (v2 : Int) : Option Int := w_chk (i64 ((gi S 192 37) - 1)) ((if f_M_in S v1 0 ((gi S 192 37) - 1) = 0 then some (-1) else (if v2 = 0 then w_chk (0 ≤ v1 ∧ v1 < 470) (some (gi S 217 (v1).toNat)) else (if v2 = 1 then w_chk (0 ≤ v1 ∧ v1 < 470) (some (gi S 218 (v1).toNat)) else (if v2 = 2 then w_chk (0 ≤ v1 ∧ v1 < 470) (some (gi S 219 (v1).toNat)) else some (-1))))))
set_option maxHeartbeats 4000000 in
set_option maxRecDepth 100000 in
theorem g_M_unasked (l : Launch) (D : va_G) (kc : Nat → ClassId) (b : Nat) (T S : SS) (x1 : Int32) (v1 : Int) (hx1 : x1.toInt = v1) (x2 : Int32) (v2 : Int) (hx2 : x2.toInt = v2) (hS : rng S) {vr : Int} (h : f_M_unasked S v1 v2 = some vr) : cI l yX13_unasked cX13_unasked 3 .int 2 D kc b (jM b kc T) S [.ref (b + 192), .int x1, .int x2] vr S := by
  refine g_beg_i (by decide) (Nat.le_of_ble_eq_true rfl) ?_
  intro p e s m args below meth c Q C ret hM ls hl
  obtain ⟨hx, hb, hml, hown, hts, hE, hbs⟩ := id C
  have hl : lv_has ls 3 [(0, .ref (b + 192)), (1, .int x1), (2, .int x2)] := hl
  unfold f_M_unasked at h
  refine lv_iload_n hx hb dX13_unasked_0 rfl (lv_at hl 1 rfl) ?_
  refine g_i2l (a := v1) hx hb hx1 dX13_unasked_1 (fun c1_z => ?_)
  refine lv_lconst (v := 0) hx hb dX13_unasked_2 (by decide) ?_
  refine lv_aload_n hx hb dX13_unasked_3 rfl (lv_at hl 0 rfl) ?_
  refine g_get fl_X13_335_X13 C hM (i := 192) (r := 192) (by omega) (e_192 b kc T S) rfl hS dX13_unasked_4 (fun z2_z bz2_z => ?_)
  refine g_i2l (a := gi S 192 37) hx hb bz2_z dX13_unasked_7 (fun c3_z => ?_)
  refine lv_lconst (v := 1) hx hb dX13_unasked_8 (by decide) ?_
  obtain ⟨cz4_z, h⟩ := w_chkE h
  refine g_lsub hx hb c3_z (show (1 : Int64).toInt = 1 by decide) cz4_z.1 cz4_z.2 dX13_unasked_9 (fun z4_z bz4_z => ?_)
  refine g_callI (J := jM b kc T) (m_runS calS_X13_in wd_1221 (g_M_in l D kc b T S (i2l v1) v1 c1_z 0 0 (show (0 : Int64).toInt = 0 by decide) z4_z ((gi S 192 37) - 1) bz4_z hS rfl) C hM hl.1 rfl rfl (Nat.le_of_ble_eq_true rfl) dX13_unasked_10 ⟨Nat.le_of_ble_eq_true rfl, Nat.le_of_ble_eq_true rfl⟩ ⟨Nat.le_of_ble_eq_true rfl, Nat.le_of_ble_eq_true rfl⟩) hM (fun z5_z H locs bz5_z hM hS => ?_)
  refine g_if_ne (tgt := 20) hx hb bz5_z h dX13_unasked_13 (by decide) (fun h => ?_) (fun h => ?_)
  · refine lv_iload_n hx hb dX13_unasked_20 rfl (lv_at hl 2 rfl) ?_
    refine g_if_ne (tgt := 33) hx hb hx2 h dX13_unasked_21 (by decide) (fun h => ?_) (fun h => ?_)
    · refine lv_iload_n hx hb dX13_unasked_33 rfl (lv_at hl 2 rfl) ?_
      refine lv_iconst (v := 1) hx hb dX13_unasked_34 (by decide) ?_
      refine g_icmp_ne (tgt := 47) hx hb hx2 (show (1 : Int32).toInt = 1 by decide) h dX13_unasked_35 (by decide) (fun h => ?_) (fun h => ?_)
      · refine lv_iload_n hx hb dX13_unasked_47 rfl (lv_at hl 2 rfl) ?_
        refine lv_iconst (v := 2) hx hb dX13_unasked_48 (by decide) ?_
        refine g_icmp_ne (tgt := 61) hx hb hx2 (show (2 : Int32).toInt = 2 by decide) h dX13_unasked_49 (by decide) (fun h => ?_) (fun h => ?_)
        · refine lv_iconst (v := (-1)) hx hb dX13_unasked_61 (by decide) ?_
          exact ret S _ _ _ _ (-1) ((show ((-1) : Int32).toInt = (-1) by decide).trans (Option.some.inj h)) rfl hM hS dX13_unasked_62
        · refine lv_aload_n hx hb dX13_unasked_52 rfl (lv_at hl 0 rfl) ?_
          refine m_get fl_X13_133_X13 C hM (i := 192) (by omega) (e_192 b kc T S) (v := .ref (b + 219)) rfl dX13_unasked_53 ?_
          refine lv_iload_n hx hb dX13_unasked_56 rfl (lv_at hl 1 rfl) ?_
          refine g_iald C hM (j := 219) (by omega) (jK_M b kc T (by omega)) (a_219 b kc) hS hx1 (B := 470) rfl h dX13_unasked_57 (fun z6_z bz6_z h => ?_)
          refine lv_goto (tgt := 62) hx hb dX13_unasked_58 (by decide) ?_
          exact ret S _ _ _ _ z6_z (bz6_z.trans (Option.some.inj h)) rfl hM hS dX13_unasked_62
      · refine lv_aload_n hx hb dX13_unasked_38 rfl (lv_at hl 0 rfl) ?_
        refine m_get fl_X13_130_X13 C hM (i := 192) (by omega) (e_192 b kc T S) (v := .ref (b + 218)) rfl dX13_unasked_39 ?_
        refine lv_iload_n hx hb dX13_unasked_42 rfl (lv_at hl 1 rfl) ?_
        refine g_iald C hM (j := 218) (by omega) (jK_M b kc T (by omega)) (a_218 b kc) hS hx1 (B := 470) rfl h dX13_unasked_43 (fun z7_z bz7_z h => ?_)
        refine lv_goto (tgt := 62) hx hb dX13_unasked_44 (by decide) ?_
        exact ret S _ _ _ _ z7_z (bz7_z.trans (Option.some.inj h)) rfl hM hS dX13_unasked_62
    · refine lv_aload_n hx hb dX13_unasked_24 rfl (lv_at hl 0 rfl) ?_
      refine m_get fl_X13_127_X13 C hM (i := 192) (by omega) (e_192 b kc T S) (v := .ref (b + 217)) rfl dX13_unasked_25 ?_
      refine lv_iload_n hx hb dX13_unasked_28 rfl (lv_at hl 1 rfl) ?_
      refine g_iald C hM (j := 217) (by omega) (jK_M b kc T (by omega)) (a_217 b kc) hS hx1 (B := 470) rfl h dX13_unasked_29 (fun z8_z bz8_z h => ?_)
      refine lv_goto (tgt := 62) hx hb dX13_unasked_30 (by decide) ?_
      exact ret S _ _ _ _ z8_z (bz8_z.trans (Option.some.inj h)) rfl hM hS dX13_unasked_62
  · refine lv_iconst (v := (-1)) hx hb dX13_unasked_16 (by decide) ?_
    refine lv_goto (tgt := 62) hx hb dX13_unasked_17 (by decide) ?_
    exact ret S _ _ _ _ (-1) ((show ((-1) : Int32).toInt = (-1) by decide).trans (Option.some.inj h)) rfl hM hS dX13_unasked_62

def f_M_next_20_b (kf20_ : SS → Int → Option (Int × SS)) (S : SS) (v1_ : Int) : Option (Int × SS) := (if gi S 192 4 ≤ v1_ then w_lt (si S 192 3 (gi S 192 4)) (fun S3_z => w_lt (si S3_z 192 4 0) (fun S4_z => w_lt (si S4_z 192 27 0) (fun S5_z => some (gi S5_z 192 3, S5_z)))) else w_chk (0 ≤ v1_ ∧ v1_ < 150) (w_chk (0 ≤ v1_ ∧ v1_ < 60) (w_lt (sl S 193 (v1_).toNat (gl S 194 (v1_).toNat)) (fun S8_z => w_chk (i32 (v1_ + 1)) (kf20_ S8_z (v1_ + 1))))))
def f_M_next_20 : Nat → SS → Int → Option (Int × SS)
  | 0 => fun _ _ => none
  | n + 1 => f_M_next_20_b (f_M_next_20 n)
def f_M_next (S : SS) : Option (Int × SS) := (if f_M_in S (gi S 192 4) 1 60 = 0 then some ((-4), S) else f_M_next_20 FU S 0)
set_option maxHeartbeats 4000000 in
set_option maxRecDepth 100000 in
theorem g_M_next (l : Launch) (D : va_G) (kc : Nat → ClassId) (b : Nat) (T S : SS) (hS : rng S) {vr : Int} {Sr : SS} (h : f_M_next S = some (vr, Sr)) : cI l yX13_next cX13_next 2 .int 2 D kc b (jM b kc T) S [.ref (b + 192)] vr Sr := by
  refine g_beg_i (by decide) (Nat.le_of_ble_eq_true rfl) ?_
  intro p e s m args below meth c Q C ret hM ls hl
  obtain ⟨hx, hb, hml, hown, hts, hE, hbs⟩ := id C
  have hl : lv_has ls 2 [(0, .ref (b + 192))] := hl
  unfold f_M_next at h
  have B20 : ∀ (n : Nat), ∀ (S : SS) (H : Heap) (locs : List Loc) (ls : Array Slot) (x1_ : Int32) (v1_ : Int) (hx1_ : x1_.toInt = v1_), rng S → mS D b s 220 (jM b kc T S) H locs → lv_has ls 2 [(0, .ref (b + 192)), (1, .int x1_)] → f_M_next_20 n S v1_ = some (vr, Sr) → W p l e (mR 2 0 0) s m args below meth c H locs 0 0 Q (F0 m 20 ls []) := by
    intro n
    induction n with
    | zero => intro S H locs ls x1_ v1_ hx1_ hS hM hl h; exact absurd (h : none = some _) (fun q => nomatch q)
    | succ n hkf20_ =>
      intro S H locs ls x1_ v1_ hx1_ hS hM hl h
      have h : f_M_next_20_b (f_M_next_20 n) S v1_ = some (vr, Sr) := h
      unfold f_M_next_20_b at h
      refine lv_iload_n hx hb dX13_next_20 rfl (lv_at hl 1 rfl) ?_
      refine lv_aload_n hx hb dX13_next_21 rfl (lv_at hl 0 rfl) ?_
      refine g_get fl_X13_156_X13 C hM (i := 192) (r := 192) (by omega) (e_192 b kc T S) rfl hS dX13_next_22 (fun z1_z bz1_z => ?_)
      refine g_icmp_ge (tgt := 46) hx hb hx1_ bz1_z h dX13_next_25 (by decide) (fun h => ?_) (fun h => ?_)
      · refine lv_aload_n hx hb dX13_next_46 rfl (lv_at hl 0 rfl) ?_
        refine lv_aload_n hx hb dX13_next_47 rfl (lv_at hl 0 rfl) ?_
        refine g_get fl_X13_156_X13 C hM (i := 192) (r := 192) (by omega) (e_192 b kc T S) rfl hS dX13_next_48 (fun z2_z bz2_z => ?_)
        refine g_put fl_X13_150_X13 C hM (i := 192) (by omega) (e_192 b kc T S) rfl rfl (Nat.le_of_ble_eq_true rfl) (fs1 := [.ref (b + 193), .ref (b + 194), .ref (b + 195), .int z2_z, .int (oi (gi S 192 4)), .int (oi (gi S 192 5)), .ref (b + 196), .ref (b + 197), .int (oi (gi S 192 8)), .int (oi (gi S 192 9)), .int (oi (gi S 192 10)), .int (oi (gi S 192 11)), .int (oi (gi S 192 12)), .int (oi (gi S 192 13)), .int (oi (gi S 192 14)), .int (oi (gi S 192 15)), .ref (b + 198), .ref (b + 199), .ref (b + 200), .ref (b + 201), .ref (b + 202), .ref (b + 203), .ref (b + 204), .ref (b + 205), .ref (b + 206), .ref (b + 207), .ref (b + 208), .int (oi (gi S 192 27)), .ref (b + 209), .ref (b + 210), .ref (b + 211), .ref (b + 212), .ref (b + 213), .ref (b + 214), .ref (b + 215), .int (oi (gi S 192 35)), .int (oi (gi S 192 36)), .int (oi (gi S 192 37)), .int (oi (gi S 192 38)), .ref (b + 216), .ref (b + 217), .ref (b + 218), .ref (b + 219)]) rfl (p_192_3 bz2_z) (rng_si hS (i32_of bz2_z)) h dX13_next_51 (fun S3_z H locs h hM hS => ?_)
        refine lv_aload_n hx hb dX13_next_54 rfl (lv_at hl 0 rfl) ?_
        refine lv_iconst (v := 0) hx hb dX13_next_55 (by decide) ?_
        refine g_put fl_X13_156_X13 C hM (i := 192) (by omega) (e_192 b kc T S3_z) rfl rfl (Nat.le_of_ble_eq_true rfl) (fs1 := [.ref (b + 193), .ref (b + 194), .ref (b + 195), .int (oi (gi S3_z 192 3)), .int 0, .int (oi (gi S3_z 192 5)), .ref (b + 196), .ref (b + 197), .int (oi (gi S3_z 192 8)), .int (oi (gi S3_z 192 9)), .int (oi (gi S3_z 192 10)), .int (oi (gi S3_z 192 11)), .int (oi (gi S3_z 192 12)), .int (oi (gi S3_z 192 13)), .int (oi (gi S3_z 192 14)), .int (oi (gi S3_z 192 15)), .ref (b + 198), .ref (b + 199), .ref (b + 200), .ref (b + 201), .ref (b + 202), .ref (b + 203), .ref (b + 204), .ref (b + 205), .ref (b + 206), .ref (b + 207), .ref (b + 208), .int (oi (gi S3_z 192 27)), .ref (b + 209), .ref (b + 210), .ref (b + 211), .ref (b + 212), .ref (b + 213), .ref (b + 214), .ref (b + 215), .int (oi (gi S3_z 192 35)), .int (oi (gi S3_z 192 36)), .int (oi (gi S3_z 192 37)), .int (oi (gi S3_z 192 38)), .ref (b + 216), .ref (b + 217), .ref (b + 218), .ref (b + 219)]) rfl (p_192_4 (show (0 : Int32).toInt = 0 by decide)) (rng_si hS (i32_of (show (0 : Int32).toInt = 0 by decide))) h dX13_next_56 (fun S4_z H locs h hM hS => ?_)
        refine lv_aload_n hx hb dX13_next_59 rfl (lv_at hl 0 rfl) ?_
        refine lv_iconst (v := 0) hx hb dX13_next_60 (by decide) ?_
        refine g_put fl_X13_153_X13 C hM (i := 192) (by omega) (e_192 b kc T S4_z) rfl rfl (Nat.le_of_ble_eq_true rfl) (fs1 := [.ref (b + 193), .ref (b + 194), .ref (b + 195), .int (oi (gi S4_z 192 3)), .int (oi (gi S4_z 192 4)), .int (oi (gi S4_z 192 5)), .ref (b + 196), .ref (b + 197), .int (oi (gi S4_z 192 8)), .int (oi (gi S4_z 192 9)), .int (oi (gi S4_z 192 10)), .int (oi (gi S4_z 192 11)), .int (oi (gi S4_z 192 12)), .int (oi (gi S4_z 192 13)), .int (oi (gi S4_z 192 14)), .int (oi (gi S4_z 192 15)), .ref (b + 198), .ref (b + 199), .ref (b + 200), .ref (b + 201), .ref (b + 202), .ref (b + 203), .ref (b + 204), .ref (b + 205), .ref (b + 206), .ref (b + 207), .ref (b + 208), .int 0, .ref (b + 209), .ref (b + 210), .ref (b + 211), .ref (b + 212), .ref (b + 213), .ref (b + 214), .ref (b + 215), .int (oi (gi S4_z 192 35)), .int (oi (gi S4_z 192 36)), .int (oi (gi S4_z 192 37)), .int (oi (gi S4_z 192 38)), .ref (b + 216), .ref (b + 217), .ref (b + 218), .ref (b + 219)]) rfl (p_192_27 (show (0 : Int32).toInt = 0 by decide)) (rng_si hS (i32_of (show (0 : Int32).toInt = 0 by decide))) h dX13_next_61 (fun S5_z H locs h hM hS => ?_)
        refine lv_aload_n hx hb dX13_next_64 rfl (lv_at hl 0 rfl) ?_
        refine g_get fl_X13_150_X13 C hM (i := 192) (r := 192) (by omega) (e_192 b kc T S5_z) rfl hS dX13_next_65 (fun z6_z bz6_z => ?_)
        exact ret S5_z _ _ _ _ z6_z (bz6_z.trans (r_1 h)) (r_2 h) hM hS dX13_next_68
      · refine lv_aload_n hx hb dX13_next_28 rfl (lv_at hl 0 rfl) ?_
        refine m_get fl_X13_58_X13 C hM (i := 192) (by omega) (e_192 b kc T S) (v := .ref (b + 193)) rfl dX13_next_29 ?_
        refine lv_iload_n hx hb dX13_next_32 rfl (lv_at hl 1 rfl) ?_
        refine lv_aload_n hx hb dX13_next_33 rfl (lv_at hl 0 rfl) ?_
        refine m_get fl_X13_61_X13 C hM (i := 192) (by omega) (e_192 b kc T S) (v := .ref (b + 194)) rfl dX13_next_34 ?_
        refine lv_iload_n hx hb dX13_next_37 rfl (lv_at hl 1 rfl) ?_
        refine g_lald C hM (j := 194) (by omega) (jK_M b kc T (by omega)) (a_194 b kc) hx1_ (B := 150) rfl h dX13_next_38 (fun h => ?_)
        refine g_last C hM (j := 193) (by omega) (jK_M b kc T (by omega)) (a_193 b kc) hS hx1_ (B := 60) rfl h dX13_next_39 (fun S8_z H locs h hM hS => ?_)
        refine g_iinc (y := 1) hx hb hx1_ (by decide) (by decide) h dX13_next_40 hl (k := 1) rfl (by decide) (fun z9_z ls bz9_z h hl => ?_)
        have hl : lv_has ls 2 [(1, .int z9_z), (0, .ref (b + 192))] := hl
        refine lv_goto (tgt := 20) hx hb dX13_next_43 (by decide) ?_
        exact hkf20_ S8_z _ _ _ z9_z (v1_ + 1) bz9_z hS hM (lv_sub hl [1, 0] rfl) h
  refine lv_aload_n hx hb dX13_next_0 rfl (lv_at hl 0 rfl) ?_
  refine g_get fl_X13_156_X13 C hM (i := 192) (r := 192) (by omega) (e_192 b kc T S) rfl hS dX13_next_1 (fun z1_z bz1_z => ?_)
  refine g_i2l (a := gi S 192 4) hx hb bz1_z dX13_next_4 (fun c2_z => ?_)
  refine lv_lconst (v := 1) hx hb dX13_next_5 (by decide) ?_
  refine lv_ldc2 (v := 60) hx hb hown (hts _ wd_1463) dX13_next_6 ?_
  refine g_callI (J := jM b kc T) (m_runS calS_X13_in wd_1221 (g_M_in l D kc b T S (i2l (gi S 192 4)) (gi S 192 4) c2_z 1 1 (show (1 : Int64).toInt = 1 by decide) 60 60 (show (60 : Int64).toInt = 60 by decide) hS rfl) C hM hl.1 rfl rfl (Nat.le_of_ble_eq_true rfl) dX13_next_9 ⟨Nat.le_of_ble_eq_true rfl, Nat.le_of_ble_eq_true rfl⟩ ⟨Nat.le_of_ble_eq_true rfl, Nat.le_of_ble_eq_true rfl⟩) hM (fun z3_z H locs bz3_z hM hS => ?_)
  refine g_if_ne (tgt := 18) hx hb bz3_z h dX13_next_12 (by decide) (fun h => ?_) (fun h => ?_)
  · refine lv_iconst (v := 0) hx hb dX13_next_18 (by decide) ?_
    refine lv_istore_n (lv' := [(1, .int 0), (0, .ref (b + 192))]) hx hb dX13_next_19 rfl hl (by decide) rfl (fun ls hl => ?_)
    exact B20 FU S _ _ _ 0 0 (show (0 : Int32).toInt = 0 by decide) hS hM (lv_sub hl [1, 0] rfl) h
  · refine lv_bipush (v := (-4)) hx hb dX13_next_15 (by decide) ?_
    exact ret S _ _ _ _ (-4) ((show ((-4) : Int32).toInt = (-4) by decide).trans (r_1 h)) (r_2 h) hM hS dX13_next_17

def f_M_error (S : SS) (v1 : Int) (v2 : Int) : Option (Int × SS) := w_b1 (f_M_isMark S v1) (fun r1_z => (if r1_z = 0 then some ((-2), S) else w_chk (0 ≤ v1 ∧ v1 < 41) ((if gi S 199 (v1).toNat = 5 then some ((-2), S) else w_chk (0 ≤ v1 ∧ v1 < 41) (w_chk (v2 = 0 ∨ v2 = 1) (w_chk (0 ≤ v1 ∧ v1 < 41) (w_lt (si S 208 (v1).toNat v2) (fun S6_z => (if gi S 208 (v1).toNat = v2 then some (0, S6_z) else some (1, S6_z))))))))))
set_option maxHeartbeats 4000000 in
set_option maxRecDepth 100000 in
theorem g_M_error (l : Launch) (D : va_G) (kc : Nat → ClassId) (b : Nat) (T S : SS) (x1 : Int32) (v1 : Int) (hx1 : x1.toInt = v1) (x2 : Int32) (v2 : Int) (hx2 : x2.toInt = v2) (hS : rng S) {vr : Int} {Sr : SS} (h : f_M_error S v1 v2 = some (vr, Sr)) : cI l yX13_error cX13_error 4 .int 3 D kc b (jM b kc T) S [.ref (b + 192), .int x1, .int x2] vr Sr := by
  refine g_beg_i (by decide) (Nat.le_of_ble_eq_true rfl) ?_
  intro p e s m args below meth c Q C ret hM ls hl
  obtain ⟨hx, hb, hml, hown, hts, hE, hbs⟩ := id C
  have hl : lv_has ls 4 [(0, .ref (b + 192)), (1, .int x1), (2, .int x2)] := hl
  unfold f_M_error at h
  refine lv_aload_n hx hb dX13_error_0 rfl (lv_at hl 0 rfl) ?_
  refine lv_iload_n hx hb dX13_error_1 rfl (lv_at hl 1 rfl) ?_
  obtain ⟨r1_z, cr1_z, h⟩ := w_b1E h
  refine g_callI (J := jM b kc T) (m_runV calV_X13_isMark wd_1310 (g_M_isMark l D kc b T S x1 v1 hx1 hS cr1_z) C hM (i := 192) (by omega) (e_192 b kc T S) rfl hl.1 rfl rfl (Nat.le_of_ble_eq_true rfl) dX13_error_2 ⟨Nat.le_of_ble_eq_true rfl, Nat.le_of_ble_eq_true rfl⟩ ⟨Nat.le_of_ble_eq_true rfl, Nat.le_of_ble_eq_true rfl⟩) hM (fun z2_z H locs bz2_z hM hS => ?_)
  refine g_if_eq (tgt := 18) hx hb bz2_z h dX13_error_5 (by decide) (fun h => ?_) (fun h => ?_)
  · refine lv_bipush (v := (-2)) hx hb dX13_error_18 (by decide) ?_
    exact ret S _ _ _ _ (-2) ((show ((-2) : Int32).toInt = (-2) by decide).trans (r_1 h)) (r_2 h) hM hS dX13_error_20
  · refine lv_aload_n hx hb dX13_error_8 rfl (lv_at hl 0 rfl) ?_
    refine m_get fl_X13_70_X13 C hM (i := 192) (by omega) (e_192 b kc T S) (v := .ref (b + 199)) rfl dX13_error_9 ?_
    refine lv_iload_n hx hb dX13_error_12 rfl (lv_at hl 1 rfl) ?_
    refine g_iald C hM (j := 199) (by omega) (jK_M b kc T (by omega)) (a_199 b kc) hS hx1 (B := 41) rfl h dX13_error_13 (fun z3_z bz3_z h => ?_)
    refine lv_iconst (v := 5) hx hb dX13_error_14 (by decide) ?_
    refine g_icmp_ne (tgt := 21) hx hb bz3_z (show (5 : Int32).toInt = 5 by decide) h dX13_error_15 (by decide) (fun h => ?_) (fun h => ?_)
    · refine lv_aload_n hx hb dX13_error_21 rfl (lv_at hl 0 rfl) ?_
      refine m_get fl_X13_99_X13 C hM (i := 192) (by omega) (e_192 b kc T S) (v := .ref (b + 208)) rfl dX13_error_22 ?_
      refine lv_iload_n hx hb dX13_error_25 rfl (lv_at hl 1 rfl) ?_
      refine g_zald C hM (j := 208) (by omega) (jK_M b kc T (by omega)) (a_208 b kc) hS hx1 (B := 41) rfl h dX13_error_26 (fun z4_z bz4_z h => ?_)
      refine lv_istore_n (lv' := [(3, .int z4_z), (0, .ref (b + 192)), (1, .int x1), (2, .int x2)]) hx hb dX13_error_27 rfl hl (by decide) rfl (fun ls hl => ?_)
      refine lv_aload_n hx hb dX13_error_28 rfl (lv_at hl 1 rfl) ?_
      refine m_get fl_X13_99_X13 C hM (i := 192) (by omega) (e_192 b kc T S) (v := .ref (b + 208)) rfl dX13_error_29 ?_
      refine lv_iload_n hx hb dX13_error_32 rfl (lv_at hl 2 rfl) ?_
      refine lv_iload_n hx hb dX13_error_33 rfl (lv_at hl 3 rfl) ?_
      obtain ⟨c5_z, h⟩ := w_chkE h
      refine g_zast C hM (j := 208) (by omega) (jK_M b kc T (by omega)) (a_208 b kc) hS hx1 hx2 c5_z (B := 41) rfl h dX13_error_34 (fun S6_z H locs h hM hS => ?_)
      refine lv_iload_n hx hb dX13_error_35 rfl (lv_at hl 0 rfl) ?_
      refine lv_iload_n hx hb dX13_error_36 rfl (lv_at hl 3 rfl) ?_
      refine g_icmp_ne (tgt := 44) hx hb bz4_z hx2 h dX13_error_37 (by decide) (fun h => ?_) (fun h => ?_)
      · refine lv_iconst (v := 1) hx hb dX13_error_44 (by decide) ?_
        exact ret S6_z _ _ _ _ 1 ((show (1 : Int32).toInt = 1 by decide).trans (r_1 h)) (r_2 h) hM hS dX13_error_45
      · refine lv_iconst (v := 0) hx hb dX13_error_40 (by decide) ?_
        refine lv_goto (tgt := 45) hx hb dX13_error_41 (by decide) ?_
        exact ret S6_z _ _ _ _ 0 ((show (0 : Int32).toInt = 0 by decide).trans (r_1 h)) (r_2 h) hM hS dX13_error_45
    · refine lv_bipush (v := (-2)) hx hb dX13_error_18 (by decide) ?_
      exact ret S _ _ _ _ (-2) ((show ((-2) : Int32).toInt = (-2) by decide).trans (r_1 h)) (r_2 h) hM hS dX13_error_20

def f_M_price (S : SS) (v1 : Int) (v2 : Int) : Option (Int × SS) := (if f_M_in S v1 0 4 = 0 then some ((-2), S) else (if f_M_in S v2 0 999 = 0 then some ((-2), S) else w_chk (0 ≤ v1 ∧ v1 < 5) (w_chk (0 ≤ v1 ∧ v1 < 5) (w_lt (si S 210 (v1).toNat v2) (fun S6_z => some (gi S 210 (v1).toNat, S6_z))))))
set_option maxHeartbeats 4000000 in
set_option maxRecDepth 100000 in
theorem g_M_price (l : Launch) (D : va_G) (kc : Nat → ClassId) (b : Nat) (T S : SS) (x1 : Int32) (v1 : Int) (hx1 : x1.toInt = v1) (x2 : Int32) (v2 : Int) (hx2 : x2.toInt = v2) (hS : rng S) {vr : Int} {Sr : SS} (h : f_M_price S v1 v2 = some (vr, Sr)) : cI l yX13_price cX13_price 4 .int 2 D kc b (jM b kc T) S [.ref (b + 192), .int x1, .int x2] vr Sr := by
  refine g_beg_i (by decide) (Nat.le_of_ble_eq_true rfl) ?_
  intro p e s m args below meth c Q C ret hM ls hl
  obtain ⟨hx, hb, hml, hown, hts, hE, hbs⟩ := id C
  have hl : lv_has ls 4 [(0, .ref (b + 192)), (1, .int x1), (2, .int x2)] := hl
  unfold f_M_price at h
  refine lv_iload_n hx hb dX13_price_0 rfl (lv_at hl 1 rfl) ?_
  refine g_i2l (a := v1) hx hb hx1 dX13_price_1 (fun c1_z => ?_)
  refine lv_lconst (v := 0) hx hb dX13_price_2 (by decide) ?_
  refine lv_ldc2 (v := 4) hx hb hown (hts _ wd_1472) dX13_price_3 ?_
  refine g_callI (J := jM b kc T) (m_runS calS_X13_in wd_1221 (g_M_in l D kc b T S (i2l v1) v1 c1_z 0 0 (show (0 : Int64).toInt = 0 by decide) 4 4 (show (4 : Int64).toInt = 4 by decide) hS rfl) C hM hl.1 rfl rfl (Nat.le_of_ble_eq_true rfl) dX13_price_6 ⟨Nat.le_of_ble_eq_true rfl, Nat.le_of_ble_eq_true rfl⟩ ⟨Nat.le_of_ble_eq_true rfl, Nat.le_of_ble_eq_true rfl⟩) hM (fun z2_z H locs bz2_z hM hS => ?_)
  refine g_if_eq (tgt := 24) hx hb bz2_z h dX13_price_9 (by decide) (fun h => ?_) (fun h => ?_)
  · refine lv_bipush (v := (-2)) hx hb dX13_price_24 (by decide) ?_
    exact ret S _ _ _ _ (-2) ((show ((-2) : Int32).toInt = (-2) by decide).trans (r_1 h)) (r_2 h) hM hS dX13_price_26
  · refine lv_iload_n hx hb dX13_price_12 rfl (lv_at hl 2 rfl) ?_
    refine g_i2l (a := v2) hx hb hx2 dX13_price_13 (fun c3_z => ?_)
    refine lv_lconst (v := 0) hx hb dX13_price_14 (by decide) ?_
    refine lv_ldc2 (v := 999) hx hb hown (hts _ wd_1473) dX13_price_15 ?_
    refine g_callI (J := jM b kc T) (m_runS calS_X13_in wd_1221 (g_M_in l D kc b T S (i2l v2) v2 c3_z 0 0 (show (0 : Int64).toInt = 0 by decide) 999 999 (show (999 : Int64).toInt = 999 by decide) hS rfl) C hM hl.1 rfl rfl (Nat.le_of_ble_eq_true rfl) dX13_price_18 ⟨Nat.le_of_ble_eq_true rfl, Nat.le_of_ble_eq_true rfl⟩ ⟨Nat.le_of_ble_eq_true rfl, Nat.le_of_ble_eq_true rfl⟩) hM (fun z4_z H locs bz4_z hM hS => ?_)
    refine g_if_ne (tgt := 27) hx hb bz4_z h dX13_price_21 (by decide) (fun h => ?_) (fun h => ?_)
    · refine lv_aload_n hx hb dX13_price_27 rfl (lv_at hl 0 rfl) ?_
      refine m_get fl_X13_105_X13 C hM (i := 192) (by omega) (e_192 b kc T S) (v := .ref (b + 210)) rfl dX13_price_28 ?_
      refine lv_iload_n hx hb dX13_price_31 rfl (lv_at hl 1 rfl) ?_
      refine g_iald C hM (j := 210) (by omega) (jK_M b kc T (by omega)) (a_210 b kc) hS hx1 (B := 5) rfl h dX13_price_32 (fun z5_z bz5_z h => ?_)
      refine lv_istore_n (lv' := [(3, .int z5_z), (0, .ref (b + 192)), (1, .int x1), (2, .int x2)]) hx hb dX13_price_33 rfl hl (by decide) rfl (fun ls hl => ?_)
      refine lv_aload_n hx hb dX13_price_34 rfl (lv_at hl 1 rfl) ?_
      refine m_get fl_X13_105_X13 C hM (i := 192) (by omega) (e_192 b kc T S) (v := .ref (b + 210)) rfl dX13_price_35 ?_
      refine lv_iload_n hx hb dX13_price_38 rfl (lv_at hl 2 rfl) ?_
      refine lv_iload_n hx hb dX13_price_39 rfl (lv_at hl 3 rfl) ?_
      refine g_iast C hM (j := 210) (by omega) (jK_M b kc T (by omega)) (a_210 b kc) hS hx1 hx2 (B := 5) rfl h dX13_price_40 (fun S6_z H locs h hM hS => ?_)
      refine lv_iload_n hx hb dX13_price_41 rfl (lv_at hl 0 rfl) ?_
      exact ret S6_z _ _ _ _ z5_z (bz5_z.trans (r_1 h)) (r_2 h) hM hS dX13_price_42
    · refine lv_bipush (v := (-2)) hx hb dX13_price_24 (by decide) ?_
      exact ret S _ _ _ _ (-2) ((show ((-2) : Int32).toInt = (-2) by decide).trans (r_1 h)) (r_2 h) hM hS dX13_price_26

def f_M_pays_91 (v1 : Int) (kf21_ : SS → Int → Int → Option (Int × SS)) (S : SS) (v3_ : Int) (vt0_ : Int) (vt1_ : Int) : Option (Int × SS) := w_chk (i32 (vt1_ + vt0_)) (w_chk (i32 (v3_ + 1)) (kf21_ S (vt1_ + vt0_) (v3_ + 1)))
def f_M_pays_90 (v1 : Int) (kf21_ : SS → Int → Int → Option (Int × SS)) (S : SS) (v3_ : Int) (vt0_ : Int) : Option (Int × SS) := f_M_pays_91 v1 kf21_ S v3_ 0 vt0_
def f_M_pays_73 (v1 : Int) (kf21_ : SS → Int → Int → Option (Int × SS)) (S : SS) (v3_ : Int) (vt0_ : Int) (vt1_ : Int) (vt2_ : Int) : Option (Int × SS) := (if vt1_ = vt0_ then w_chk (0 ≤ v3_ ∧ v3_ < 41) (w_chk (0 ≤ (gi S 199 (v3_).toNat) ∧ (gi S 199 (v3_).toNat) < 5) (f_M_pays_91 v1 kf21_ S v3_ (gi S 210 (gi S 199 (v3_).toNat).toNat) vt2_)) else f_M_pays_90 v1 kf21_ S v3_ vt2_)
def f_M_pays_63 (v1 : Int) (kf21_ : SS → Int → Int → Option (Int × SS)) (S : SS) (v3_ : Int) (vt0_ : Int) (vt1_ : Int) : Option (Int × SS) := (if v1 = 1 then f_M_pays_73 v1 kf21_ S v3_ 1 vt0_ vt1_ else f_M_pays_73 v1 kf21_ S v3_ 0 vt0_ vt1_)
def f_M_pays_58 (v1 : Int) (kf21_ : SS → Int → Int → Option (Int × SS)) (S : SS) (v3_ : Int) (vt0_ : Int) : Option (Int × SS) := f_M_pays_63 v1 kf21_ S v3_ 1 vt0_
def f_M_pays_21_b (v1 : Int) (kf21_ : SS → Int → Int → Option (Int × SS)) (S : SS) (v2_ : Int) (v3_ : Int) : Option (Int × SS) := (if gi S 192 27 ≤ v3_ then some (v2_, S) else w_chk (0 ≤ v3_ ∧ v3_ < 40) ((if gi S 212 (v3_).toNat = 0 then w_chk (0 ≤ v3_ ∧ v3_ < 41) ((if gi S 200 (v3_).toNat = 2 then f_M_pays_58 v1 kf21_ S v3_ v2_ else w_chk (0 ≤ v3_ ∧ v3_ < 41) ((if gi S 208 (v3_).toNat = 0 then f_M_pays_63 v1 kf21_ S v3_ 0 v2_ else f_M_pays_58 v1 kf21_ S v3_ v2_)))) else f_M_pays_90 v1 kf21_ S v3_ v2_)))
def f_M_pays_21 (v1 : Int) : Nat → SS → Int → Int → Option (Int × SS)
  | 0 => fun _ _ _ => none
  | n + 1 => f_M_pays_21_b v1 (f_M_pays_21 v1 n)
def f_M_pays (S : SS) (v1 : Int) : Option (Int × SS) := (if f_M_in S v1 0 1 = 0 then some ((-2), S) else w_b1 (f_M_judge S) (fun S3_z => f_M_pays_21 v1 FU S3_z 0 0))
set_option maxHeartbeats 4000000 in
set_option maxRecDepth 100000 in
theorem g_M_pays (l : Launch) (D : va_G) (kc : Nat → ClassId) (b : Nat) (T S : SS) (x1 : Int32) (v1 : Int) (hx1 : x1.toInt = v1) (hS : rng S) {vr : Int} {Sr : SS} (h : f_M_pays S v1 = some (vr, Sr)) : cI l yX13_pays cX13_pays 4 .int 7 D kc b (jM b kc T) S [.ref (b + 192), .int x1] vr Sr := by
  refine g_beg_i (by decide) (Nat.le_of_ble_eq_true rfl) ?_
  intro p e s m args below meth c Q C ret hM ls hl
  obtain ⟨hx, hb, hml, hown, hts, hE, hbs⟩ := id C
  have hl : lv_has ls 4 [(0, .ref (b + 192)), (1, .int x1)] := hl
  unfold f_M_pays at h
  have B91 : ∀ (kf21_ : SS → Int → Int → Option (Int × SS)) (hkf21_ : ∀ (S : SS) (H : Heap) (locs : List Loc) (ls : Array Slot) (x2_ : Int32) (v2_ : Int) (hx2_ : x2_.toInt = v2_) (x3_ : Int32) (v3_ : Int) (hx3_ : x3_.toInt = v3_), rng S → mS D b s 220 (jM b kc T S) H locs → lv_has ls 4 [(0, .ref (b + 192)), (1, .int x1), (2, .int x2_), (3, .int x3_)] → kf21_ S v2_ v3_ = some (vr, Sr) → W p l e (mR 7 0 0) s m args below meth c H locs 0 0 Q (F0 m 21 ls [])), ∀ (S : SS) (H : Heap) (locs : List Loc) (ls : Array Slot) (x3_ : Int32) (v3_ : Int) (hx3_ : x3_.toInt = v3_) (xt0_ : Int32) (vt0_ : Int) (hxt0_ : xt0_.toInt = vt0_) (xt1_ : Int32) (vt1_ : Int) (hxt1_ : xt1_.toInt = vt1_), rng S → mS D b s 220 (jM b kc T S) H locs → lv_has ls 4 [(0, .ref (b + 192)), (1, .int x1), (3, .int x3_)] → f_M_pays_91 v1 kf21_ S v3_ vt0_ vt1_ = some (vr, Sr) → W p l e (mR 7 0 0) s m args below meth c H locs 0 0 Q (F0 m 91 ls [.int xt0_, .int xt1_]) := by
    intro kf21_ hkf21_ S H locs ls x3_ v3_ hx3_ xt0_ vt0_ hxt0_ xt1_ vt1_ hxt1_ hS hM hl h
    unfold f_M_pays_91 at h
    refine g_iadd hx hb hxt1_ hxt0_ h dX13_pays_91 (fun z1_z bz1_z h => ?_)
    refine lv_istore_n (lv' := [(2, .int z1_z), (0, .ref (b + 192)), (1, .int x1), (3, .int x3_)]) hx hb dX13_pays_92 rfl hl (by decide) rfl (fun ls hl => ?_)
    refine g_iinc (y := 1) hx hb hx3_ (by decide) (by decide) h dX13_pays_93 hl (k := 3) rfl (by decide) (fun z2_z ls bz2_z h hl => ?_)
    have hl : lv_has ls 4 [(3, .int z2_z), (2, .int z1_z), (0, .ref (b + 192)), (1, .int x1)] := hl
    refine lv_goto (tgt := 21) hx hb dX13_pays_96 (by decide) ?_
    exact hkf21_ S _ _ _ z1_z (vt1_ + vt0_) bz1_z z2_z (v3_ + 1) bz2_z hS hM (lv_sub hl [2, 3, 1, 0] rfl) h
  have B90 : ∀ (kf21_ : SS → Int → Int → Option (Int × SS)) (hkf21_ : ∀ (S : SS) (H : Heap) (locs : List Loc) (ls : Array Slot) (x2_ : Int32) (v2_ : Int) (hx2_ : x2_.toInt = v2_) (x3_ : Int32) (v3_ : Int) (hx3_ : x3_.toInt = v3_), rng S → mS D b s 220 (jM b kc T S) H locs → lv_has ls 4 [(0, .ref (b + 192)), (1, .int x1), (2, .int x2_), (3, .int x3_)] → kf21_ S v2_ v3_ = some (vr, Sr) → W p l e (mR 7 0 0) s m args below meth c H locs 0 0 Q (F0 m 21 ls [])), ∀ (S : SS) (H : Heap) (locs : List Loc) (ls : Array Slot) (x3_ : Int32) (v3_ : Int) (hx3_ : x3_.toInt = v3_) (xt0_ : Int32) (vt0_ : Int) (hxt0_ : xt0_.toInt = vt0_), rng S → mS D b s 220 (jM b kc T S) H locs → lv_has ls 4 [(0, .ref (b + 192)), (1, .int x1), (3, .int x3_)] → f_M_pays_90 v1 kf21_ S v3_ vt0_ = some (vr, Sr) → W p l e (mR 7 0 0) s m args below meth c H locs 0 0 Q (F0 m 90 ls [.int xt0_]) := by
    intro kf21_ hkf21_ S H locs ls x3_ v3_ hx3_ xt0_ vt0_ hxt0_ hS hM hl h
    unfold f_M_pays_90 at h
    refine lv_iconst (v := 0) hx hb dX13_pays_90 (by decide) ?_
    exact B91 kf21_ hkf21_ S _ _ _ x3_ v3_ hx3_ 0 0 (show (0 : Int32).toInt = 0 by decide) xt0_ vt0_ hxt0_ hS hM (lv_sub hl [0, 1, 2] rfl) h
  have B73 : ∀ (kf21_ : SS → Int → Int → Option (Int × SS)) (hkf21_ : ∀ (S : SS) (H : Heap) (locs : List Loc) (ls : Array Slot) (x2_ : Int32) (v2_ : Int) (hx2_ : x2_.toInt = v2_) (x3_ : Int32) (v3_ : Int) (hx3_ : x3_.toInt = v3_), rng S → mS D b s 220 (jM b kc T S) H locs → lv_has ls 4 [(0, .ref (b + 192)), (1, .int x1), (2, .int x2_), (3, .int x3_)] → kf21_ S v2_ v3_ = some (vr, Sr) → W p l e (mR 7 0 0) s m args below meth c H locs 0 0 Q (F0 m 21 ls [])), ∀ (S : SS) (H : Heap) (locs : List Loc) (ls : Array Slot) (x3_ : Int32) (v3_ : Int) (hx3_ : x3_.toInt = v3_) (xt0_ : Int32) (vt0_ : Int) (hxt0_ : xt0_.toInt = vt0_) (xt1_ : Int32) (vt1_ : Int) (hxt1_ : xt1_.toInt = vt1_) (xt2_ : Int32) (vt2_ : Int) (hxt2_ : xt2_.toInt = vt2_), rng S → mS D b s 220 (jM b kc T S) H locs → lv_has ls 4 [(0, .ref (b + 192)), (1, .int x1), (3, .int x3_)] → f_M_pays_73 v1 kf21_ S v3_ vt0_ vt1_ vt2_ = some (vr, Sr) → W p l e (mR 7 0 0) s m args below meth c H locs 0 0 Q (F0 m 73 ls [.int xt0_, .int xt1_, .int xt2_]) := by
    intro kf21_ hkf21_ S H locs ls x3_ v3_ hx3_ xt0_ vt0_ hxt0_ xt1_ vt1_ hxt1_ xt2_ vt2_ hxt2_ hS hM hl h
    unfold f_M_pays_73 at h
    refine g_icmp_ne (tgt := 90) hx hb hxt1_ hxt0_ h dX13_pays_73 (by decide) (fun h => ?_) (fun h => ?_)
    · exact B90 kf21_ hkf21_ S _ _ _ x3_ v3_ hx3_ xt2_ vt2_ hxt2_ hS hM (lv_sub hl [0, 1, 2] rfl) h
    · refine lv_aload_n hx hb dX13_pays_76 rfl (lv_at hl 0 rfl) ?_
      refine m_get fl_X13_105_X13 C hM (i := 192) (by omega) (e_192 b kc T S) (v := .ref (b + 210)) rfl dX13_pays_77 ?_
      refine lv_aload_n hx hb dX13_pays_80 rfl (lv_at hl 0 rfl) ?_
      refine m_get fl_X13_70_X13 C hM (i := 192) (by omega) (e_192 b kc T S) (v := .ref (b + 199)) rfl dX13_pays_81 ?_
      refine lv_iload_n hx hb dX13_pays_84 rfl (lv_at hl 2 rfl) ?_
      refine g_iald C hM (j := 199) (by omega) (jK_M b kc T (by omega)) (a_199 b kc) hS hx3_ (B := 41) rfl h dX13_pays_85 (fun z1_z bz1_z h => ?_)
      refine g_iald C hM (j := 210) (by omega) (jK_M b kc T (by omega)) (a_210 b kc) hS bz1_z (B := 5) rfl h dX13_pays_86 (fun z2_z bz2_z h => ?_)
      refine lv_goto (tgt := 91) hx hb dX13_pays_87 (by decide) ?_
      exact B91 kf21_ hkf21_ S _ _ _ x3_ v3_ hx3_ z2_z (gi S 210 (gi S 199 (v3_).toNat).toNat) bz2_z xt2_ vt2_ hxt2_ hS hM (lv_sub hl [0, 1, 2] rfl) h
  have B63 : ∀ (kf21_ : SS → Int → Int → Option (Int × SS)) (hkf21_ : ∀ (S : SS) (H : Heap) (locs : List Loc) (ls : Array Slot) (x2_ : Int32) (v2_ : Int) (hx2_ : x2_.toInt = v2_) (x3_ : Int32) (v3_ : Int) (hx3_ : x3_.toInt = v3_), rng S → mS D b s 220 (jM b kc T S) H locs → lv_has ls 4 [(0, .ref (b + 192)), (1, .int x1), (2, .int x2_), (3, .int x3_)] → kf21_ S v2_ v3_ = some (vr, Sr) → W p l e (mR 7 0 0) s m args below meth c H locs 0 0 Q (F0 m 21 ls [])), ∀ (S : SS) (H : Heap) (locs : List Loc) (ls : Array Slot) (x3_ : Int32) (v3_ : Int) (hx3_ : x3_.toInt = v3_) (xt0_ : Int32) (vt0_ : Int) (hxt0_ : xt0_.toInt = vt0_) (xt1_ : Int32) (vt1_ : Int) (hxt1_ : xt1_.toInt = vt1_), rng S → mS D b s 220 (jM b kc T S) H locs → lv_has ls 4 [(0, .ref (b + 192)), (1, .int x1), (3, .int x3_)] → f_M_pays_63 v1 kf21_ S v3_ vt0_ vt1_ = some (vr, Sr) → W p l e (mR 7 0 0) s m args below meth c H locs 0 0 Q (F0 m 63 ls [.int xt0_, .int xt1_]) := by
    intro kf21_ hkf21_ S H locs ls x3_ v3_ hx3_ xt0_ vt0_ hxt0_ xt1_ vt1_ hxt1_ hS hM hl h
    unfold f_M_pays_63 at h
    refine lv_iload_n hx hb dX13_pays_63 rfl (lv_at hl 1 rfl) ?_
    refine lv_iconst (v := 1) hx hb dX13_pays_64 (by decide) ?_
    refine g_icmp_ne (tgt := 72) hx hb hx1 (show (1 : Int32).toInt = 1 by decide) h dX13_pays_65 (by decide) (fun h => ?_) (fun h => ?_)
    · refine lv_iconst (v := 0) hx hb dX13_pays_72 (by decide) ?_
      exact B73 kf21_ hkf21_ S _ _ _ x3_ v3_ hx3_ 0 0 (show (0 : Int32).toInt = 0 by decide) xt0_ vt0_ hxt0_ xt1_ vt1_ hxt1_ hS hM (lv_sub hl [0, 1, 2] rfl) h
    · refine lv_iconst (v := 1) hx hb dX13_pays_68 (by decide) ?_
      refine lv_goto (tgt := 73) hx hb dX13_pays_69 (by decide) ?_
      exact B73 kf21_ hkf21_ S _ _ _ x3_ v3_ hx3_ 1 1 (show (1 : Int32).toInt = 1 by decide) xt0_ vt0_ hxt0_ xt1_ vt1_ hxt1_ hS hM (lv_sub hl [0, 1, 2] rfl) h
  have B58 : ∀ (kf21_ : SS → Int → Int → Option (Int × SS)) (hkf21_ : ∀ (S : SS) (H : Heap) (locs : List Loc) (ls : Array Slot) (x2_ : Int32) (v2_ : Int) (hx2_ : x2_.toInt = v2_) (x3_ : Int32) (v3_ : Int) (hx3_ : x3_.toInt = v3_), rng S → mS D b s 220 (jM b kc T S) H locs → lv_has ls 4 [(0, .ref (b + 192)), (1, .int x1), (2, .int x2_), (3, .int x3_)] → kf21_ S v2_ v3_ = some (vr, Sr) → W p l e (mR 7 0 0) s m args below meth c H locs 0 0 Q (F0 m 21 ls [])), ∀ (S : SS) (H : Heap) (locs : List Loc) (ls : Array Slot) (x3_ : Int32) (v3_ : Int) (hx3_ : x3_.toInt = v3_) (xt0_ : Int32) (vt0_ : Int) (hxt0_ : xt0_.toInt = vt0_), rng S → mS D b s 220 (jM b kc T S) H locs → lv_has ls 4 [(0, .ref (b + 192)), (1, .int x1), (3, .int x3_)] → f_M_pays_58 v1 kf21_ S v3_ vt0_ = some (vr, Sr) → W p l e (mR 7 0 0) s m args below meth c H locs 0 0 Q (F0 m 58 ls [.int xt0_]) := by
    intro kf21_ hkf21_ S H locs ls x3_ v3_ hx3_ xt0_ vt0_ hxt0_ hS hM hl h
    unfold f_M_pays_58 at h
    refine lv_iconst (v := 1) hx hb dX13_pays_58 (by decide) ?_
    refine lv_goto (tgt := 63) hx hb dX13_pays_59 (by decide) ?_
    exact B63 kf21_ hkf21_ S _ _ _ x3_ v3_ hx3_ 1 1 (show (1 : Int32).toInt = 1 by decide) xt0_ vt0_ hxt0_ hS hM (lv_sub hl [0, 1, 2] rfl) h
  have B21 : ∀ (n : Nat), ∀ (S : SS) (H : Heap) (locs : List Loc) (ls : Array Slot) (x2_ : Int32) (v2_ : Int) (hx2_ : x2_.toInt = v2_) (x3_ : Int32) (v3_ : Int) (hx3_ : x3_.toInt = v3_), rng S → mS D b s 220 (jM b kc T S) H locs → lv_has ls 4 [(0, .ref (b + 192)), (1, .int x1), (2, .int x2_), (3, .int x3_)] → f_M_pays_21 v1 n S v2_ v3_ = some (vr, Sr) → W p l e (mR 7 0 0) s m args below meth c H locs 0 0 Q (F0 m 21 ls []) := by
    intro n
    induction n with
    | zero => intro S H locs ls x2_ v2_ hx2_ x3_ v3_ hx3_ hS hM hl h; exact absurd (h : none = some _) (fun q => nomatch q)
    | succ n hkf21_ =>
      intro S H locs ls x2_ v2_ hx2_ x3_ v3_ hx3_ hS hM hl h
      have h : f_M_pays_21_b v1 (f_M_pays_21 v1 n) S v2_ v3_ = some (vr, Sr) := h
      unfold f_M_pays_21_b at h
      refine lv_iload_n hx hb dX13_pays_21 rfl (lv_at hl 3 rfl) ?_
      refine lv_aload_n hx hb dX13_pays_22 rfl (lv_at hl 0 rfl) ?_
      refine g_get fl_X13_153_X13 C hM (i := 192) (r := 192) (by omega) (e_192 b kc T S) rfl hS dX13_pays_23 (fun z1_z bz1_z => ?_)
      refine g_icmp_ge (tgt := 99) hx hb hx3_ bz1_z h dX13_pays_26 (by decide) (fun h => ?_) (fun h => ?_)
      · refine lv_iload_n hx hb dX13_pays_99 rfl (lv_at hl 2 rfl) ?_
        exact ret S _ _ _ _ x2_ (hx2_.trans (r_1 h)) (r_2 h) hM hS dX13_pays_100
      · refine lv_iload_n hx hb dX13_pays_29 rfl (lv_at hl 2 rfl) ?_
        refine lv_aload_n hx hb dX13_pays_30 rfl (lv_at hl 0 rfl) ?_
        refine m_get fl_X13_111_X13 C hM (i := 192) (by omega) (e_192 b kc T S) (v := .ref (b + 212)) rfl dX13_pays_31 ?_
        refine lv_iload_n hx hb dX13_pays_34 rfl (lv_at hl 3 rfl) ?_
        refine g_iald C hM (j := 212) (by omega) (jK_M b kc T (by omega)) (a_212 b kc) hS hx3_ (B := 40) rfl h dX13_pays_35 (fun z2_z bz2_z h => ?_)
        refine g_if_ne (tgt := 90) hx hb bz2_z h dX13_pays_36 (by decide) (fun h => ?_) (fun h => ?_)
        · exact B90 (f_M_pays_21 v1 n) hkf21_ S _ _ _ x3_ v3_ hx3_ x2_ v2_ hx2_ hS hM (lv_sub hl [0, 1, 3] rfl) h
        · refine lv_aload_n hx hb dX13_pays_39 rfl (lv_at hl 0 rfl) ?_
          refine m_get fl_X13_74_X13 C hM (i := 192) (by omega) (e_192 b kc T S) (v := .ref (b + 200)) rfl dX13_pays_40 ?_
          refine lv_iload_n hx hb dX13_pays_43 rfl (lv_at hl 3 rfl) ?_
          refine g_iald C hM (j := 200) (by omega) (jK_M b kc T (by omega)) (a_200 b kc) hS hx3_ (B := 41) rfl h dX13_pays_44 (fun z3_z bz3_z h => ?_)
          refine lv_iconst (v := 2) hx hb dX13_pays_45 (by decide) ?_
          refine g_icmp_eq (tgt := 58) hx hb bz3_z (show (2 : Int32).toInt = 2 by decide) h dX13_pays_46 (by decide) (fun h => ?_) (fun h => ?_)
          · exact B58 (f_M_pays_21 v1 n) hkf21_ S _ _ _ x3_ v3_ hx3_ x2_ v2_ hx2_ hS hM (lv_sub hl [0, 1, 3] rfl) h
          · refine lv_aload_n hx hb dX13_pays_49 rfl (lv_at hl 0 rfl) ?_
            refine m_get fl_X13_99_X13 C hM (i := 192) (by omega) (e_192 b kc T S) (v := .ref (b + 208)) rfl dX13_pays_50 ?_
            refine lv_iload_n hx hb dX13_pays_53 rfl (lv_at hl 3 rfl) ?_
            refine g_zald C hM (j := 208) (by omega) (jK_M b kc T (by omega)) (a_208 b kc) hS hx3_ (B := 41) rfl h dX13_pays_54 (fun z4_z bz4_z h => ?_)
            refine g_if_eq (tgt := 62) hx hb bz4_z h dX13_pays_55 (by decide) (fun h => ?_) (fun h => ?_)
            · refine lv_iconst (v := 0) hx hb dX13_pays_62 (by decide) ?_
              exact B63 (f_M_pays_21 v1 n) hkf21_ S _ _ _ x3_ v3_ hx3_ 0 0 (show (0 : Int32).toInt = 0 by decide) x2_ v2_ hx2_ hS hM (lv_sub hl [0, 1, 3] rfl) h
            · exact B58 (f_M_pays_21 v1 n) hkf21_ S _ _ _ x3_ v3_ hx3_ x2_ v2_ hx2_ hS hM (lv_sub hl [0, 1, 3] rfl) h
  refine lv_iload_n hx hb dX13_pays_0 rfl (lv_at hl 1 rfl) ?_
  refine g_i2l (a := v1) hx hb hx1 dX13_pays_1 (fun c1_z => ?_)
  refine lv_lconst (v := 0) hx hb dX13_pays_2 (by decide) ?_
  refine lv_lconst (v := 1) hx hb dX13_pays_3 (by decide) ?_
  refine g_callI (J := jM b kc T) (m_runS calS_X13_in wd_1221 (g_M_in l D kc b T S (i2l v1) v1 c1_z 0 0 (show (0 : Int64).toInt = 0 by decide) 1 1 (show (1 : Int64).toInt = 1 by decide) hS rfl) C hM hl.1 rfl rfl (Nat.le_of_ble_eq_true rfl) dX13_pays_4 ⟨Nat.le_of_ble_eq_true rfl, Nat.le_of_ble_eq_true rfl⟩ ⟨Nat.le_of_ble_eq_true rfl, Nat.le_of_ble_eq_true rfl⟩) hM (fun z2_z H locs bz2_z hM hS => ?_)
  refine g_if_ne (tgt := 13) hx hb bz2_z h dX13_pays_7 (by decide) (fun h => ?_) (fun h => ?_)
  · refine lv_aload_n hx hb dX13_pays_13 rfl (lv_at hl 0 rfl) ?_
    obtain ⟨S3_z, cS3_z, h⟩ := w_b1E h
    refine g_callV (J := jM b kc T) (m_runV calV_X13_judge wd_1352 (g_M_judge l D kc b T S hS cS3_z) C hM (i := 192) (by omega) (e_192 b kc T S) rfl hl.1 rfl rfl (Nat.le_of_ble_eq_true rfl) dX13_pays_14 ⟨Nat.le_of_ble_eq_true rfl, Nat.le_of_ble_eq_true rfl⟩ ⟨Nat.le_of_ble_eq_true rfl, Nat.le_of_ble_eq_true rfl⟩) hM (fun H locs hM hS => ?_)
    refine lv_iconst (v := 0) hx hb dX13_pays_17 (by decide) ?_
    refine lv_istore_n (lv' := [(2, .int 0), (0, .ref (b + 192)), (1, .int x1)]) hx hb dX13_pays_18 rfl hl (by decide) rfl (fun ls hl => ?_)
    refine lv_iconst (v := 0) hx hb dX13_pays_19 (by decide) ?_
    refine lv_istore_n (lv' := [(3, .int 0), (2, .int 0), (0, .ref (b + 192)), (1, .int x1)]) hx hb dX13_pays_20 rfl hl (by decide) rfl (fun ls hl => ?_)
    exact B21 FU S3_z _ _ _ 0 0 (show (0 : Int32).toInt = 0 by decide) 0 0 (show (0 : Int32).toInt = 0 by decide) hS hM (lv_sub hl [2, 3, 1, 0] rfl) h
  · refine lv_bipush (v := (-2)) hx hb dX13_pays_10 (by decide) ?_
    exact ret S _ _ _ _ (-2) ((show ((-2) : Int32).toInt = (-2) by decide).trans (r_1 h)) (r_2 h) hM hS dX13_pays_12

def f_M_count_136 (v1 : Int) (kf87_ : SS → Int → Int → Option (Int × SS)) (S : SS) (v3_ : Int) (vt0_ : Int) (vt1_ : Int) : Option (Int × SS) := w_chk (i32 (vt1_ + vt0_)) (w_chk (i32 (v3_ + 1)) (kf87_ S (vt1_ + vt0_) (v3_ + 1)))
def f_M_count_87_b (v1 : Int) (kf87_ : SS → Int → Int → Option (Int × SS)) (S : SS) (v2_ : Int) (v3_ : Int) : Option (Int × SS) := (if gi S 192 27 ≤ v3_ then some (v2_, S) else (if v1 = 4 then w_chk (0 ≤ v3_ ∧ v3_ < 40) ((if 2 ≤ gi S 212 (v3_).toNat then f_M_count_136 v1 kf87_ S v3_ 0 v2_ else f_M_count_136 v1 kf87_ S v3_ 1 v2_)) else w_chk (0 ≤ v3_ ∧ v3_ < 40) (w_chk (i32 (v1 - 5)) ((if gi S 212 (v3_).toNat = v1 - 5 then f_M_count_136 v1 kf87_ S v3_ 1 v2_ else f_M_count_136 v1 kf87_ S v3_ 0 v2_)))))
def f_M_count_87 (v1 : Int) : Nat → SS → Int → Int → Option (Int × SS)
  | 0 => fun _ _ _ => none
  | n + 1 => f_M_count_87_b v1 (f_M_count_87 v1 n)
def f_M_count (S : SS) (v1 : Int) : Option (Int × SS) := (if f_M_in S v1 0 2 = 0 then (if f_M_in S v1 10 12 = 0 then (if v1 = 3 then some (gi S 192 27, S) else (if v1 = 9 then some (gi S 192 8, S) else (if f_M_in S v1 4 8 = 0 then some ((-1), S) else w_b1 (f_M_judge S) (fun S7_z => f_M_count_87 v1 FU S7_z 0 0)))) else w_chk (i32 (v1 - 10)) (w_chk (0 ≤ (v1 - 10) ∧ (v1 - 10) < 3) (some (gi S 209 (v1 - 10).toNat, S)))) else w_b2 (f_M_wordsOf S v1) (fun r14_z S13_z => some (r14_z, S13_z)))
set_option maxHeartbeats 4000000 in
set_option maxRecDepth 100000 in
theorem g_M_count (l : Launch) (D : va_G) (kc : Nat → ClassId) (b : Nat) (T S : SS) (x1 : Int32) (v1 : Int) (hx1 : x1.toInt = v1) (hS : rng S) {vr : Int} {Sr : SS} (h : f_M_count S v1 = some (vr, Sr)) : cI l yX13_count cX13_count 4 .int 95 D kc b (jM b kc T) S [.ref (b + 192), .int x1] vr Sr := by
  refine g_beg_i (by decide) (Nat.le_of_ble_eq_true rfl) ?_
  intro p e s m args below meth c Q C ret hM ls hl
  obtain ⟨hx, hb, hml, hown, hts, hE, hbs⟩ := id C
  have hl : lv_has ls 4 [(0, .ref (b + 192)), (1, .int x1)] := hl
  unfold f_M_count at h
  have B136 : ∀ (kf87_ : SS → Int → Int → Option (Int × SS)) (hkf87_ : ∀ (S : SS) (H : Heap) (locs : List Loc) (ls : Array Slot) (x2_ : Int32) (v2_ : Int) (hx2_ : x2_.toInt = v2_) (x3_ : Int32) (v3_ : Int) (hx3_ : x3_.toInt = v3_), rng S → mS D b s 220 (jM b kc T S) H locs → lv_has ls 4 [(0, .ref (b + 192)), (1, .int x1), (2, .int x2_), (3, .int x3_)] → kf87_ S v2_ v3_ = some (vr, Sr) → W p l e (mR 95 0 0) s m args below meth c H locs 0 0 Q (F0 m 87 ls [])), ∀ (S : SS) (H : Heap) (locs : List Loc) (ls : Array Slot) (x3_ : Int32) (v3_ : Int) (hx3_ : x3_.toInt = v3_) (xt0_ : Int32) (vt0_ : Int) (hxt0_ : xt0_.toInt = vt0_) (xt1_ : Int32) (vt1_ : Int) (hxt1_ : xt1_.toInt = vt1_), rng S → mS D b s 220 (jM b kc T S) H locs → lv_has ls 4 [(0, .ref (b + 192)), (1, .int x1), (3, .int x3_)] → f_M_count_136 v1 kf87_ S v3_ vt0_ vt1_ = some (vr, Sr) → W p l e (mR 95 0 0) s m args below meth c H locs 0 0 Q (F0 m 136 ls [.int xt0_, .int xt1_]) := by
    intro kf87_ hkf87_ S H locs ls x3_ v3_ hx3_ xt0_ vt0_ hxt0_ xt1_ vt1_ hxt1_ hS hM hl h
    unfold f_M_count_136 at h
    refine g_iadd hx hb hxt1_ hxt0_ h dX13_count_136 (fun z1_z bz1_z h => ?_)
    refine lv_istore_n (lv' := [(2, .int z1_z), (0, .ref (b + 192)), (1, .int x1), (3, .int x3_)]) hx hb dX13_count_137 rfl hl (by decide) rfl (fun ls hl => ?_)
    refine g_iinc (y := 1) hx hb hx3_ (by decide) (by decide) h dX13_count_138 hl (k := 3) rfl (by decide) (fun z2_z ls bz2_z h hl => ?_)
    have hl : lv_has ls 4 [(3, .int z2_z), (2, .int z1_z), (0, .ref (b + 192)), (1, .int x1)] := hl
    refine lv_goto (tgt := 87) hx hb dX13_count_141 (by decide) ?_
    exact hkf87_ S _ _ _ z1_z (vt1_ + vt0_) bz1_z z2_z (v3_ + 1) bz2_z hS hM (lv_sub hl [2, 3, 1, 0] rfl) h
  have B87 : ∀ (n : Nat), ∀ (S : SS) (H : Heap) (locs : List Loc) (ls : Array Slot) (x2_ : Int32) (v2_ : Int) (hx2_ : x2_.toInt = v2_) (x3_ : Int32) (v3_ : Int) (hx3_ : x3_.toInt = v3_), rng S → mS D b s 220 (jM b kc T S) H locs → lv_has ls 4 [(0, .ref (b + 192)), (1, .int x1), (2, .int x2_), (3, .int x3_)] → f_M_count_87 v1 n S v2_ v3_ = some (vr, Sr) → W p l e (mR 95 0 0) s m args below meth c H locs 0 0 Q (F0 m 87 ls []) := by
    intro n
    induction n with
    | zero => intro S H locs ls x2_ v2_ hx2_ x3_ v3_ hx3_ hS hM hl h; exact absurd (h : none = some _) (fun q => nomatch q)
    | succ n hkf87_ =>
      intro S H locs ls x2_ v2_ hx2_ x3_ v3_ hx3_ hS hM hl h
      have h : f_M_count_87_b v1 (f_M_count_87 v1 n) S v2_ v3_ = some (vr, Sr) := h
      unfold f_M_count_87_b at h
      refine lv_iload_n hx hb dX13_count_87 rfl (lv_at hl 3 rfl) ?_
      refine lv_aload_n hx hb dX13_count_88 rfl (lv_at hl 0 rfl) ?_
      refine g_get fl_X13_153_X13 C hM (i := 192) (r := 192) (by omega) (e_192 b kc T S) rfl hS dX13_count_89 (fun z1_z bz1_z => ?_)
      refine g_icmp_ge (tgt := 144) hx hb hx3_ bz1_z h dX13_count_92 (by decide) (fun h => ?_) (fun h => ?_)
      · refine lv_iload_n hx hb dX13_count_144 rfl (lv_at hl 2 rfl) ?_
        exact ret S _ _ _ _ x2_ (hx2_.trans (r_1 h)) (r_2 h) hM hS dX13_count_145
      · refine lv_iload_n hx hb dX13_count_95 rfl (lv_at hl 2 rfl) ?_
        refine lv_iload_n hx hb dX13_count_96 rfl (lv_at hl 1 rfl) ?_
        refine lv_iconst (v := 4) hx hb dX13_count_97 (by decide) ?_
        refine g_icmp_ne (tgt := 119) hx hb hx1 (show (4 : Int32).toInt = 4 by decide) h dX13_count_98 (by decide) (fun h => ?_) (fun h => ?_)
        · refine lv_aload_n hx hb dX13_count_119 rfl (lv_at hl 0 rfl) ?_
          refine m_get fl_X13_111_X13 C hM (i := 192) (by omega) (e_192 b kc T S) (v := .ref (b + 212)) rfl dX13_count_120 ?_
          refine lv_iload_n hx hb dX13_count_123 rfl (lv_at hl 3 rfl) ?_
          refine g_iald C hM (j := 212) (by omega) (jK_M b kc T (by omega)) (a_212 b kc) hS hx3_ (B := 40) rfl h dX13_count_124 (fun z2_z bz2_z h => ?_)
          refine lv_iload_n hx hb dX13_count_125 rfl (lv_at hl 1 rfl) ?_
          refine lv_iconst (v := 5) hx hb dX13_count_126 (by decide) ?_
          refine g_isub hx hb hx1 (show (5 : Int32).toInt = 5 by decide) h dX13_count_127 (fun z3_z bz3_z h => ?_)
          refine g_icmp_ne (tgt := 135) hx hb bz2_z bz3_z h dX13_count_128 (by decide) (fun h => ?_) (fun h => ?_)
          · refine lv_iconst (v := 0) hx hb dX13_count_135 (by decide) ?_
            exact B136 (f_M_count_87 v1 n) hkf87_ S _ _ _ x3_ v3_ hx3_ 0 0 (show (0 : Int32).toInt = 0 by decide) x2_ v2_ hx2_ hS hM (lv_sub hl [0, 1, 3] rfl) h
          · refine lv_iconst (v := 1) hx hb dX13_count_131 (by decide) ?_
            refine lv_goto (tgt := 136) hx hb dX13_count_132 (by decide) ?_
            exact B136 (f_M_count_87 v1 n) hkf87_ S _ _ _ x3_ v3_ hx3_ 1 1 (show (1 : Int32).toInt = 1 by decide) x2_ v2_ hx2_ hS hM (lv_sub hl [0, 1, 3] rfl) h
        · refine lv_aload_n hx hb dX13_count_101 rfl (lv_at hl 0 rfl) ?_
          refine m_get fl_X13_111_X13 C hM (i := 192) (by omega) (e_192 b kc T S) (v := .ref (b + 212)) rfl dX13_count_102 ?_
          refine lv_iload_n hx hb dX13_count_105 rfl (lv_at hl 3 rfl) ?_
          refine g_iald C hM (j := 212) (by omega) (jK_M b kc T (by omega)) (a_212 b kc) hS hx3_ (B := 40) rfl h dX13_count_106 (fun z4_z bz4_z h => ?_)
          refine lv_iconst (v := 2) hx hb dX13_count_107 (by decide) ?_
          refine g_icmp_ge (tgt := 115) hx hb bz4_z (show (2 : Int32).toInt = 2 by decide) h dX13_count_108 (by decide) (fun h => ?_) (fun h => ?_)
          · refine lv_iconst (v := 0) hx hb dX13_count_115 (by decide) ?_
            refine lv_goto (tgt := 136) hx hb dX13_count_116 (by decide) ?_
            exact B136 (f_M_count_87 v1 n) hkf87_ S _ _ _ x3_ v3_ hx3_ 0 0 (show (0 : Int32).toInt = 0 by decide) x2_ v2_ hx2_ hS hM (lv_sub hl [0, 1, 3] rfl) h
          · refine lv_iconst (v := 1) hx hb dX13_count_111 (by decide) ?_
            refine lv_goto (tgt := 136) hx hb dX13_count_112 (by decide) ?_
            exact B136 (f_M_count_87 v1 n) hkf87_ S _ _ _ x3_ v3_ hx3_ 1 1 (show (1 : Int32).toInt = 1 by decide) x2_ v2_ hx2_ hS hM (lv_sub hl [0, 1, 3] rfl) h
  refine lv_iload_n hx hb dX13_count_0 rfl (lv_at hl 1 rfl) ?_
  refine g_i2l (a := v1) hx hb hx1 dX13_count_1 (fun c1_z => ?_)
  refine lv_lconst (v := 0) hx hb dX13_count_2 (by decide) ?_
  refine lv_ldc2 (v := 2) hx hb hown (hts _ wd_1368) dX13_count_3 ?_
  refine g_callI (J := jM b kc T) (m_runS calS_X13_in wd_1221 (g_M_in l D kc b T S (i2l v1) v1 c1_z 0 0 (show (0 : Int64).toInt = 0 by decide) 2 2 (show (2 : Int64).toInt = 2 by decide) hS rfl) C hM hl.1 rfl rfl (Nat.le_of_ble_eq_true rfl) dX13_count_6 ⟨Nat.le_of_ble_eq_true rfl, Nat.le_of_ble_eq_true rfl⟩ ⟨Nat.le_of_ble_eq_true rfl, Nat.le_of_ble_eq_true rfl⟩) hM (fun z2_z H locs bz2_z hM hS => ?_)
  refine g_if_eq (tgt := 18) hx hb bz2_z h dX13_count_9 (by decide) (fun h => ?_) (fun h => ?_)
  · refine lv_iload_n hx hb dX13_count_18 rfl (lv_at hl 1 rfl) ?_
    refine g_i2l (a := v1) hx hb hx1 dX13_count_19 (fun c3_z => ?_)
    refine lv_ldc2 (v := 10) hx hb hown (hts _ wd_1350) dX13_count_20 ?_
    refine lv_ldc2 (v := 12) hx hb hown (hts _ wd_1482) dX13_count_23 ?_
    refine g_callI (J := jM b kc T) (m_runS calS_X13_in wd_1221 (g_M_in l D kc b T S (i2l v1) v1 c3_z 10 10 (show (10 : Int64).toInt = 10 by decide) 12 12 (show (12 : Int64).toInt = 12 by decide) hS rfl) C hM hl.1 rfl rfl (Nat.le_of_ble_eq_true rfl) dX13_count_26 ⟨Nat.le_of_ble_eq_true rfl, Nat.le_of_ble_eq_true rfl⟩ ⟨Nat.le_of_ble_eq_true rfl, Nat.le_of_ble_eq_true rfl⟩) hM (fun z4_z H locs bz4_z hM hS => ?_)
    refine g_if_eq (tgt := 42) hx hb bz4_z h dX13_count_29 (by decide) (fun h => ?_) (fun h => ?_)
    · refine lv_iload_n hx hb dX13_count_42 rfl (lv_at hl 1 rfl) ?_
      refine lv_iconst (v := 3) hx hb dX13_count_43 (by decide) ?_
      refine g_icmp_ne (tgt := 52) hx hb hx1 (show (3 : Int32).toInt = 3 by decide) h dX13_count_44 (by decide) (fun h => ?_) (fun h => ?_)
      · refine lv_iload_n hx hb dX13_count_52 rfl (lv_at hl 1 rfl) ?_
        refine lv_bipush (v := 9) hx hb dX13_count_53 (by decide) ?_
        refine g_icmp_ne (tgt := 63) hx hb hx1 (show (9 : Int32).toInt = 9 by decide) h dX13_count_55 (by decide) (fun h => ?_) (fun h => ?_)
        · refine lv_iload_n hx hb dX13_count_63 rfl (lv_at hl 1 rfl) ?_
          refine g_i2l (a := v1) hx hb hx1 dX13_count_64 (fun c5_z => ?_)
          refine lv_ldc2 (v := 4) hx hb hown (hts _ wd_1472) dX13_count_65 ?_
          refine lv_ldc2 (v := 8) hx hb hown (hts _ wd_1483) dX13_count_68 ?_
          refine g_callI (J := jM b kc T) (m_runS calS_X13_in wd_1221 (g_M_in l D kc b T S (i2l v1) v1 c5_z 4 4 (show (4 : Int64).toInt = 4 by decide) 8 8 (show (8 : Int64).toInt = 8 by decide) hS rfl) C hM hl.1 rfl rfl (Nat.le_of_ble_eq_true rfl) dX13_count_71 ⟨Nat.le_of_ble_eq_true rfl, Nat.le_of_ble_eq_true rfl⟩ ⟨Nat.le_of_ble_eq_true rfl, Nat.le_of_ble_eq_true rfl⟩) hM (fun z6_z H locs bz6_z hM hS => ?_)
          refine g_if_ne (tgt := 79) hx hb bz6_z h dX13_count_74 (by decide) (fun h => ?_) (fun h => ?_)
          · refine lv_aload_n hx hb dX13_count_79 rfl (lv_at hl 0 rfl) ?_
            obtain ⟨S7_z, cS7_z, h⟩ := w_b1E h
            refine g_callV (J := jM b kc T) (m_runV calV_X13_judge wd_1352 (g_M_judge l D kc b T S hS cS7_z) C hM (i := 192) (by omega) (e_192 b kc T S) rfl hl.1 rfl rfl (Nat.le_of_ble_eq_true rfl) dX13_count_80 ⟨Nat.le_of_ble_eq_true rfl, Nat.le_of_ble_eq_true rfl⟩ ⟨Nat.le_of_ble_eq_true rfl, Nat.le_of_ble_eq_true rfl⟩) hM (fun H locs hM hS => ?_)
            refine lv_iconst (v := 0) hx hb dX13_count_83 (by decide) ?_
            refine lv_istore_n (lv' := [(2, .int 0), (0, .ref (b + 192)), (1, .int x1)]) hx hb dX13_count_84 rfl hl (by decide) rfl (fun ls hl => ?_)
            refine lv_iconst (v := 0) hx hb dX13_count_85 (by decide) ?_
            refine lv_istore_n (lv' := [(3, .int 0), (2, .int 0), (0, .ref (b + 192)), (1, .int x1)]) hx hb dX13_count_86 rfl hl (by decide) rfl (fun ls hl => ?_)
            exact B87 FU S7_z _ _ _ 0 0 (show (0 : Int32).toInt = 0 by decide) 0 0 (show (0 : Int32).toInt = 0 by decide) hS hM (lv_sub hl [2, 3, 1, 0] rfl) h
          · refine lv_iconst (v := (-1)) hx hb dX13_count_77 (by decide) ?_
            exact ret S _ _ _ _ (-1) ((show ((-1) : Int32).toInt = (-1) by decide).trans (r_1 h)) (r_2 h) hM hS dX13_count_78
        · refine lv_aload_n hx hb dX13_count_58 rfl (lv_at hl 0 rfl) ?_
          refine g_get fl_X13_28_X13 C hM (i := 192) (r := 192) (by omega) (e_192 b kc T S) rfl hS dX13_count_59 (fun z9_z bz9_z => ?_)
          exact ret S _ _ _ _ z9_z (bz9_z.trans (r_1 h)) (r_2 h) hM hS dX13_count_62
      · refine lv_aload_n hx hb dX13_count_47 rfl (lv_at hl 0 rfl) ?_
        refine g_get fl_X13_153_X13 C hM (i := 192) (r := 192) (by omega) (e_192 b kc T S) rfl hS dX13_count_48 (fun z10_z bz10_z => ?_)
        exact ret S _ _ _ _ z10_z (bz10_z.trans (r_1 h)) (r_2 h) hM hS dX13_count_51
    · refine lv_aload_n hx hb dX13_count_32 rfl (lv_at hl 0 rfl) ?_
      refine m_get fl_X13_102_X13 C hM (i := 192) (by omega) (e_192 b kc T S) (v := .ref (b + 209)) rfl dX13_count_33 ?_
      refine lv_iload_n hx hb dX13_count_36 rfl (lv_at hl 1 rfl) ?_
      refine lv_bipush (v := 10) hx hb dX13_count_37 (by decide) ?_
      refine g_isub hx hb hx1 (show (10 : Int32).toInt = 10 by decide) h dX13_count_39 (fun z11_z bz11_z h => ?_)
      refine g_iald C hM (j := 209) (by omega) (jK_M b kc T (by omega)) (a_209 b kc) hS bz11_z (B := 3) rfl h dX13_count_40 (fun z12_z bz12_z h => ?_)
      exact ret S _ _ _ _ z12_z (bz12_z.trans (r_1 h)) (r_2 h) hM hS dX13_count_41
  · refine lv_aload_n hx hb dX13_count_12 rfl (lv_at hl 0 rfl) ?_
    refine lv_iload_n hx hb dX13_count_13 rfl (lv_at hl 1 rfl) ?_
    obtain ⟨r14_z, S13_z, cr14_z, h⟩ := w_b2E h
    refine g_callI (J := jM b kc T) (m_runV calV_X13_wordsOf wd_1376 (g_M_wordsOf l D kc b T S x1 v1 hx1 hS cr14_z) C hM (i := 192) (by omega) (e_192 b kc T S) rfl hl.1 rfl rfl (Nat.le_of_ble_eq_true rfl) dX13_count_14 ⟨Nat.le_of_ble_eq_true rfl, Nat.le_of_ble_eq_true rfl⟩ ⟨Nat.le_of_ble_eq_true rfl, Nat.le_of_ble_eq_true rfl⟩) hM (fun z15_z H locs bz15_z hM hS => ?_)
    exact ret S13_z _ _ _ _ z15_z (bz15_z.trans (r_1 h)) (r_2 h) hM hS dX13_count_17
