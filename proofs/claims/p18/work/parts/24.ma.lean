def f_M_in (S : SS) (v0 : Int) (v1 : Int) (v2 : Int) : Int := (if v0 < v1 then 0 else (if v2 < v0 then 0 else 1))
set_option maxHeartbeats 4000000 in
set_option maxRecDepth 100000 in
theorem g_M_in (l : Launch) (D : va_G) (kc : Nat → ClassId) (b : Nat) (T S : SS) (w0 : Int64) (v0 : Int) (hw0 : w0.toInt = v0) (w1 : Int64) (v1 : Int) (hw1 : w1.toInt = v1) (w2 : Int64) (v2 : Int) (hw2 : w2.toInt = v2) (hS : rng S) {vr : Int} (h : f_M_in S v0 v1 v2 = vr) : cI l yX13_in cX13_in 6 .boolean 1 D kc b (jM b kc T) S [.long w0, .long w1, .long w2] vr S := by
  refine g_beg_z (by decide) (Nat.le_of_ble_eq_true rfl) ?_
  intro p e s m args below meth c Q C ret hM ls hl
  obtain ⟨hx, hb, hml, hown, hts, hE, hbs⟩ := id C
  have hl : lv_has ls 6 [(0, .long w0), (2, .long w1), (4, .long w2)] := hl
  unfold f_M_in at h
  refine lv_lload_n hx hb dX13_in_0 rfl (lv_at hl 0 rfl) ?_
  refine lv_lload_n hx hb dX13_in_1 rfl (lv_at hl 1 rfl) ?_
  refine g_lcmp_lt (tgt := 17) hx hb hw0 hw1 h dX13_in_2 dX13_in_3 (by decide) (fun h => ?_) (fun h => ?_)
  · refine lv_iconst (v := 0) hx hb dX13_in_17 (by decide) ?_
    exact ret S _ _ _ _ 0 ((show (0 : Int32).toInt = 0 by decide).trans h) (by rw [← h]; exact (by decide)) rfl hM hS dX13_in_18
  · refine lv_lload_n hx hb dX13_in_6 rfl (lv_at hl 0 rfl) ?_
    refine lv_lload hx hb dX13_in_7 (lv_at hl 2 rfl) ?_
    refine g_lcmp_gt (tgt := 17) hx hb hw0 hw2 h dX13_in_9 dX13_in_10 (by decide) (fun h => ?_) (fun h => ?_)
    · refine lv_iconst (v := 0) hx hb dX13_in_17 (by decide) ?_
      exact ret S _ _ _ _ 0 ((show (0 : Int32).toInt = 0 by decide).trans h) (by rw [← h]; exact (by decide)) rfl hM hS dX13_in_18
    · refine lv_iconst (v := 1) hx hb dX13_in_13 (by decide) ?_
      refine lv_goto (tgt := 18) hx hb dX13_in_14 (by decide) ?_
      exact ret S _ _ _ _ 1 ((show (1 : Int32).toInt = 1 by decide).trans h) (by rw [← h]; exact (by decide)) rfl hM hS dX13_in_18

def f_M_wrong (S : SS) (v1 : Int) (v2 : Int) : SS := w_lt (si S 192 14 v1) (fun S1_z => w_lt (si S1_z 192 15 v2) (fun S2_z => S2_z))
set_option maxHeartbeats 4000000 in
set_option maxRecDepth 100000 in
theorem g_M_wrong (l : Launch) (D : va_G) (kc : Nat → ClassId) (b : Nat) (T S : SS) (x1 : Int32) (v1 : Int) (hx1 : x1.toInt = v1) (x2 : Int32) (v2 : Int) (hx2 : x2.toInt = v2) (hS : rng S) {Sr : SS} (h : f_M_wrong S v1 v2 = Sr) : cQ l yX13_wrong cX13_wrong 3 (.object "MarkedProofModel$Stop") 1 D kc b (jM b kc T) S [.ref (b + 192), .int x1, .int x2] (os b (some 196)) Sr := by
  refine g_beg_q (by decide) (Nat.le_of_ble_eq_true rfl) ?_
  intro p e s m args below meth c Q C ret hM ls hl
  obtain ⟨hx, hb, hml, hown, hts, hE, hbs⟩ := id C
  have hl : lv_has ls 3 [(0, .ref (b + 192)), (1, .int x1), (2, .int x2)] := hl
  unfold f_M_wrong at h
  refine lv_aload_n hx hb dX13_wrong_0 rfl (lv_at hl 0 rfl) ?_
  refine lv_iload_n hx hb dX13_wrong_1 rfl (lv_at hl 1 rfl) ?_
  refine g_put fl_X13_1_X13 C hM (i := 192) (by omega) (e_192 b kc T S) rfl rfl (Nat.le_of_ble_eq_true rfl) (fs1 := [.ref (b + 193), .ref (b + 194), .ref (b + 195), .int (oi (gi S 192 3)), .int (oi (gi S 192 4)), .int (oi (gi S 192 5)), .ref (b + 196), .ref (b + 197), .int (oi (gi S 192 8)), .int (oi (gi S 192 9)), .int (oi (gi S 192 10)), .int (oi (gi S 192 11)), .int (oi (gi S 192 12)), .int (oi (gi S 192 13)), .int x1, .int (oi (gi S 192 15)), .ref (b + 198), .ref (b + 199), .ref (b + 200), .ref (b + 201), .ref (b + 202), .ref (b + 203), .ref (b + 204), .ref (b + 205), .ref (b + 206), .ref (b + 207), .ref (b + 208), .int (oi (gi S 192 27)), .ref (b + 209), .ref (b + 210), .ref (b + 211), .ref (b + 212), .ref (b + 213), .ref (b + 214), .ref (b + 215), .int (oi (gi S 192 35)), .int (oi (gi S 192 36)), .int (oi (gi S 192 37)), .int (oi (gi S 192 38)), .ref (b + 216), .ref (b + 217), .ref (b + 218), .ref (b + 219)]) rfl (p_192_14 hx1) (rng_si hS (i32_of hx1)) h dX13_wrong_2 (fun S1_z H locs h hM hS => ?_)
  refine lv_aload_n hx hb dX13_wrong_5 rfl (lv_at hl 0 rfl) ?_
  refine lv_iload_n hx hb dX13_wrong_6 rfl (lv_at hl 2 rfl) ?_
  refine g_put fl_X13_7_X13 C hM (i := 192) (by omega) (e_192 b kc T S1_z) rfl rfl (Nat.le_of_ble_eq_true rfl) (fs1 := [.ref (b + 193), .ref (b + 194), .ref (b + 195), .int (oi (gi S1_z 192 3)), .int (oi (gi S1_z 192 4)), .int (oi (gi S1_z 192 5)), .ref (b + 196), .ref (b + 197), .int (oi (gi S1_z 192 8)), .int (oi (gi S1_z 192 9)), .int (oi (gi S1_z 192 10)), .int (oi (gi S1_z 192 11)), .int (oi (gi S1_z 192 12)), .int (oi (gi S1_z 192 13)), .int (oi (gi S1_z 192 14)), .int x2, .ref (b + 198), .ref (b + 199), .ref (b + 200), .ref (b + 201), .ref (b + 202), .ref (b + 203), .ref (b + 204), .ref (b + 205), .ref (b + 206), .ref (b + 207), .ref (b + 208), .int (oi (gi S1_z 192 27)), .ref (b + 209), .ref (b + 210), .ref (b + 211), .ref (b + 212), .ref (b + 213), .ref (b + 214), .ref (b + 215), .int (oi (gi S1_z 192 35)), .int (oi (gi S1_z 192 36)), .int (oi (gi S1_z 192 37)), .int (oi (gi S1_z 192 38)), .ref (b + 216), .ref (b + 217), .ref (b + 218), .ref (b + 219)]) rfl (p_192_15 hx2) (rng_si hS (i32_of hx2)) h dX13_wrong_7 (fun S2_z H locs h hM hS => ?_)
  refine lv_aload_n hx hb dX13_wrong_10 rfl (lv_at hl 0 rfl) ?_
  refine m_get fl_X13_10_X13 C hM (i := 192) (by omega) (e_192 b kc T S2_z) (v := .ref (b + 196)) rfl dX13_wrong_11 ?_
  exact ret S2_z _ _ _ _ (os b (some 196)) rfl h hM hS dX13_wrong_14

def f_M_byteAt (S : SS) (v1 : Int) : Option Int := (if gi S 192 9 ≤ v1 then some 0 else w_chk (0 ≤ v1 ∧ v1 < 2000) (some (andi (gi S 197 (v1).toNat) 255)))
set_option maxHeartbeats 4000000 in
set_option maxRecDepth 100000 in
theorem g_M_byteAt (l : Launch) (D : va_G) (kc : Nat → ClassId) (b : Nat) (T S : SS) (x1 : Int32) (v1 : Int) (hx1 : x1.toInt = v1) (hS : rng S) {vr : Int} (h : f_M_byteAt S v1 = some vr) : cI l yX13_byteAt cX13_byteAt 2 .int 1 D kc b (jM b kc T) S [.ref (b + 192), .int x1] vr S := by
  refine g_beg_i (by decide) (Nat.le_of_ble_eq_true rfl) ?_
  intro p e s m args below meth c Q C ret hM ls hl
  obtain ⟨hx, hb, hml, hown, hts, hE, hbs⟩ := id C
  have hl : lv_has ls 2 [(0, .ref (b + 192)), (1, .int x1)] := hl
  unfold f_M_byteAt at h
  refine lv_iload_n hx hb dX13_byteAt_0 rfl (lv_at hl 1 rfl) ?_
  refine lv_aload_n hx hb dX13_byteAt_1 rfl (lv_at hl 0 rfl) ?_
  refine g_get fl_X13_14_X13 C hM (i := 192) (r := 192) (by omega) (e_192 b kc T S) rfl hS dX13_byteAt_2 (fun z1_z bz1_z => ?_)
  refine g_icmp_ge (tgt := 21) hx hb hx1 bz1_z h dX13_byteAt_5 (by decide) (fun h => ?_) (fun h => ?_)
  · refine lv_iconst (v := 0) hx hb dX13_byteAt_21 (by decide) ?_
    exact ret S _ _ _ _ 0 ((show (0 : Int32).toInt = 0 by decide).trans (Option.some.inj h)) rfl hM hS dX13_byteAt_22
  · refine lv_aload_n hx hb dX13_byteAt_8 rfl (lv_at hl 0 rfl) ?_
    refine m_get fl_X13_17_X13 C hM (i := 192) (by omega) (e_192 b kc T S) (v := .ref (b + 197)) rfl dX13_byteAt_9 ?_
    refine lv_iload_n hx hb dX13_byteAt_12 rfl (lv_at hl 1 rfl) ?_
    refine g_bald C hM (j := 197) (by omega) (jK_M b kc T (by omega)) (a_197 b kc) hS hx1 (B := 2000) rfl h dX13_byteAt_13 (fun z2_z bz2_z h => ?_)
    refine lv_sipush (v := 255) hx hb dX13_byteAt_14 (by decide) ?_
    refine g_iand hx hb bz2_z (show (255 : Int32).toInt = 255 by decide) dX13_byteAt_17 (fun z3_z bz3_z => ?_)
    refine lv_goto (tgt := 22) hx hb dX13_byteAt_18 (by decide) ?_
    exact ret S _ _ _ _ z3_z (bz3_z.trans (Option.some.inj h)) rfl hM hS dX13_byteAt_22

def f_M_isBlank (S : SS) (v0 : Int) : Int := (if v0 = 32 then 1 else (if v0 = 10 then 1 else 0))
set_option maxHeartbeats 4000000 in
set_option maxRecDepth 100000 in
theorem g_M_isBlank (l : Launch) (D : va_G) (kc : Nat → ClassId) (b : Nat) (T S : SS) (x0 : Int32) (v0 : Int) (hx0 : x0.toInt = v0) (hS : rng S) {vr : Int} (h : f_M_isBlank S v0 = vr) : cI l yX13_isBlank cX13_isBlank 1 .boolean 1 D kc b (jM b kc T) S [.int x0] vr S := by
  refine g_beg_z (by decide) (Nat.le_of_ble_eq_true rfl) ?_
  intro p e s m args below meth c Q C ret hM ls hl
  obtain ⟨hx, hb, hml, hown, hts, hE, hbs⟩ := id C
  have hl : lv_has ls 1 [(0, .int x0)] := hl
  unfold f_M_isBlank at h
  refine lv_iload_n hx hb dX13_isBlank_0 rfl (lv_at hl 0 rfl) ?_
  refine lv_bipush (v := 32) hx hb dX13_isBlank_1 (by decide) ?_
  refine g_icmp_eq (tgt := 12) hx hb hx0 (show (32 : Int32).toInt = 32 by decide) h dX13_isBlank_3 (by decide) (fun h => ?_) (fun h => ?_)
  · refine lv_iconst (v := 1) hx hb dX13_isBlank_12 (by decide) ?_
    refine lv_goto (tgt := 17) hx hb dX13_isBlank_13 (by decide) ?_
    exact ret S _ _ _ _ 1 ((show (1 : Int32).toInt = 1 by decide).trans h) (by rw [← h]; exact (by decide)) rfl hM hS dX13_isBlank_17
  · refine lv_iload_n hx hb dX13_isBlank_6 rfl (lv_at hl 0 rfl) ?_
    refine lv_bipush (v := 10) hx hb dX13_isBlank_7 (by decide) ?_
    refine g_icmp_ne (tgt := 16) hx hb hx0 (show (10 : Int32).toInt = 10 by decide) h dX13_isBlank_9 (by decide) (fun h => ?_) (fun h => ?_)
    · refine lv_iconst (v := 0) hx hb dX13_isBlank_16 (by decide) ?_
      exact ret S _ _ _ _ 0 ((show (0 : Int32).toInt = 0 by decide).trans h) (by rw [← h]; exact (by decide)) rfl hM hS dX13_isBlank_17
    · refine lv_iconst (v := 1) hx hb dX13_isBlank_12 (by decide) ?_
      refine lv_goto (tgt := 17) hx hb dX13_isBlank_13 (by decide) ?_
      exact ret S _ _ _ _ 1 ((show (1 : Int32).toInt = 1 by decide).trans h) (by rw [← h]; exact (by decide)) rfl hM hS dX13_isBlank_17

def f_M_isSmall (S : SS) (v0 : Int) : Int := (if v0 < 97 then 0 else (if 122 < v0 then 0 else 1))
set_option maxHeartbeats 4000000 in
set_option maxRecDepth 100000 in
theorem g_M_isSmall (l : Launch) (D : va_G) (kc : Nat → ClassId) (b : Nat) (T S : SS) (x0 : Int32) (v0 : Int) (hx0 : x0.toInt = v0) (hS : rng S) {vr : Int} (h : f_M_isSmall S v0 = vr) : cI l yX13_isSmall cX13_isSmall 1 .boolean 1 D kc b (jM b kc T) S [.int x0] vr S := by
  refine g_beg_z (by decide) (Nat.le_of_ble_eq_true rfl) ?_
  intro p e s m args below meth c Q C ret hM ls hl
  obtain ⟨hx, hb, hml, hown, hts, hE, hbs⟩ := id C
  have hl : lv_has ls 1 [(0, .int x0)] := hl
  unfold f_M_isSmall at h
  refine lv_iload_n hx hb dX13_isSmall_0 rfl (lv_at hl 0 rfl) ?_
  refine lv_bipush (v := 97) hx hb dX13_isSmall_1 (by decide) ?_
  refine g_icmp_lt (tgt := 16) hx hb hx0 (show (97 : Int32).toInt = 97 by decide) h dX13_isSmall_3 (by decide) (fun h => ?_) (fun h => ?_)
  · refine lv_iconst (v := 0) hx hb dX13_isSmall_16 (by decide) ?_
    exact ret S _ _ _ _ 0 ((show (0 : Int32).toInt = 0 by decide).trans h) (by rw [← h]; exact (by decide)) rfl hM hS dX13_isSmall_17
  · refine lv_iload_n hx hb dX13_isSmall_6 rfl (lv_at hl 0 rfl) ?_
    refine lv_bipush (v := 122) hx hb dX13_isSmall_7 (by decide) ?_
    refine g_icmp_gt (tgt := 16) hx hb hx0 (show (122 : Int32).toInt = 122 by decide) h dX13_isSmall_9 (by decide) (fun h => ?_) (fun h => ?_)
    · refine lv_iconst (v := 0) hx hb dX13_isSmall_16 (by decide) ?_
      exact ret S _ _ _ _ 0 ((show (0 : Int32).toInt = 0 by decide).trans h) (by rw [← h]; exact (by decide)) rfl hM hS dX13_isSmall_17
    · refine lv_iconst (v := 1) hx hb dX13_isSmall_12 (by decide) ?_
      refine lv_goto (tgt := 17) hx hb dX13_isSmall_13 (by decide) ?_
      exact ret S _ _ _ _ 1 ((show (1 : Int32).toInt = 1 by decide).trans h) (by rw [← h]; exact (by decide)) rfl hM hS dX13_isSmall_17

def f_M_isDigit (S : SS) (v0 : Int) : Int := (if v0 < 48 then 0 else (if 57 < v0 then 0 else 1))
set_option maxHeartbeats 4000000 in
set_option maxRecDepth 100000 in
theorem g_M_isDigit (l : Launch) (D : va_G) (kc : Nat → ClassId) (b : Nat) (T S : SS) (x0 : Int32) (v0 : Int) (hx0 : x0.toInt = v0) (hS : rng S) {vr : Int} (h : f_M_isDigit S v0 = vr) : cI l yX13_isDigit cX13_isDigit 1 .boolean 1 D kc b (jM b kc T) S [.int x0] vr S := by
  refine g_beg_z (by decide) (Nat.le_of_ble_eq_true rfl) ?_
  intro p e s m args below meth c Q C ret hM ls hl
  obtain ⟨hx, hb, hml, hown, hts, hE, hbs⟩ := id C
  have hl : lv_has ls 1 [(0, .int x0)] := hl
  unfold f_M_isDigit at h
  refine lv_iload_n hx hb dX13_isDigit_0 rfl (lv_at hl 0 rfl) ?_
  refine lv_bipush (v := 48) hx hb dX13_isDigit_1 (by decide) ?_
  refine g_icmp_lt (tgt := 16) hx hb hx0 (show (48 : Int32).toInt = 48 by decide) h dX13_isDigit_3 (by decide) (fun h => ?_) (fun h => ?_)
  · refine lv_iconst (v := 0) hx hb dX13_isDigit_16 (by decide) ?_
    exact ret S _ _ _ _ 0 ((show (0 : Int32).toInt = 0 by decide).trans h) (by rw [← h]; exact (by decide)) rfl hM hS dX13_isDigit_17
  · refine lv_iload_n hx hb dX13_isDigit_6 rfl (lv_at hl 0 rfl) ?_
    refine lv_bipush (v := 57) hx hb dX13_isDigit_7 (by decide) ?_
    refine g_icmp_gt (tgt := 16) hx hb hx0 (show (57 : Int32).toInt = 57 by decide) h dX13_isDigit_9 (by decide) (fun h => ?_) (fun h => ?_)
    · refine lv_iconst (v := 0) hx hb dX13_isDigit_16 (by decide) ?_
      exact ret S _ _ _ _ 0 ((show (0 : Int32).toInt = 0 by decide).trans h) (by rw [← h]; exact (by decide)) rfl hM hS dX13_isDigit_17
    · refine lv_iconst (v := 1) hx hb dX13_isDigit_12 (by decide) ?_
      refine lv_goto (tgt := 17) hx hb dX13_isDigit_13 (by decide) ?_
      exact ret S _ _ _ _ 1 ((show (1 : Int32).toInt = 1 by decide).trans h) (by rw [← h]; exact (by decide)) rfl hM hS dX13_isDigit_17

def f_M_isOfWord_26 (S : SS) (v0 : Int) : Int := (if v0 = 46 then 1 else (if v0 = 44 then 1 else (if v0 = 39 then 1 else (if v0 = 33 then 1 else (if v0 = 63 then 1 else (if v0 = 59 then 1 else (if v0 = 58 then 1 else (if v0 = 45 then 1 else 0))))))))
def f_M_isOfWord (S : SS) (v0 : Int) : Int := (if f_M_isSmall S v0 = 0 then (if f_M_isDigit S v0 = 0 then (if v0 < 65 then f_M_isOfWord_26 S v0  else (if v0 ≤ 90 then 1 else f_M_isOfWord_26 S v0 )) else 1) else 1)
set_option maxHeartbeats 4000000 in
set_option maxRecDepth 100000 in
theorem g_M_isOfWord (l : Launch) (D : va_G) (kc : Nat → ClassId) (b : Nat) (T S : SS) (x0 : Int32) (v0 : Int) (hx0 : x0.toInt = v0) (hS : rng S) {vr : Int} (h : f_M_isOfWord S v0 = vr) : cI l yX13_isOfWord cX13_isOfWord 1 .boolean 2 D kc b (jM b kc T) S [.int x0] vr S := by
  refine g_beg_z (by decide) (Nat.le_of_ble_eq_true rfl) ?_
  intro p e s m args below meth c Q C ret hM ls hl
  obtain ⟨hx, hb, hml, hown, hts, hE, hbs⟩ := id C
  have hl : lv_has ls 1 [(0, .int x0)] := hl
  unfold f_M_isOfWord at h
  have B26 : ∀ (H : Heap) (locs : List Loc) (ls : Array Slot), rng S → mS D b s 220 (jM b kc T S) H locs → lv_has ls 1 [(0, .int x0)] → f_M_isOfWord_26 S v0 = vr → W p l e (mR 2 0 0) s m args below meth c H locs 0 0 Q (F0 m 26 ls []) := by
    intro H locs ls hS hM hl h
    unfold f_M_isOfWord_26 at h
    refine lv_iload_n hx hb dX13_isOfWord_26 rfl (lv_at hl 0 rfl) ?_
    refine lv_bipush (v := 46) hx hb dX13_isOfWord_27 (by decide) ?_
    refine g_icmp_eq (tgt := 74) hx hb hx0 (show (46 : Int32).toInt = 46 by decide) h dX13_isOfWord_29 (by decide) (fun h => ?_) (fun h => ?_)
    · refine lv_iconst (v := 1) hx hb dX13_isOfWord_74 (by decide) ?_
      refine lv_goto (tgt := 79) hx hb dX13_isOfWord_75 (by decide) ?_
      exact ret S _ _ _ _ 1 ((show (1 : Int32).toInt = 1 by decide).trans h) (by rw [← h]; exact (by decide)) rfl hM hS dX13_isOfWord_79
    · refine lv_iload_n hx hb dX13_isOfWord_32 rfl (lv_at hl 0 rfl) ?_
      refine lv_bipush (v := 44) hx hb dX13_isOfWord_33 (by decide) ?_
      refine g_icmp_eq (tgt := 74) hx hb hx0 (show (44 : Int32).toInt = 44 by decide) h dX13_isOfWord_35 (by decide) (fun h => ?_) (fun h => ?_)
      · refine lv_iconst (v := 1) hx hb dX13_isOfWord_74 (by decide) ?_
        refine lv_goto (tgt := 79) hx hb dX13_isOfWord_75 (by decide) ?_
        exact ret S _ _ _ _ 1 ((show (1 : Int32).toInt = 1 by decide).trans h) (by rw [← h]; exact (by decide)) rfl hM hS dX13_isOfWord_79
      · refine lv_iload_n hx hb dX13_isOfWord_38 rfl (lv_at hl 0 rfl) ?_
        refine lv_bipush (v := 39) hx hb dX13_isOfWord_39 (by decide) ?_
        refine g_icmp_eq (tgt := 74) hx hb hx0 (show (39 : Int32).toInt = 39 by decide) h dX13_isOfWord_41 (by decide) (fun h => ?_) (fun h => ?_)
        · refine lv_iconst (v := 1) hx hb dX13_isOfWord_74 (by decide) ?_
          refine lv_goto (tgt := 79) hx hb dX13_isOfWord_75 (by decide) ?_
          exact ret S _ _ _ _ 1 ((show (1 : Int32).toInt = 1 by decide).trans h) (by rw [← h]; exact (by decide)) rfl hM hS dX13_isOfWord_79
        · refine lv_iload_n hx hb dX13_isOfWord_44 rfl (lv_at hl 0 rfl) ?_
          refine lv_bipush (v := 33) hx hb dX13_isOfWord_45 (by decide) ?_
          refine g_icmp_eq (tgt := 74) hx hb hx0 (show (33 : Int32).toInt = 33 by decide) h dX13_isOfWord_47 (by decide) (fun h => ?_) (fun h => ?_)
          · refine lv_iconst (v := 1) hx hb dX13_isOfWord_74 (by decide) ?_
            refine lv_goto (tgt := 79) hx hb dX13_isOfWord_75 (by decide) ?_
            exact ret S _ _ _ _ 1 ((show (1 : Int32).toInt = 1 by decide).trans h) (by rw [← h]; exact (by decide)) rfl hM hS dX13_isOfWord_79
          · refine lv_iload_n hx hb dX13_isOfWord_50 rfl (lv_at hl 0 rfl) ?_
            refine lv_bipush (v := 63) hx hb dX13_isOfWord_51 (by decide) ?_
            refine g_icmp_eq (tgt := 74) hx hb hx0 (show (63 : Int32).toInt = 63 by decide) h dX13_isOfWord_53 (by decide) (fun h => ?_) (fun h => ?_)
            · refine lv_iconst (v := 1) hx hb dX13_isOfWord_74 (by decide) ?_
              refine lv_goto (tgt := 79) hx hb dX13_isOfWord_75 (by decide) ?_
              exact ret S _ _ _ _ 1 ((show (1 : Int32).toInt = 1 by decide).trans h) (by rw [← h]; exact (by decide)) rfl hM hS dX13_isOfWord_79
            · refine lv_iload_n hx hb dX13_isOfWord_56 rfl (lv_at hl 0 rfl) ?_
              refine lv_bipush (v := 59) hx hb dX13_isOfWord_57 (by decide) ?_
              refine g_icmp_eq (tgt := 74) hx hb hx0 (show (59 : Int32).toInt = 59 by decide) h dX13_isOfWord_59 (by decide) (fun h => ?_) (fun h => ?_)
              · refine lv_iconst (v := 1) hx hb dX13_isOfWord_74 (by decide) ?_
                refine lv_goto (tgt := 79) hx hb dX13_isOfWord_75 (by decide) ?_
                exact ret S _ _ _ _ 1 ((show (1 : Int32).toInt = 1 by decide).trans h) (by rw [← h]; exact (by decide)) rfl hM hS dX13_isOfWord_79
              · refine lv_iload_n hx hb dX13_isOfWord_62 rfl (lv_at hl 0 rfl) ?_
                refine lv_bipush (v := 58) hx hb dX13_isOfWord_63 (by decide) ?_
                refine g_icmp_eq (tgt := 74) hx hb hx0 (show (58 : Int32).toInt = 58 by decide) h dX13_isOfWord_65 (by decide) (fun h => ?_) (fun h => ?_)
                · refine lv_iconst (v := 1) hx hb dX13_isOfWord_74 (by decide) ?_
                  refine lv_goto (tgt := 79) hx hb dX13_isOfWord_75 (by decide) ?_
                  exact ret S _ _ _ _ 1 ((show (1 : Int32).toInt = 1 by decide).trans h) (by rw [← h]; exact (by decide)) rfl hM hS dX13_isOfWord_79
                · refine lv_iload_n hx hb dX13_isOfWord_68 rfl (lv_at hl 0 rfl) ?_
                  refine lv_bipush (v := 45) hx hb dX13_isOfWord_69 (by decide) ?_
                  refine g_icmp_ne (tgt := 78) hx hb hx0 (show (45 : Int32).toInt = 45 by decide) h dX13_isOfWord_71 (by decide) (fun h => ?_) (fun h => ?_)
                  · refine lv_iconst (v := 0) hx hb dX13_isOfWord_78 (by decide) ?_
                    exact ret S _ _ _ _ 0 ((show (0 : Int32).toInt = 0 by decide).trans h) (by rw [← h]; exact (by decide)) rfl hM hS dX13_isOfWord_79
                  · refine lv_iconst (v := 1) hx hb dX13_isOfWord_74 (by decide) ?_
                    refine lv_goto (tgt := 79) hx hb dX13_isOfWord_75 (by decide) ?_
                    exact ret S _ _ _ _ 1 ((show (1 : Int32).toInt = 1 by decide).trans h) (by rw [← h]; exact (by decide)) rfl hM hS dX13_isOfWord_79
  refine lv_iload_n hx hb dX13_isOfWord_0 rfl (lv_at hl 0 rfl) ?_
  refine g_callI (J := jM b kc T) (m_runS calS_X13_isSmall wd_1246 (g_M_isSmall l D kc b T S x0 v0 hx0 hS rfl) C hM hl.1 rfl rfl (Nat.le_of_ble_eq_true rfl) dX13_isOfWord_1 ⟨Nat.le_of_ble_eq_true rfl, Nat.le_of_ble_eq_true rfl⟩ ⟨Nat.le_of_ble_eq_true rfl, Nat.le_of_ble_eq_true rfl⟩) hM (fun z1_z H locs bz1_z hM hS => ?_)
  refine g_if_ne (tgt := 74) hx hb bz1_z h dX13_isOfWord_4 (by decide) (fun h => ?_) (fun h => ?_)
  · refine lv_iconst (v := 1) hx hb dX13_isOfWord_74 (by decide) ?_
    refine lv_goto (tgt := 79) hx hb dX13_isOfWord_75 (by decide) ?_
    exact ret S _ _ _ _ 1 ((show (1 : Int32).toInt = 1 by decide).trans h) (by rw [← h]; exact (by decide)) rfl hM hS dX13_isOfWord_79
  · refine lv_iload_n hx hb dX13_isOfWord_7 rfl (lv_at hl 0 rfl) ?_
    refine g_callI (J := jM b kc T) (m_runS calS_X13_isDigit wd_1249 (g_M_isDigit l D kc b T S x0 v0 hx0 hS rfl) C hM hl.1 rfl rfl (Nat.le_of_ble_eq_true rfl) dX13_isOfWord_8 ⟨Nat.le_of_ble_eq_true rfl, Nat.le_of_ble_eq_true rfl⟩ ⟨Nat.le_of_ble_eq_true rfl, Nat.le_of_ble_eq_true rfl⟩) hM (fun z2_z H locs bz2_z hM hS => ?_)
    refine g_if_ne (tgt := 74) hx hb bz2_z h dX13_isOfWord_11 (by decide) (fun h => ?_) (fun h => ?_)
    · refine lv_iconst (v := 1) hx hb dX13_isOfWord_74 (by decide) ?_
      refine lv_goto (tgt := 79) hx hb dX13_isOfWord_75 (by decide) ?_
      exact ret S _ _ _ _ 1 ((show (1 : Int32).toInt = 1 by decide).trans h) (by rw [← h]; exact (by decide)) rfl hM hS dX13_isOfWord_79
    · refine lv_iload_n hx hb dX13_isOfWord_14 rfl (lv_at hl 0 rfl) ?_
      refine lv_bipush (v := 65) hx hb dX13_isOfWord_15 (by decide) ?_
      refine g_icmp_lt (tgt := 26) hx hb hx0 (show (65 : Int32).toInt = 65 by decide) h dX13_isOfWord_17 (by decide) (fun h => ?_) (fun h => ?_)
      · exact B26 _ _ _ hS hM (lv_sub hl [0] rfl) h
      · refine lv_iload_n hx hb dX13_isOfWord_20 rfl (lv_at hl 0 rfl) ?_
        refine lv_bipush (v := 90) hx hb dX13_isOfWord_21 (by decide) ?_
        refine g_icmp_le (tgt := 74) hx hb hx0 (show (90 : Int32).toInt = 90 by decide) h dX13_isOfWord_23 (by decide) (fun h => ?_) (fun h => ?_)
        · refine lv_iconst (v := 1) hx hb dX13_isOfWord_74 (by decide) ?_
          refine lv_goto (tgt := 79) hx hb dX13_isOfWord_75 (by decide) ?_
          exact ret S _ _ _ _ 1 ((show (1 : Int32).toInt = 1 by decide).trans h) (by rw [← h]; exact (by decide)) rfl hM hS dX13_isOfWord_79
        · exact B26 _ _ _ hS hM (lv_sub hl [0] rfl) h

def f_M_begin (S : SS) : SS := w_lt (si S 192 9 (gi S 192 8)) (fun S2_z => w_lt (si S2_z 192 8 0) (fun S3_z => w_lt (si S3_z 192 11 0) (fun S4_z => w_lt (si S4_z 192 14 0) (fun S5_z => w_lt (si S5_z 192 15 (-1)) (fun S6_z => S6_z)))))
set_option maxHeartbeats 4000000 in
set_option maxRecDepth 100000 in
theorem g_M_begin (l : Launch) (D : va_G) (kc : Nat → ClassId) (b : Nat) (T S : SS) (hS : rng S) {Sr : SS} (h : f_M_begin S = Sr) : cV l yX13_begin cX13_begin 1 1 D kc b (jM b kc T) S [.ref (b + 192)] Sr := by
  refine g_beg_v (by decide) (Nat.le_of_ble_eq_true rfl) ?_
  intro p e s m args below meth c Q C ret hM ls hl
  obtain ⟨hx, hb, hml, hown, hts, hE, hbs⟩ := id C
  have hl : lv_has ls 1 [(0, .ref (b + 192))] := hl
  unfold f_M_begin at h
  refine lv_aload_n hx hb dX13_begin_0 rfl (lv_at hl 0 rfl) ?_
  refine lv_aload_n hx hb dX13_begin_1 rfl (lv_at hl 0 rfl) ?_
  refine g_get fl_X13_28_X13 C hM (i := 192) (r := 192) (by omega) (e_192 b kc T S) rfl hS dX13_begin_2 (fun z1_z bz1_z => ?_)
  refine g_put fl_X13_14_X13 C hM (i := 192) (by omega) (e_192 b kc T S) rfl rfl (Nat.le_of_ble_eq_true rfl) (fs1 := [.ref (b + 193), .ref (b + 194), .ref (b + 195), .int (oi (gi S 192 3)), .int (oi (gi S 192 4)), .int (oi (gi S 192 5)), .ref (b + 196), .ref (b + 197), .int (oi (gi S 192 8)), .int z1_z, .int (oi (gi S 192 10)), .int (oi (gi S 192 11)), .int (oi (gi S 192 12)), .int (oi (gi S 192 13)), .int (oi (gi S 192 14)), .int (oi (gi S 192 15)), .ref (b + 198), .ref (b + 199), .ref (b + 200), .ref (b + 201), .ref (b + 202), .ref (b + 203), .ref (b + 204), .ref (b + 205), .ref (b + 206), .ref (b + 207), .ref (b + 208), .int (oi (gi S 192 27)), .ref (b + 209), .ref (b + 210), .ref (b + 211), .ref (b + 212), .ref (b + 213), .ref (b + 214), .ref (b + 215), .int (oi (gi S 192 35)), .int (oi (gi S 192 36)), .int (oi (gi S 192 37)), .int (oi (gi S 192 38)), .ref (b + 216), .ref (b + 217), .ref (b + 218), .ref (b + 219)]) rfl (p_192_9 bz1_z) (rng_si hS (i32_of bz1_z)) h dX13_begin_5 (fun S2_z H locs h hM hS => ?_)
  refine lv_aload_n hx hb dX13_begin_8 rfl (lv_at hl 0 rfl) ?_
  refine lv_iconst (v := 0) hx hb dX13_begin_9 (by decide) ?_
  refine g_put fl_X13_28_X13 C hM (i := 192) (by omega) (e_192 b kc T S2_z) rfl rfl (Nat.le_of_ble_eq_true rfl) (fs1 := [.ref (b + 193), .ref (b + 194), .ref (b + 195), .int (oi (gi S2_z 192 3)), .int (oi (gi S2_z 192 4)), .int (oi (gi S2_z 192 5)), .ref (b + 196), .ref (b + 197), .int 0, .int (oi (gi S2_z 192 9)), .int (oi (gi S2_z 192 10)), .int (oi (gi S2_z 192 11)), .int (oi (gi S2_z 192 12)), .int (oi (gi S2_z 192 13)), .int (oi (gi S2_z 192 14)), .int (oi (gi S2_z 192 15)), .ref (b + 198), .ref (b + 199), .ref (b + 200), .ref (b + 201), .ref (b + 202), .ref (b + 203), .ref (b + 204), .ref (b + 205), .ref (b + 206), .ref (b + 207), .ref (b + 208), .int (oi (gi S2_z 192 27)), .ref (b + 209), .ref (b + 210), .ref (b + 211), .ref (b + 212), .ref (b + 213), .ref (b + 214), .ref (b + 215), .int (oi (gi S2_z 192 35)), .int (oi (gi S2_z 192 36)), .int (oi (gi S2_z 192 37)), .int (oi (gi S2_z 192 38)), .ref (b + 216), .ref (b + 217), .ref (b + 218), .ref (b + 219)]) rfl (p_192_8 (show (0 : Int32).toInt = 0 by decide)) (rng_si hS (i32_of (show (0 : Int32).toInt = 0 by decide))) h dX13_begin_10 (fun S3_z H locs h hM hS => ?_)
  refine lv_aload_n hx hb dX13_begin_13 rfl (lv_at hl 0 rfl) ?_
  refine lv_iconst (v := 0) hx hb dX13_begin_14 (by decide) ?_
  refine g_put fl_X13_31_X13 C hM (i := 192) (by omega) (e_192 b kc T S3_z) rfl rfl (Nat.le_of_ble_eq_true rfl) (fs1 := [.ref (b + 193), .ref (b + 194), .ref (b + 195), .int (oi (gi S3_z 192 3)), .int (oi (gi S3_z 192 4)), .int (oi (gi S3_z 192 5)), .ref (b + 196), .ref (b + 197), .int (oi (gi S3_z 192 8)), .int (oi (gi S3_z 192 9)), .int (oi (gi S3_z 192 10)), .int 0, .int (oi (gi S3_z 192 12)), .int (oi (gi S3_z 192 13)), .int (oi (gi S3_z 192 14)), .int (oi (gi S3_z 192 15)), .ref (b + 198), .ref (b + 199), .ref (b + 200), .ref (b + 201), .ref (b + 202), .ref (b + 203), .ref (b + 204), .ref (b + 205), .ref (b + 206), .ref (b + 207), .ref (b + 208), .int (oi (gi S3_z 192 27)), .ref (b + 209), .ref (b + 210), .ref (b + 211), .ref (b + 212), .ref (b + 213), .ref (b + 214), .ref (b + 215), .int (oi (gi S3_z 192 35)), .int (oi (gi S3_z 192 36)), .int (oi (gi S3_z 192 37)), .int (oi (gi S3_z 192 38)), .ref (b + 216), .ref (b + 217), .ref (b + 218), .ref (b + 219)]) rfl (p_192_11 (show (0 : Int32).toInt = 0 by decide)) (rng_si hS (i32_of (show (0 : Int32).toInt = 0 by decide))) h dX13_begin_15 (fun S4_z H locs h hM hS => ?_)
  refine lv_aload_n hx hb dX13_begin_18 rfl (lv_at hl 0 rfl) ?_
  refine lv_iconst (v := 0) hx hb dX13_begin_19 (by decide) ?_
  refine g_put fl_X13_1_X13 C hM (i := 192) (by omega) (e_192 b kc T S4_z) rfl rfl (Nat.le_of_ble_eq_true rfl) (fs1 := [.ref (b + 193), .ref (b + 194), .ref (b + 195), .int (oi (gi S4_z 192 3)), .int (oi (gi S4_z 192 4)), .int (oi (gi S4_z 192 5)), .ref (b + 196), .ref (b + 197), .int (oi (gi S4_z 192 8)), .int (oi (gi S4_z 192 9)), .int (oi (gi S4_z 192 10)), .int (oi (gi S4_z 192 11)), .int (oi (gi S4_z 192 12)), .int (oi (gi S4_z 192 13)), .int 0, .int (oi (gi S4_z 192 15)), .ref (b + 198), .ref (b + 199), .ref (b + 200), .ref (b + 201), .ref (b + 202), .ref (b + 203), .ref (b + 204), .ref (b + 205), .ref (b + 206), .ref (b + 207), .ref (b + 208), .int (oi (gi S4_z 192 27)), .ref (b + 209), .ref (b + 210), .ref (b + 211), .ref (b + 212), .ref (b + 213), .ref (b + 214), .ref (b + 215), .int (oi (gi S4_z 192 35)), .int (oi (gi S4_z 192 36)), .int (oi (gi S4_z 192 37)), .int (oi (gi S4_z 192 38)), .ref (b + 216), .ref (b + 217), .ref (b + 218), .ref (b + 219)]) rfl (p_192_14 (show (0 : Int32).toInt = 0 by decide)) (rng_si hS (i32_of (show (0 : Int32).toInt = 0 by decide))) h dX13_begin_20 (fun S5_z H locs h hM hS => ?_)
  refine lv_aload_n hx hb dX13_begin_23 rfl (lv_at hl 0 rfl) ?_
  refine lv_iconst (v := (-1)) hx hb dX13_begin_24 (by decide) ?_
  refine g_put fl_X13_7_X13 C hM (i := 192) (by omega) (e_192 b kc T S5_z) rfl rfl (Nat.le_of_ble_eq_true rfl) (fs1 := [.ref (b + 193), .ref (b + 194), .ref (b + 195), .int (oi (gi S5_z 192 3)), .int (oi (gi S5_z 192 4)), .int (oi (gi S5_z 192 5)), .ref (b + 196), .ref (b + 197), .int (oi (gi S5_z 192 8)), .int (oi (gi S5_z 192 9)), .int (oi (gi S5_z 192 10)), .int (oi (gi S5_z 192 11)), .int (oi (gi S5_z 192 12)), .int (oi (gi S5_z 192 13)), .int (oi (gi S5_z 192 14)), .int (-1), .ref (b + 198), .ref (b + 199), .ref (b + 200), .ref (b + 201), .ref (b + 202), .ref (b + 203), .ref (b + 204), .ref (b + 205), .ref (b + 206), .ref (b + 207), .ref (b + 208), .int (oi (gi S5_z 192 27)), .ref (b + 209), .ref (b + 210), .ref (b + 211), .ref (b + 212), .ref (b + 213), .ref (b + 214), .ref (b + 215), .int (oi (gi S5_z 192 35)), .int (oi (gi S5_z 192 36)), .int (oi (gi S5_z 192 37)), .int (oi (gi S5_z 192 38)), .ref (b + 216), .ref (b + 217), .ref (b + 218), .ref (b + 219)]) rfl (p_192_15 (show ((-1) : Int32).toInt = (-1) by decide)) (rng_si hS (i32_of (show ((-1) : Int32).toInt = (-1) by decide))) h dX13_begin_25 (fun S6_z H locs h hM hS => ?_)
  exact ret S6_z _ _ _ _ h hM hS dX13_begin_28

def f_M_lay_3_b (v1 : Int) (kf3_ : SS → Int → Option SS) (S : SS) (v2_ : Int) : Option SS := (if v2_ < 0 then some S else w_chk (0 ≤ (gi S 192 8) ∧ (gi S 192 8) < 2000) (w_lt (si S 197 (gi S 192 8).toNat (tob (tob (shri v1 v2_)))) (fun S4_z => w_chk (i32 ((gi S4_z 192 8) + 1)) (w_lt (si S4_z 192 8 ((gi S4_z 192 8) + 1)) (fun S7_z => w_chk (i32 (v2_ + (-8))) (kf3_ S7_z (v2_ + (-8))))))))
def f_M_lay_3 (v1 : Int) : Nat → SS → Int → Option SS
  | 0 => fun _ _ => none
  | n + 1 => f_M_lay_3_b v1 (f_M_lay_3 v1 n)
def f_M_lay (S : SS) (v1 : Int) : Option SS := f_M_lay_3 v1 FU S 24
set_option maxHeartbeats 4000000 in
set_option maxRecDepth 100000 in
theorem g_M_lay (l : Launch) (D : va_G) (kc : Nat → ClassId) (b : Nat) (T S : SS) (x1 : Int32) (v1 : Int) (hx1 : x1.toInt = v1) (hS : rng S) {Sr : SS} (h : f_M_lay S v1 = some Sr) : cV l yX13_lay cX13_lay 3 1 D kc b (jM b kc T) S [.ref (b + 192), .int x1] Sr := by
  refine g_beg_v (by decide) (Nat.le_of_ble_eq_true rfl) ?_
  intro p e s m args below meth c Q C ret hM ls hl
  obtain ⟨hx, hb, hml, hown, hts, hE, hbs⟩ := id C
  have hl : lv_has ls 3 [(0, .ref (b + 192)), (1, .int x1)] := hl
  unfold f_M_lay at h
  have B3 : ∀ (n : Nat), ∀ (S : SS) (H : Heap) (locs : List Loc) (ls : Array Slot) (x2_ : Int32) (v2_ : Int) (hx2_ : x2_.toInt = v2_), rng S → mS D b s 220 (jM b kc T S) H locs → lv_has ls 3 [(0, .ref (b + 192)), (1, .int x1), (2, .int x2_)] → f_M_lay_3 v1 n S v2_ = some Sr → W p l e (mR 1 0 0) s m args below meth c H locs 0 0 Q (F0 m 3 ls []) := by
    intro n
    induction n with
    | zero => intro S H locs ls x2_ v2_ hx2_ hS hM hl h; exact absurd (h : none = some _) (fun q => nomatch q)
    | succ n hkf3_ =>
      intro S H locs ls x2_ v2_ hx2_ hS hM hl h
      have h : f_M_lay_3_b v1 (f_M_lay_3 v1 n) S v2_ = some Sr := h
      unfold f_M_lay_3_b at h
      refine lv_iload_n hx hb dX13_lay_3 rfl (lv_at hl 2 rfl) ?_
      refine g_if_lt (tgt := 36) hx hb hx2_ h dX13_lay_4 (by decide) (fun h => ?_) (fun h => ?_)
      · exact ret S _ _ _ _ (Option.some.inj h) hM hS dX13_lay_36
      · refine lv_aload_n hx hb dX13_lay_7 rfl (lv_at hl 0 rfl) ?_
        refine m_get fl_X13_17_X13 C hM (i := 192) (by omega) (e_192 b kc T S) (v := .ref (b + 197)) rfl dX13_lay_8 ?_
        refine lv_aload_n hx hb dX13_lay_11 rfl (lv_at hl 0 rfl) ?_
        refine g_get fl_X13_28_X13 C hM (i := 192) (r := 192) (by omega) (e_192 b kc T S) rfl hS dX13_lay_12 (fun z1_z bz1_z => ?_)
        refine lv_iload_n hx hb dX13_lay_15 rfl (lv_at hl 1 rfl) ?_
        refine lv_iload_n hx hb dX13_lay_16 rfl (lv_at hl 2 rfl) ?_
        refine g_ishr hx hb hx1 hx2_ dX13_lay_17 (fun z2_z bz2_z => ?_)
        refine g_i2b hx hb bz2_z dX13_lay_18 (fun z3_z bz3_z => ?_)
        refine g_bast C hM (j := 197) (by omega) (jK_M b kc T (by omega)) (a_197 b kc) hS bz1_z bz3_z (B := 2000) rfl h dX13_lay_19 (fun S4_z H locs h hM hS => ?_)
        refine lv_aload_n hx hb dX13_lay_20 rfl (lv_at hl 0 rfl) ?_
        refine lv_dup hx hb dX13_lay_21 rfl ?_
        refine g_get fl_X13_28_X13 C hM (i := 192) (r := 192) (by omega) (e_192 b kc T S4_z) rfl hS dX13_lay_22 (fun z5_z bz5_z => ?_)
        refine lv_iconst (v := 1) hx hb dX13_lay_25 (by decide) ?_
        refine g_iadd hx hb bz5_z (show (1 : Int32).toInt = 1 by decide) h dX13_lay_26 (fun z6_z bz6_z h => ?_)
        refine g_put fl_X13_28_X13 C hM (i := 192) (by omega) (e_192 b kc T S4_z) rfl rfl (Nat.le_of_ble_eq_true rfl) (fs1 := [.ref (b + 193), .ref (b + 194), .ref (b + 195), .int (oi (gi S4_z 192 3)), .int (oi (gi S4_z 192 4)), .int (oi (gi S4_z 192 5)), .ref (b + 196), .ref (b + 197), .int z6_z, .int (oi (gi S4_z 192 9)), .int (oi (gi S4_z 192 10)), .int (oi (gi S4_z 192 11)), .int (oi (gi S4_z 192 12)), .int (oi (gi S4_z 192 13)), .int (oi (gi S4_z 192 14)), .int (oi (gi S4_z 192 15)), .ref (b + 198), .ref (b + 199), .ref (b + 200), .ref (b + 201), .ref (b + 202), .ref (b + 203), .ref (b + 204), .ref (b + 205), .ref (b + 206), .ref (b + 207), .ref (b + 208), .int (oi (gi S4_z 192 27)), .ref (b + 209), .ref (b + 210), .ref (b + 211), .ref (b + 212), .ref (b + 213), .ref (b + 214), .ref (b + 215), .int (oi (gi S4_z 192 35)), .int (oi (gi S4_z 192 36)), .int (oi (gi S4_z 192 37)), .int (oi (gi S4_z 192 38)), .ref (b + 216), .ref (b + 217), .ref (b + 218), .ref (b + 219)]) rfl (p_192_8 bz6_z) (rng_si hS (i32_of bz6_z)) h dX13_lay_27 (fun S7_z H locs h hM hS => ?_)
        refine g_iinc (y := (-8)) hx hb hx2_ (by decide) (by decide) h dX13_lay_30 hl (k := 2) rfl (by decide) (fun z8_z ls bz8_z h hl => ?_)
        have hl : lv_has ls 3 [(2, .int z8_z), (0, .ref (b + 192)), (1, .int x1)] := hl
        refine lv_goto (tgt := 3) hx hb dX13_lay_33 (by decide) ?_
        exact hkf3_ S7_z _ _ _ z8_z (v2_ + (-8)) bz8_z hS hM (lv_sub hl [1, 2, 0] rfl) h
  refine lv_bipush (v := 24) hx hb dX13_lay_0 (by decide) ?_
  refine lv_istore_n (lv' := [(2, .int 24), (0, .ref (b + 192)), (1, .int x1)]) hx hb dX13_lay_2 rfl hl (by decide) rfl (fun ls hl => ?_)
  exact B3 FU S _ _ _ 24 24 (show (24 : Int32).toInt = 24 by decide) hS hM (lv_sub hl [1, 2, 0] rfl) h

def f_M_feed (S : SS) (v1 : Int) (v2 : Int) (v3 : Int) (v4 : Int) (v5 : Int) : Option (Int × SS) := w_chk (i32 ((gi S 192 8) + 20)) ((if (gi S 192 8) + 20 ≤ 2000 then w_b1 (f_M_lay S v1) (fun S3_z => w_b1 (f_M_lay S3_z v2) (fun S5_z => w_b1 (f_M_lay S5_z v3) (fun S7_z => w_b1 (f_M_lay S7_z v4) (fun S9_z => w_b1 (f_M_lay S9_z v5) (fun S11_z => some (gi S11_z 192 8, S11_z)))))) else some ((-3), S)))
set_option maxHeartbeats 4000000 in
set_option maxRecDepth 100000 in
theorem g_M_feed (l : Launch) (D : va_G) (kc : Nat → ClassId) (b : Nat) (T S : SS) (x1 : Int32) (v1 : Int) (hx1 : x1.toInt = v1) (x2 : Int32) (v2 : Int) (hx2 : x2.toInt = v2) (x3 : Int32) (v3 : Int) (hx3 : x3.toInt = v3) (x4 : Int32) (v4 : Int) (hx4 : x4.toInt = v4) (x5 : Int32) (v5 : Int) (hx5 : x5.toInt = v5) (hS : rng S) {vr : Int} {Sr : SS} (h : f_M_feed S v1 v2 v3 v4 v5 = some (vr, Sr)) : cI l yX13_feed cX13_feed 6 .int 2 D kc b (jM b kc T) S [.ref (b + 192), .int x1, .int x2, .int x3, .int x4, .int x5] vr Sr := by
  refine g_beg_i (by decide) (Nat.le_of_ble_eq_true rfl) ?_
  intro p e s m args below meth c Q C ret hM ls hl
  obtain ⟨hx, hb, hml, hown, hts, hE, hbs⟩ := id C
  have hl : lv_has ls 6 [(0, .ref (b + 192)), (1, .int x1), (2, .int x2), (3, .int x3), (4, .int x4), (5, .int x5)] := hl
  unfold f_M_feed at h
  refine lv_aload_n hx hb dX13_feed_0 rfl (lv_at hl 0 rfl) ?_
  refine g_get fl_X13_28_X13 C hM (i := 192) (r := 192) (by omega) (e_192 b kc T S) rfl hS dX13_feed_1 (fun z1_z bz1_z => ?_)
  refine lv_bipush (v := 20) hx hb dX13_feed_4 (by decide) ?_
  refine g_iadd hx hb bz1_z (show (20 : Int32).toInt = 20 by decide) h dX13_feed_6 (fun z2_z bz2_z h => ?_)
  refine lv_sipush (v := 2000) hx hb dX13_feed_7 (by decide) ?_
  refine g_icmp_le (tgt := 16) hx hb bz2_z (show (2000 : Int32).toInt = 2000 by decide) h dX13_feed_10 (by decide) (fun h => ?_) (fun h => ?_)
  · refine lv_aload_n hx hb dX13_feed_16 rfl (lv_at hl 0 rfl) ?_
    refine lv_iload_n hx hb dX13_feed_17 rfl (lv_at hl 1 rfl) ?_
    obtain ⟨S3_z, cS3_z, h⟩ := w_b1E h
    refine g_callV (J := jM b kc T) (m_runV calV_X13_lay wd_1213 (g_M_lay l D kc b T S x1 v1 hx1 hS cS3_z) C hM (i := 192) (by omega) (e_192 b kc T S) rfl hl.1 rfl rfl (Nat.le_of_ble_eq_true rfl) dX13_feed_18 ⟨Nat.le_of_ble_eq_true rfl, Nat.le_of_ble_eq_true rfl⟩ ⟨Nat.le_of_ble_eq_true rfl, Nat.le_of_ble_eq_true rfl⟩) hM (fun H locs hM hS => ?_)
    refine lv_aload_n hx hb dX13_feed_21 rfl (lv_at hl 0 rfl) ?_
    refine lv_iload_n hx hb dX13_feed_22 rfl (lv_at hl 2 rfl) ?_
    obtain ⟨S5_z, cS5_z, h⟩ := w_b1E h
    refine g_callV (J := jM b kc T) (m_runV calV_X13_lay wd_1213 (g_M_lay l D kc b T S3_z x2 v2 hx2 hS cS5_z) C hM (i := 192) (by omega) (e_192 b kc T S3_z) rfl hl.1 rfl rfl (Nat.le_of_ble_eq_true rfl) dX13_feed_23 ⟨Nat.le_of_ble_eq_true rfl, Nat.le_of_ble_eq_true rfl⟩ ⟨Nat.le_of_ble_eq_true rfl, Nat.le_of_ble_eq_true rfl⟩) hM (fun H locs hM hS => ?_)
    refine lv_aload_n hx hb dX13_feed_26 rfl (lv_at hl 0 rfl) ?_
    refine lv_iload_n hx hb dX13_feed_27 rfl (lv_at hl 3 rfl) ?_
    obtain ⟨S7_z, cS7_z, h⟩ := w_b1E h
    refine g_callV (J := jM b kc T) (m_runV calV_X13_lay wd_1213 (g_M_lay l D kc b T S5_z x3 v3 hx3 hS cS7_z) C hM (i := 192) (by omega) (e_192 b kc T S5_z) rfl hl.1 rfl rfl (Nat.le_of_ble_eq_true rfl) dX13_feed_28 ⟨Nat.le_of_ble_eq_true rfl, Nat.le_of_ble_eq_true rfl⟩ ⟨Nat.le_of_ble_eq_true rfl, Nat.le_of_ble_eq_true rfl⟩) hM (fun H locs hM hS => ?_)
    refine lv_aload_n hx hb dX13_feed_31 rfl (lv_at hl 0 rfl) ?_
    refine lv_iload hx hb dX13_feed_32 (lv_at hl 4 rfl) ?_
    obtain ⟨S9_z, cS9_z, h⟩ := w_b1E h
    refine g_callV (J := jM b kc T) (m_runV calV_X13_lay wd_1213 (g_M_lay l D kc b T S7_z x4 v4 hx4 hS cS9_z) C hM (i := 192) (by omega) (e_192 b kc T S7_z) rfl hl.1 rfl rfl (Nat.le_of_ble_eq_true rfl) dX13_feed_34 ⟨Nat.le_of_ble_eq_true rfl, Nat.le_of_ble_eq_true rfl⟩ ⟨Nat.le_of_ble_eq_true rfl, Nat.le_of_ble_eq_true rfl⟩) hM (fun H locs hM hS => ?_)
    refine lv_aload_n hx hb dX13_feed_37 rfl (lv_at hl 0 rfl) ?_
    refine lv_iload hx hb dX13_feed_38 (lv_at hl 5 rfl) ?_
    obtain ⟨S11_z, cS11_z, h⟩ := w_b1E h
    refine g_callV (J := jM b kc T) (m_runV calV_X13_lay wd_1213 (g_M_lay l D kc b T S9_z x5 v5 hx5 hS cS11_z) C hM (i := 192) (by omega) (e_192 b kc T S9_z) rfl hl.1 rfl rfl (Nat.le_of_ble_eq_true rfl) dX13_feed_40 ⟨Nat.le_of_ble_eq_true rfl, Nat.le_of_ble_eq_true rfl⟩ ⟨Nat.le_of_ble_eq_true rfl, Nat.le_of_ble_eq_true rfl⟩) hM (fun H locs hM hS => ?_)
    refine lv_aload_n hx hb dX13_feed_43 rfl (lv_at hl 0 rfl) ?_
    refine g_get fl_X13_28_X13 C hM (i := 192) (r := 192) (by omega) (e_192 b kc T S11_z) rfl hS dX13_feed_44 (fun z13_z bz13_z => ?_)
    exact ret S11_z _ _ _ _ z13_z (bz13_z.trans (r_1 h)) (r_2 h) hM hS dX13_feed_47
  · refine lv_bipush (v := (-3)) hx hb dX13_feed_13 (by decide) ?_
    exact ret S _ _ _ _ (-3) ((show ((-3) : Int32).toInt = (-3) by decide).trans (r_1 h)) (r_2 h) hM hS dX13_feed_15

def f_M_end (S : SS) (v1 : Int) : Option (Int × SS) := (if f_M_in S v1 0 (gi S 192 8) = 0 then some ((-1), S) else w_lt (si S 192 8 v1) (fun S5_z => some (v1, S5_z)))
set_option maxHeartbeats 4000000 in
set_option maxRecDepth 100000 in
theorem g_M_end (l : Launch) (D : va_G) (kc : Nat → ClassId) (b : Nat) (T S : SS) (x1 : Int32) (v1 : Int) (hx1 : x1.toInt = v1) (hS : rng S) {vr : Int} {Sr : SS} (h : f_M_end S v1 = some (vr, Sr)) : cI l yX13_end cX13_end 2 .int 2 D kc b (jM b kc T) S [.ref (b + 192), .int x1] vr Sr := by
  refine g_beg_i (by decide) (Nat.le_of_ble_eq_true rfl) ?_
  intro p e s m args below meth c Q C ret hM ls hl
  obtain ⟨hx, hb, hml, hown, hts, hE, hbs⟩ := id C
  have hl : lv_has ls 2 [(0, .ref (b + 192)), (1, .int x1)] := hl
  unfold f_M_end at h
  refine lv_iload_n hx hb dX13_end_0 rfl (lv_at hl 1 rfl) ?_
  refine g_i2l (a := v1) hx hb hx1 dX13_end_1 (fun c1_z => ?_)
  refine lv_lconst (v := 0) hx hb dX13_end_2 (by decide) ?_
  refine lv_aload_n hx hb dX13_end_3 rfl (lv_at hl 0 rfl) ?_
  refine g_get fl_X13_28_X13 C hM (i := 192) (r := 192) (by omega) (e_192 b kc T S) rfl hS dX13_end_4 (fun z2_z bz2_z => ?_)
  refine g_i2l (a := gi S 192 8) hx hb bz2_z dX13_end_7 (fun c3_z => ?_)
  refine g_callI (J := jM b kc T) (m_runS calS_X13_in wd_1221 (g_M_in l D kc b T S (i2l v1) v1 c1_z 0 0 (show (0 : Int64).toInt = 0 by decide) (i2l (gi S 192 8)) (gi S 192 8) c3_z hS rfl) C hM hl.1 rfl rfl (Nat.le_of_ble_eq_true rfl) dX13_end_8 ⟨Nat.le_of_ble_eq_true rfl, Nat.le_of_ble_eq_true rfl⟩ ⟨Nat.le_of_ble_eq_true rfl, Nat.le_of_ble_eq_true rfl⟩) hM (fun z4_z H locs bz4_z hM hS => ?_)
  refine g_if_ne (tgt := 16) hx hb bz4_z h dX13_end_11 (by decide) (fun h => ?_) (fun h => ?_)
  · refine lv_aload_n hx hb dX13_end_16 rfl (lv_at hl 0 rfl) ?_
    refine lv_iload_n hx hb dX13_end_17 rfl (lv_at hl 1 rfl) ?_
    refine g_put fl_X13_28_X13 C hM (i := 192) (by omega) (e_192 b kc T S) rfl rfl (Nat.le_of_ble_eq_true rfl) (fs1 := [.ref (b + 193), .ref (b + 194), .ref (b + 195), .int (oi (gi S 192 3)), .int (oi (gi S 192 4)), .int (oi (gi S 192 5)), .ref (b + 196), .ref (b + 197), .int x1, .int (oi (gi S 192 9)), .int (oi (gi S 192 10)), .int (oi (gi S 192 11)), .int (oi (gi S 192 12)), .int (oi (gi S 192 13)), .int (oi (gi S 192 14)), .int (oi (gi S 192 15)), .ref (b + 198), .ref (b + 199), .ref (b + 200), .ref (b + 201), .ref (b + 202), .ref (b + 203), .ref (b + 204), .ref (b + 205), .ref (b + 206), .ref (b + 207), .ref (b + 208), .int (oi (gi S 192 27)), .ref (b + 209), .ref (b + 210), .ref (b + 211), .ref (b + 212), .ref (b + 213), .ref (b + 214), .ref (b + 215), .int (oi (gi S 192 35)), .int (oi (gi S 192 36)), .int (oi (gi S 192 37)), .int (oi (gi S 192 38)), .ref (b + 216), .ref (b + 217), .ref (b + 218), .ref (b + 219)]) rfl (p_192_8 hx1) (rng_si hS (i32_of hx1)) h dX13_end_18 (fun S5_z H locs h hM hS => ?_)
    refine lv_iload_n hx hb dX13_end_21 rfl (lv_at hl 1 rfl) ?_
    exact ret S5_z _ _ _ _ x1 (hx1.trans (r_1 h)) (r_2 h) hM hS dX13_end_22
  · refine lv_iconst (v := (-1)) hx hb dX13_end_14 (by decide) ?_
    exact ret S _ _ _ _ (-1) ((show ((-1) : Int32).toInt = (-1) by decide).trans (r_1 h)) (r_2 h) hM hS dX13_end_15

def f_M_scan_81_b (kf81_ : SS → Option SS) (S : SS) : Option SS := w_b1 (f_M_byteAt S (gi S 192 11)) (fun r2_z => (if f_M_isSmall S r2_z = 0 then w_lt (si S 192 12 1) (fun S5_z => some S5_z) else w_chk (i32 ((gi S 192 11) + 1)) (w_lt (si S 192 11 ((gi S 192 11) + 1)) (fun S8_z => kf81_ S8_z ))))
def f_M_scan_81 : Nat → SS → Option SS
  | 0 => fun _ => none
  | n + 1 => f_M_scan_81_b (f_M_scan_81 n)
def f_M_scan_178 (kf128_ : SS → Option SS) (S : SS) : Option SS := w_chk (i32 ((gi S 192 11) + 1)) (w_lt (si S 192 11 ((gi S 192 11) + 1)) (fun S3_z => kf128_ S3_z ))
def f_M_scan_210 (S : SS) (vt0_ : Int) : Option SS := w_lt (si S 192 12 vt0_) (fun S1_z => some S1_z)
def f_M_scan_128_b (kf128_ : SS → Option SS) (S : SS) : Option SS := w_b1 (f_M_byteAt S (gi S 192 11)) (fun r2_z => (if f_M_isDigit S r2_z = 0 then w_chk (i32 ((gi S 192 11) - (gi S 192 10))) ((if (gi S 192 11) - (gi S 192 10) ≤ 3 then f_M_scan_210 S 2 else f_M_scan_210 S 4)) else w_chk (i32 ((gi S 192 11) - (gi S 192 10))) ((if 3 ≤ (gi S 192 11) - (gi S 192 10) then f_M_scan_178 kf128_ S  else w_chk (i32 (10 * (gi S 192 13))) (w_b1 (f_M_byteAt S (gi S 192 11)) (fun r14_z => w_chk (i32 ((10 * (gi S 192 13)) + r14_z)) (w_chk (i32 (((10 * (gi S 192 13)) + r14_z) - 48)) (w_lt (si S 192 13 (((10 * (gi S 192 13)) + r14_z) - 48)) (fun S18_z => f_M_scan_178 kf128_ S18_z )))))))))
def f_M_scan_128 : Nat → SS → Option SS
  | 0 => fun _ => none
  | n + 1 => f_M_scan_128_b (f_M_scan_128 n)
def f_M_scan_240 (S : SS) (vt0_ : Int) : Option SS := w_lt (si S 192 12 vt0_) (fun S1_z => w_chk (i32 ((gi S1_z 192 11) + 1)) (w_lt (si S1_z 192 11 ((gi S1_z 192 11) + 1)) (fun S4_z => some S4_z)))
def f_M_scan_235 (S : SS) : Option SS := f_M_scan_240 S 3
def f_M_scan_38 (S : SS) : Option SS := w_lt (si S 192 10 (gi S 192 11)) (fun S2_z => w_b1 (f_M_byteAt S2_z (gi S2_z 192 10)) (fun r4_z => (if gi S2_z 192 10 = gi S2_z 192 9 then w_lt (si S2_z 192 12 0) (fun S11_z => some S11_z) else (if f_M_isSmall S2_z r4_z = 0 then (if f_M_isDigit S2_z r4_z = 0 then (if r4_z = 63 then f_M_scan_235 S2_z  else (if r4_z = 61 then f_M_scan_235 S2_z  else (if r4_z = 59 then f_M_scan_235 S2_z  else f_M_scan_240 S2_z 4))) else w_lt (si S2_z 192 13 0) (fun S10_z => f_M_scan_128 FU S10_z )) else f_M_scan_81 FU S2_z ))))
def f_M_scan_0_b (kf0_ : SS → Option SS) (S : SS) : Option SS := (if gi S 192 9 ≤ gi S 192 11 then f_M_scan_38 S  else w_b1 (f_M_byteAt S (gi S 192 11)) (fun r4_z => (if f_M_isBlank S r4_z = 0 then f_M_scan_38 S  else w_chk (i32 ((gi S 192 11) + 1)) (w_lt (si S 192 11 ((gi S 192 11) + 1)) (fun S9_z => kf0_ S9_z )))))
def f_M_scan_0 : Nat → SS → Option SS
  | 0 => fun _ => none
  | n + 1 => f_M_scan_0_b (f_M_scan_0 n)
def f_M_scan (S : SS) : Option SS := f_M_scan_0 FU S 
set_option maxHeartbeats 4000000 in
set_option maxRecDepth 100000 in
theorem g_M_scan (l : Launch) (D : va_G) (kc : Nat → ClassId) (b : Nat) (T S : SS) (hS : rng S) {Sr : SS} (h : f_M_scan S = some Sr) : cV l yX13_scan cX13_scan 2 2 D kc b (jM b kc T) S [.ref (b + 192)] Sr := by
  refine g_beg_v (by decide) (Nat.le_of_ble_eq_true rfl) ?_
  intro p e s m args below meth c Q C ret hM ls hl
  obtain ⟨hx, hb, hml, hown, hts, hE, hbs⟩ := id C
  have hl : lv_has ls 2 [(0, .ref (b + 192))] := hl
  unfold f_M_scan at h
  have B81 : ∀ (n : Nat), ∀ (S : SS) (H : Heap) (locs : List Loc) (ls : Array Slot), rng S → mS D b s 220 (jM b kc T S) H locs → lv_has ls 2 [(0, .ref (b + 192))] → f_M_scan_81 n S = some Sr → W p l e (mR 2 0 0) s m args below meth c H locs 0 0 Q (F0 m 81 ls []) := by
    intro n
    induction n with
    | zero => intro S H locs ls hS hM hl h; exact absurd (h : none = some _) (fun q => nomatch q)
    | succ n hkf81_ =>
      intro S H locs ls hS hM hl h
      have h : f_M_scan_81_b (f_M_scan_81 n) S = some Sr := h
      unfold f_M_scan_81_b at h
      refine lv_aload_n hx hb dX13_scan_81 rfl (lv_at hl 0 rfl) ?_
      refine lv_aload_n hx hb dX13_scan_82 rfl (lv_at hl 0 rfl) ?_
      refine g_get fl_X13_31_X13 C hM (i := 192) (r := 192) (by omega) (e_192 b kc T S) rfl hS dX13_scan_83 (fun z1_z bz1_z => ?_)
      obtain ⟨r2_z, cr2_z, h⟩ := w_b1E h
      refine g_callI (J := jM b kc T) (m_runV calV_X13_byteAt wd_1236 (g_M_byteAt l D kc b T S z1_z (gi S 192 11) bz1_z hS cr2_z) C hM (i := 192) (by omega) (e_192 b kc T S) rfl hl.1 rfl rfl (Nat.le_of_ble_eq_true rfl) dX13_scan_86 ⟨Nat.le_of_ble_eq_true rfl, Nat.le_of_ble_eq_true rfl⟩ ⟨Nat.le_of_ble_eq_true rfl, Nat.le_of_ble_eq_true rfl⟩) hM (fun z3_z H locs bz3_z hM hS => ?_)
      refine g_callI (J := jM b kc T) (m_runS calS_X13_isSmall wd_1246 (g_M_isSmall l D kc b T S z3_z r2_z bz3_z hS rfl) C hM hl.1 rfl rfl (Nat.le_of_ble_eq_true rfl) dX13_scan_89 ⟨Nat.le_of_ble_eq_true rfl, Nat.le_of_ble_eq_true rfl⟩ ⟨Nat.le_of_ble_eq_true rfl, Nat.le_of_ble_eq_true rfl⟩) hM (fun z4_z H locs bz4_z hM hS => ?_)
      refine g_if_eq (tgt := 108) hx hb bz4_z h dX13_scan_92 (by decide) (fun h => ?_) (fun h => ?_)
      · refine lv_aload_n hx hb dX13_scan_108 rfl (lv_at hl 0 rfl) ?_
        refine lv_iconst (v := 1) hx hb dX13_scan_109 (by decide) ?_
        refine g_put fl_X13_162_X13 C hM (i := 192) (by omega) (e_192 b kc T S) rfl rfl (Nat.le_of_ble_eq_true rfl) (fs1 := [.ref (b + 193), .ref (b + 194), .ref (b + 195), .int (oi (gi S 192 3)), .int (oi (gi S 192 4)), .int (oi (gi S 192 5)), .ref (b + 196), .ref (b + 197), .int (oi (gi S 192 8)), .int (oi (gi S 192 9)), .int (oi (gi S 192 10)), .int (oi (gi S 192 11)), .int 1, .int (oi (gi S 192 13)), .int (oi (gi S 192 14)), .int (oi (gi S 192 15)), .ref (b + 198), .ref (b + 199), .ref (b + 200), .ref (b + 201), .ref (b + 202), .ref (b + 203), .ref (b + 204), .ref (b + 205), .ref (b + 206), .ref (b + 207), .ref (b + 208), .int (oi (gi S 192 27)), .ref (b + 209), .ref (b + 210), .ref (b + 211), .ref (b + 212), .ref (b + 213), .ref (b + 214), .ref (b + 215), .int (oi (gi S 192 35)), .int (oi (gi S 192 36)), .int (oi (gi S 192 37)), .int (oi (gi S 192 38)), .ref (b + 216), .ref (b + 217), .ref (b + 218), .ref (b + 219)]) rfl (p_192_12 (show (1 : Int32).toInt = 1 by decide)) (rng_si hS (i32_of (show (1 : Int32).toInt = 1 by decide))) h dX13_scan_110 (fun S5_z H locs h hM hS => ?_)
        refine lv_goto (tgt := 253) hx hb dX13_scan_113 (by decide) ?_
        exact ret S5_z _ _ _ _ (Option.some.inj h) hM hS dX13_scan_253
      · refine lv_aload_n hx hb dX13_scan_95 rfl (lv_at hl 0 rfl) ?_
        refine lv_dup hx hb dX13_scan_96 rfl ?_
        refine g_get fl_X13_31_X13 C hM (i := 192) (r := 192) (by omega) (e_192 b kc T S) rfl hS dX13_scan_97 (fun z6_z bz6_z => ?_)
        refine lv_iconst (v := 1) hx hb dX13_scan_100 (by decide) ?_
        refine g_iadd hx hb bz6_z (show (1 : Int32).toInt = 1 by decide) h dX13_scan_101 (fun z7_z bz7_z h => ?_)
        refine g_put fl_X13_31_X13 C hM (i := 192) (by omega) (e_192 b kc T S) rfl rfl (Nat.le_of_ble_eq_true rfl) (fs1 := [.ref (b + 193), .ref (b + 194), .ref (b + 195), .int (oi (gi S 192 3)), .int (oi (gi S 192 4)), .int (oi (gi S 192 5)), .ref (b + 196), .ref (b + 197), .int (oi (gi S 192 8)), .int (oi (gi S 192 9)), .int (oi (gi S 192 10)), .int z7_z, .int (oi (gi S 192 12)), .int (oi (gi S 192 13)), .int (oi (gi S 192 14)), .int (oi (gi S 192 15)), .ref (b + 198), .ref (b + 199), .ref (b + 200), .ref (b + 201), .ref (b + 202), .ref (b + 203), .ref (b + 204), .ref (b + 205), .ref (b + 206), .ref (b + 207), .ref (b + 208), .int (oi (gi S 192 27)), .ref (b + 209), .ref (b + 210), .ref (b + 211), .ref (b + 212), .ref (b + 213), .ref (b + 214), .ref (b + 215), .int (oi (gi S 192 35)), .int (oi (gi S 192 36)), .int (oi (gi S 192 37)), .int (oi (gi S 192 38)), .ref (b + 216), .ref (b + 217), .ref (b + 218), .ref (b + 219)]) rfl (p_192_11 bz7_z) (rng_si hS (i32_of bz7_z)) h dX13_scan_102 (fun S8_z H locs h hM hS => ?_)
        refine lv_goto (tgt := 81) hx hb dX13_scan_105 (by decide) ?_
        exact hkf81_ S8_z _ _ _ hS hM (lv_sub hl [0] rfl) h
  have B178 : ∀ (kf128_ : SS → Option SS) (hkf128_ : ∀ (S : SS) (H : Heap) (locs : List Loc) (ls : Array Slot), rng S → mS D b s 220 (jM b kc T S) H locs → lv_has ls 2 [(0, .ref (b + 192))] → kf128_ S = some Sr → W p l e (mR 2 0 0) s m args below meth c H locs 0 0 Q (F0 m 128 ls [])), ∀ (S : SS) (H : Heap) (locs : List Loc) (ls : Array Slot), rng S → mS D b s 220 (jM b kc T S) H locs → lv_has ls 2 [(0, .ref (b + 192))] → f_M_scan_178 kf128_ S = some Sr → W p l e (mR 2 0 0) s m args below meth c H locs 0 0 Q (F0 m 178 ls []) := by
    intro kf128_ hkf128_ S H locs ls hS hM hl h
    unfold f_M_scan_178 at h
    refine lv_aload_n hx hb dX13_scan_178 rfl (lv_at hl 0 rfl) ?_
    refine lv_dup hx hb dX13_scan_179 rfl ?_
    refine g_get fl_X13_31_X13 C hM (i := 192) (r := 192) (by omega) (e_192 b kc T S) rfl hS dX13_scan_180 (fun z1_z bz1_z => ?_)
    refine lv_iconst (v := 1) hx hb dX13_scan_183 (by decide) ?_
    refine g_iadd hx hb bz1_z (show (1 : Int32).toInt = 1 by decide) h dX13_scan_184 (fun z2_z bz2_z h => ?_)
    refine g_put fl_X13_31_X13 C hM (i := 192) (by omega) (e_192 b kc T S) rfl rfl (Nat.le_of_ble_eq_true rfl) (fs1 := [.ref (b + 193), .ref (b + 194), .ref (b + 195), .int (oi (gi S 192 3)), .int (oi (gi S 192 4)), .int (oi (gi S 192 5)), .ref (b + 196), .ref (b + 197), .int (oi (gi S 192 8)), .int (oi (gi S 192 9)), .int (oi (gi S 192 10)), .int z2_z, .int (oi (gi S 192 12)), .int (oi (gi S 192 13)), .int (oi (gi S 192 14)), .int (oi (gi S 192 15)), .ref (b + 198), .ref (b + 199), .ref (b + 200), .ref (b + 201), .ref (b + 202), .ref (b + 203), .ref (b + 204), .ref (b + 205), .ref (b + 206), .ref (b + 207), .ref (b + 208), .int (oi (gi S 192 27)), .ref (b + 209), .ref (b + 210), .ref (b + 211), .ref (b + 212), .ref (b + 213), .ref (b + 214), .ref (b + 215), .int (oi (gi S 192 35)), .int (oi (gi S 192 36)), .int (oi (gi S 192 37)), .int (oi (gi S 192 38)), .ref (b + 216), .ref (b + 217), .ref (b + 218), .ref (b + 219)]) rfl (p_192_11 bz2_z) (rng_si hS (i32_of bz2_z)) h dX13_scan_185 (fun S3_z H locs h hM hS => ?_)
    refine lv_goto (tgt := 128) hx hb dX13_scan_188 (by decide) ?_
    exact hkf128_ S3_z _ _ _ hS hM (lv_sub hl [0] rfl) h
  have B210 : ∀ (S : SS) (H : Heap) (locs : List Loc) (ls : Array Slot) (xt0_ : Int32) (vt0_ : Int) (hxt0_ : xt0_.toInt = vt0_), rng S → mS D b s 220 (jM b kc T S) H locs → lv_has ls 2 [] → f_M_scan_210 S vt0_ = some Sr → W p l e (mR 2 0 0) s m args below meth c H locs 0 0 Q (F0 m 210 ls [.int xt0_, .ref (b + 192)]) := by
    intro S H locs ls xt0_ vt0_ hxt0_ hS hM hl h
    unfold f_M_scan_210 at h
    refine g_put fl_X13_162_X13 C hM (i := 192) (by omega) (e_192 b kc T S) rfl rfl (Nat.le_of_ble_eq_true rfl) (fs1 := [.ref (b + 193), .ref (b + 194), .ref (b + 195), .int (oi (gi S 192 3)), .int (oi (gi S 192 4)), .int (oi (gi S 192 5)), .ref (b + 196), .ref (b + 197), .int (oi (gi S 192 8)), .int (oi (gi S 192 9)), .int (oi (gi S 192 10)), .int (oi (gi S 192 11)), .int xt0_, .int (oi (gi S 192 13)), .int (oi (gi S 192 14)), .int (oi (gi S 192 15)), .ref (b + 198), .ref (b + 199), .ref (b + 200), .ref (b + 201), .ref (b + 202), .ref (b + 203), .ref (b + 204), .ref (b + 205), .ref (b + 206), .ref (b + 207), .ref (b + 208), .int (oi (gi S 192 27)), .ref (b + 209), .ref (b + 210), .ref (b + 211), .ref (b + 212), .ref (b + 213), .ref (b + 214), .ref (b + 215), .int (oi (gi S 192 35)), .int (oi (gi S 192 36)), .int (oi (gi S 192 37)), .int (oi (gi S 192 38)), .ref (b + 216), .ref (b + 217), .ref (b + 218), .ref (b + 219)]) rfl (p_192_12 hxt0_) (rng_si hS (i32_of hxt0_)) h dX13_scan_210 (fun S1_z H locs h hM hS => ?_)
    refine lv_goto (tgt := 253) hx hb dX13_scan_213 (by decide) ?_
    exact ret S1_z _ _ _ _ (Option.some.inj h) hM hS dX13_scan_253
  have B128 : ∀ (n : Nat), ∀ (S : SS) (H : Heap) (locs : List Loc) (ls : Array Slot), rng S → mS D b s 220 (jM b kc T S) H locs → lv_has ls 2 [(0, .ref (b + 192))] → f_M_scan_128 n S = some Sr → W p l e (mR 2 0 0) s m args below meth c H locs 0 0 Q (F0 m 128 ls []) := by
    intro n
    induction n with
    | zero => intro S H locs ls hS hM hl h; exact absurd (h : none = some _) (fun q => nomatch q)
    | succ n hkf128_ =>
      intro S H locs ls hS hM hl h
      have h : f_M_scan_128_b (f_M_scan_128 n) S = some Sr := h
      unfold f_M_scan_128_b at h
      refine lv_aload_n hx hb dX13_scan_128 rfl (lv_at hl 0 rfl) ?_
      refine lv_aload_n hx hb dX13_scan_129 rfl (lv_at hl 0 rfl) ?_
      refine g_get fl_X13_31_X13 C hM (i := 192) (r := 192) (by omega) (e_192 b kc T S) rfl hS dX13_scan_130 (fun z1_z bz1_z => ?_)
      obtain ⟨r2_z, cr2_z, h⟩ := w_b1E h
      refine g_callI (J := jM b kc T) (m_runV calV_X13_byteAt wd_1236 (g_M_byteAt l D kc b T S z1_z (gi S 192 11) bz1_z hS cr2_z) C hM (i := 192) (by omega) (e_192 b kc T S) rfl hl.1 rfl rfl (Nat.le_of_ble_eq_true rfl) dX13_scan_133 ⟨Nat.le_of_ble_eq_true rfl, Nat.le_of_ble_eq_true rfl⟩ ⟨Nat.le_of_ble_eq_true rfl, Nat.le_of_ble_eq_true rfl⟩) hM (fun z3_z H locs bz3_z hM hS => ?_)
      refine g_callI (J := jM b kc T) (m_runS calS_X13_isDigit wd_1249 (g_M_isDigit l D kc b T S z3_z r2_z bz3_z hS rfl) C hM hl.1 rfl rfl (Nat.le_of_ble_eq_true rfl) dX13_scan_136 ⟨Nat.le_of_ble_eq_true rfl, Nat.le_of_ble_eq_true rfl⟩ ⟨Nat.le_of_ble_eq_true rfl, Nat.le_of_ble_eq_true rfl⟩) hM (fun z4_z H locs bz4_z hM hS => ?_)
      refine g_if_eq (tgt := 191) hx hb bz4_z h dX13_scan_139 (by decide) (fun h => ?_) (fun h => ?_)
      · refine lv_aload_n hx hb dX13_scan_191 rfl (lv_at hl 0 rfl) ?_
        refine lv_aload_n hx hb dX13_scan_192 rfl (lv_at hl 0 rfl) ?_
        refine g_get fl_X13_31_X13 C hM (i := 192) (r := 192) (by omega) (e_192 b kc T S) rfl hS dX13_scan_193 (fun z5_z bz5_z => ?_)
        refine lv_aload_n hx hb dX13_scan_196 rfl (lv_at hl 0 rfl) ?_
        refine g_get fl_X13_159_X13 C hM (i := 192) (r := 192) (by omega) (e_192 b kc T S) rfl hS dX13_scan_197 (fun z6_z bz6_z => ?_)
        refine g_isub hx hb bz5_z bz6_z h dX13_scan_200 (fun z7_z bz7_z h => ?_)
        refine lv_iconst (v := 3) hx hb dX13_scan_201 (by decide) ?_
        refine g_icmp_le (tgt := 209) hx hb bz7_z (show (3 : Int32).toInt = 3 by decide) h dX13_scan_202 (by decide) (fun h => ?_) (fun h => ?_)
        · refine lv_iconst (v := 2) hx hb dX13_scan_209 (by decide) ?_
          exact B210 S _ _ _ 2 2 (show (2 : Int32).toInt = 2 by decide) hS hM (lv_sub hl [] rfl) h
        · refine lv_iconst (v := 4) hx hb dX13_scan_205 (by decide) ?_
          refine lv_goto (tgt := 210) hx hb dX13_scan_206 (by decide) ?_
          exact B210 S _ _ _ 4 4 (show (4 : Int32).toInt = 4 by decide) hS hM (lv_sub hl [] rfl) h
      · refine lv_aload_n hx hb dX13_scan_142 rfl (lv_at hl 0 rfl) ?_
        refine g_get fl_X13_31_X13 C hM (i := 192) (r := 192) (by omega) (e_192 b kc T S) rfl hS dX13_scan_143 (fun z8_z bz8_z => ?_)
        refine lv_aload_n hx hb dX13_scan_146 rfl (lv_at hl 0 rfl) ?_
        refine g_get fl_X13_159_X13 C hM (i := 192) (r := 192) (by omega) (e_192 b kc T S) rfl hS dX13_scan_147 (fun z9_z bz9_z => ?_)
        refine g_isub hx hb bz8_z bz9_z h dX13_scan_150 (fun z10_z bz10_z h => ?_)
        refine lv_iconst (v := 3) hx hb dX13_scan_151 (by decide) ?_
        refine g_icmp_ge (tgt := 178) hx hb bz10_z (show (3 : Int32).toInt = 3 by decide) h dX13_scan_152 (by decide) (fun h => ?_) (fun h => ?_)
        · exact B178 (f_M_scan_128 n) hkf128_ S _ _ _ hS hM (lv_sub hl [0] rfl) h
        · refine lv_aload_n hx hb dX13_scan_155 rfl (lv_at hl 0 rfl) ?_
          refine lv_bipush (v := 10) hx hb dX13_scan_156 (by decide) ?_
          refine lv_aload_n hx hb dX13_scan_158 rfl (lv_at hl 0 rfl) ?_
          refine g_get fl_X13_165_X13 C hM (i := 192) (r := 192) (by omega) (e_192 b kc T S) rfl hS dX13_scan_159 (fun z11_z bz11_z => ?_)
          refine g_imul hx hb (show (10 : Int32).toInt = 10 by decide) bz11_z h dX13_scan_162 (fun z12_z bz12_z h => ?_)
          refine lv_aload_n hx hb dX13_scan_163 rfl (lv_at hl 0 rfl) ?_
          refine lv_aload_n hx hb dX13_scan_164 rfl (lv_at hl 0 rfl) ?_
          refine g_get fl_X13_31_X13 C hM (i := 192) (r := 192) (by omega) (e_192 b kc T S) rfl hS dX13_scan_165 (fun z13_z bz13_z => ?_)
          obtain ⟨r14_z, cr14_z, h⟩ := w_b1E h
          refine g_callI (J := jM b kc T) (m_runV calV_X13_byteAt wd_1236 (g_M_byteAt l D kc b T S z13_z (gi S 192 11) bz13_z hS cr14_z) C hM (i := 192) (by omega) (e_192 b kc T S) rfl hl.1 rfl rfl (Nat.le_of_ble_eq_true rfl) dX13_scan_168 ⟨Nat.le_of_ble_eq_true rfl, Nat.le_of_ble_eq_true rfl⟩ ⟨Nat.le_of_ble_eq_true rfl, Nat.le_of_ble_eq_true rfl⟩) hM (fun z15_z H locs bz15_z hM hS => ?_)
          refine g_iadd hx hb bz12_z bz15_z h dX13_scan_171 (fun z16_z bz16_z h => ?_)
          refine lv_bipush (v := 48) hx hb dX13_scan_172 (by decide) ?_
          refine g_isub hx hb bz16_z (show (48 : Int32).toInt = 48 by decide) h dX13_scan_174 (fun z17_z bz17_z h => ?_)
          refine g_put fl_X13_165_X13 C hM (i := 192) (by omega) (e_192 b kc T S) rfl rfl (Nat.le_of_ble_eq_true rfl) (fs1 := [.ref (b + 193), .ref (b + 194), .ref (b + 195), .int (oi (gi S 192 3)), .int (oi (gi S 192 4)), .int (oi (gi S 192 5)), .ref (b + 196), .ref (b + 197), .int (oi (gi S 192 8)), .int (oi (gi S 192 9)), .int (oi (gi S 192 10)), .int (oi (gi S 192 11)), .int (oi (gi S 192 12)), .int z17_z, .int (oi (gi S 192 14)), .int (oi (gi S 192 15)), .ref (b + 198), .ref (b + 199), .ref (b + 200), .ref (b + 201), .ref (b + 202), .ref (b + 203), .ref (b + 204), .ref (b + 205), .ref (b + 206), .ref (b + 207), .ref (b + 208), .int (oi (gi S 192 27)), .ref (b + 209), .ref (b + 210), .ref (b + 211), .ref (b + 212), .ref (b + 213), .ref (b + 214), .ref (b + 215), .int (oi (gi S 192 35)), .int (oi (gi S 192 36)), .int (oi (gi S 192 37)), .int (oi (gi S 192 38)), .ref (b + 216), .ref (b + 217), .ref (b + 218), .ref (b + 219)]) rfl (p_192_13 bz17_z) (rng_si hS (i32_of bz17_z)) h dX13_scan_175 (fun S18_z H locs h hM hS => ?_)
          exact B178 (f_M_scan_128 n) hkf128_ S18_z _ _ _ hS hM (lv_sub hl [0] rfl) h
  have B240 : ∀ (S : SS) (H : Heap) (locs : List Loc) (ls : Array Slot) (xt0_ : Int32) (vt0_ : Int) (hxt0_ : xt0_.toInt = vt0_), rng S → mS D b s 220 (jM b kc T S) H locs → lv_has ls 2 [(0, .ref (b + 192))] → f_M_scan_240 S vt0_ = some Sr → W p l e (mR 2 0 0) s m args below meth c H locs 0 0 Q (F0 m 240 ls [.int xt0_, .ref (b + 192)]) := by
    intro S H locs ls xt0_ vt0_ hxt0_ hS hM hl h
    unfold f_M_scan_240 at h
    refine g_put fl_X13_162_X13 C hM (i := 192) (by omega) (e_192 b kc T S) rfl rfl (Nat.le_of_ble_eq_true rfl) (fs1 := [.ref (b + 193), .ref (b + 194), .ref (b + 195), .int (oi (gi S 192 3)), .int (oi (gi S 192 4)), .int (oi (gi S 192 5)), .ref (b + 196), .ref (b + 197), .int (oi (gi S 192 8)), .int (oi (gi S 192 9)), .int (oi (gi S 192 10)), .int (oi (gi S 192 11)), .int xt0_, .int (oi (gi S 192 13)), .int (oi (gi S 192 14)), .int (oi (gi S 192 15)), .ref (b + 198), .ref (b + 199), .ref (b + 200), .ref (b + 201), .ref (b + 202), .ref (b + 203), .ref (b + 204), .ref (b + 205), .ref (b + 206), .ref (b + 207), .ref (b + 208), .int (oi (gi S 192 27)), .ref (b + 209), .ref (b + 210), .ref (b + 211), .ref (b + 212), .ref (b + 213), .ref (b + 214), .ref (b + 215), .int (oi (gi S 192 35)), .int (oi (gi S 192 36)), .int (oi (gi S 192 37)), .int (oi (gi S 192 38)), .ref (b + 216), .ref (b + 217), .ref (b + 218), .ref (b + 219)]) rfl (p_192_12 hxt0_) (rng_si hS (i32_of hxt0_)) h dX13_scan_240 (fun S1_z H locs h hM hS => ?_)
    refine lv_aload_n hx hb dX13_scan_243 rfl (lv_at hl 0 rfl) ?_
    refine lv_dup hx hb dX13_scan_244 rfl ?_
    refine g_get fl_X13_31_X13 C hM (i := 192) (r := 192) (by omega) (e_192 b kc T S1_z) rfl hS dX13_scan_245 (fun z2_z bz2_z => ?_)
    refine lv_iconst (v := 1) hx hb dX13_scan_248 (by decide) ?_
    refine g_iadd hx hb bz2_z (show (1 : Int32).toInt = 1 by decide) h dX13_scan_249 (fun z3_z bz3_z h => ?_)
    refine g_put fl_X13_31_X13 C hM (i := 192) (by omega) (e_192 b kc T S1_z) rfl rfl (Nat.le_of_ble_eq_true rfl) (fs1 := [.ref (b + 193), .ref (b + 194), .ref (b + 195), .int (oi (gi S1_z 192 3)), .int (oi (gi S1_z 192 4)), .int (oi (gi S1_z 192 5)), .ref (b + 196), .ref (b + 197), .int (oi (gi S1_z 192 8)), .int (oi (gi S1_z 192 9)), .int (oi (gi S1_z 192 10)), .int z3_z, .int (oi (gi S1_z 192 12)), .int (oi (gi S1_z 192 13)), .int (oi (gi S1_z 192 14)), .int (oi (gi S1_z 192 15)), .ref (b + 198), .ref (b + 199), .ref (b + 200), .ref (b + 201), .ref (b + 202), .ref (b + 203), .ref (b + 204), .ref (b + 205), .ref (b + 206), .ref (b + 207), .ref (b + 208), .int (oi (gi S1_z 192 27)), .ref (b + 209), .ref (b + 210), .ref (b + 211), .ref (b + 212), .ref (b + 213), .ref (b + 214), .ref (b + 215), .int (oi (gi S1_z 192 35)), .int (oi (gi S1_z 192 36)), .int (oi (gi S1_z 192 37)), .int (oi (gi S1_z 192 38)), .ref (b + 216), .ref (b + 217), .ref (b + 218), .ref (b + 219)]) rfl (p_192_11 bz3_z) (rng_si hS (i32_of bz3_z)) h dX13_scan_250 (fun S4_z H locs h hM hS => ?_)
    exact ret S4_z _ _ _ _ (Option.some.inj h) hM hS dX13_scan_253
  have B235 : ∀ (S : SS) (H : Heap) (locs : List Loc) (ls : Array Slot), rng S → mS D b s 220 (jM b kc T S) H locs → lv_has ls 2 [(0, .ref (b + 192))] → f_M_scan_235 S = some Sr → W p l e (mR 2 0 0) s m args below meth c H locs 0 0 Q (F0 m 235 ls [.ref (b + 192)]) := by
    intro S H locs ls hS hM hl h
    unfold f_M_scan_235 at h
    refine lv_iconst (v := 3) hx hb dX13_scan_235 (by decide) ?_
    refine lv_goto (tgt := 240) hx hb dX13_scan_236 (by decide) ?_
    exact B240 S _ _ _ 3 3 (show (3 : Int32).toInt = 3 by decide) hS hM (lv_sub hl [0] rfl) h
  have B38 : ∀ (S : SS) (H : Heap) (locs : List Loc) (ls : Array Slot), rng S → mS D b s 220 (jM b kc T S) H locs → lv_has ls 2 [(0, .ref (b + 192))] → f_M_scan_38 S = some Sr → W p l e (mR 2 0 0) s m args below meth c H locs 0 0 Q (F0 m 38 ls []) := by
    intro S H locs ls hS hM hl h
    unfold f_M_scan_38 at h
    refine lv_aload_n hx hb dX13_scan_38 rfl (lv_at hl 0 rfl) ?_
    refine lv_aload_n hx hb dX13_scan_39 rfl (lv_at hl 0 rfl) ?_
    refine g_get fl_X13_31_X13 C hM (i := 192) (r := 192) (by omega) (e_192 b kc T S) rfl hS dX13_scan_40 (fun z1_z bz1_z => ?_)
    refine g_put fl_X13_159_X13 C hM (i := 192) (by omega) (e_192 b kc T S) rfl rfl (Nat.le_of_ble_eq_true rfl) (fs1 := [.ref (b + 193), .ref (b + 194), .ref (b + 195), .int (oi (gi S 192 3)), .int (oi (gi S 192 4)), .int (oi (gi S 192 5)), .ref (b + 196), .ref (b + 197), .int (oi (gi S 192 8)), .int (oi (gi S 192 9)), .int z1_z, .int (oi (gi S 192 11)), .int (oi (gi S 192 12)), .int (oi (gi S 192 13)), .int (oi (gi S 192 14)), .int (oi (gi S 192 15)), .ref (b + 198), .ref (b + 199), .ref (b + 200), .ref (b + 201), .ref (b + 202), .ref (b + 203), .ref (b + 204), .ref (b + 205), .ref (b + 206), .ref (b + 207), .ref (b + 208), .int (oi (gi S 192 27)), .ref (b + 209), .ref (b + 210), .ref (b + 211), .ref (b + 212), .ref (b + 213), .ref (b + 214), .ref (b + 215), .int (oi (gi S 192 35)), .int (oi (gi S 192 36)), .int (oi (gi S 192 37)), .int (oi (gi S 192 38)), .ref (b + 216), .ref (b + 217), .ref (b + 218), .ref (b + 219)]) rfl (p_192_10 bz1_z) (rng_si hS (i32_of bz1_z)) h dX13_scan_43 (fun S2_z H locs h hM hS => ?_)
    refine lv_aload_n hx hb dX13_scan_46 rfl (lv_at hl 0 rfl) ?_
    refine lv_aload_n hx hb dX13_scan_47 rfl (lv_at hl 0 rfl) ?_
    refine g_get fl_X13_159_X13 C hM (i := 192) (r := 192) (by omega) (e_192 b kc T S2_z) rfl hS dX13_scan_48 (fun z3_z bz3_z => ?_)
    obtain ⟨r4_z, cr4_z, h⟩ := w_b1E h
    refine g_callI (J := jM b kc T) (m_runV calV_X13_byteAt wd_1236 (g_M_byteAt l D kc b T S2_z z3_z (gi S2_z 192 10) bz3_z hS cr4_z) C hM (i := 192) (by omega) (e_192 b kc T S2_z) rfl hl.1 rfl rfl (Nat.le_of_ble_eq_true rfl) dX13_scan_51 ⟨Nat.le_of_ble_eq_true rfl, Nat.le_of_ble_eq_true rfl⟩ ⟨Nat.le_of_ble_eq_true rfl, Nat.le_of_ble_eq_true rfl⟩) hM (fun z5_z H locs bz5_z hM hS => ?_)
    refine lv_istore_n (lv' := [(1, .int z5_z), (0, .ref (b + 192))]) hx hb dX13_scan_54 rfl hl (by decide) rfl (fun ls hl => ?_)
    refine lv_aload_n hx hb dX13_scan_55 rfl (lv_at hl 1 rfl) ?_
    refine g_get fl_X13_159_X13 C hM (i := 192) (r := 192) (by omega) (e_192 b kc T S2_z) rfl hS dX13_scan_56 (fun z6_z bz6_z => ?_)
    refine lv_aload_n hx hb dX13_scan_59 rfl (lv_at hl 1 rfl) ?_
    refine g_get fl_X13_14_X13 C hM (i := 192) (r := 192) (by omega) (e_192 b kc T S2_z) rfl hS dX13_scan_60 (fun z7_z bz7_z => ?_)
    refine g_icmp_ne (tgt := 74) hx hb bz6_z bz7_z h dX13_scan_63 (by decide) (fun h => ?_) (fun h => ?_)
    · refine lv_iload_n hx hb dX13_scan_74 rfl (lv_at hl 0 rfl) ?_
      refine g_callI (J := jM b kc T) (m_runS calS_X13_isSmall wd_1246 (g_M_isSmall l D kc b T S2_z z5_z r4_z bz5_z hS rfl) C hM hl.1 rfl rfl (Nat.le_of_ble_eq_true rfl) dX13_scan_75 ⟨Nat.le_of_ble_eq_true rfl, Nat.le_of_ble_eq_true rfl⟩ ⟨Nat.le_of_ble_eq_true rfl, Nat.le_of_ble_eq_true rfl⟩) hM (fun z8_z H locs bz8_z hM hS => ?_)
      refine g_if_eq (tgt := 116) hx hb bz8_z h dX13_scan_78 (by decide) (fun h => ?_) (fun h => ?_)
      · refine lv_iload_n hx hb dX13_scan_116 rfl (lv_at hl 0 rfl) ?_
        refine g_callI (J := jM b kc T) (m_runS calS_X13_isDigit wd_1249 (g_M_isDigit l D kc b T S2_z z5_z r4_z bz5_z hS rfl) C hM hl.1 rfl rfl (Nat.le_of_ble_eq_true rfl) dX13_scan_117 ⟨Nat.le_of_ble_eq_true rfl, Nat.le_of_ble_eq_true rfl⟩ ⟨Nat.le_of_ble_eq_true rfl, Nat.le_of_ble_eq_true rfl⟩) hM (fun z9_z H locs bz9_z hM hS => ?_)
        refine g_if_eq (tgt := 216) hx hb bz9_z h dX13_scan_120 (by decide) (fun h => ?_) (fun h => ?_)
        · refine lv_aload_n hx hb dX13_scan_216 rfl (lv_at hl 1 rfl) ?_
          refine lv_iload_n hx hb dX13_scan_217 rfl (lv_at hl 0 rfl) ?_
          refine lv_bipush (v := 63) hx hb dX13_scan_218 (by decide) ?_
          refine g_icmp_eq (tgt := 235) hx hb bz5_z (show (63 : Int32).toInt = 63 by decide) h dX13_scan_220 (by decide) (fun h => ?_) (fun h => ?_)
          · exact B235 S2_z _ _ _ hS hM (lv_sub hl [1] rfl) h
          · refine lv_iload_n hx hb dX13_scan_223 rfl (lv_at hl 0 rfl) ?_
            refine lv_bipush (v := 61) hx hb dX13_scan_224 (by decide) ?_
            refine g_icmp_eq (tgt := 235) hx hb bz5_z (show (61 : Int32).toInt = 61 by decide) h dX13_scan_226 (by decide) (fun h => ?_) (fun h => ?_)
            · exact B235 S2_z _ _ _ hS hM (lv_sub hl [1] rfl) h
            · refine lv_iload_n hx hb dX13_scan_229 rfl (lv_at hl 0 rfl) ?_
              refine lv_bipush (v := 59) hx hb dX13_scan_230 (by decide) ?_
              refine g_icmp_ne (tgt := 239) hx hb bz5_z (show (59 : Int32).toInt = 59 by decide) h dX13_scan_232 (by decide) (fun h => ?_) (fun h => ?_)
              · refine lv_iconst (v := 4) hx hb dX13_scan_239 (by decide) ?_
                exact B240 S2_z _ _ _ 4 4 (show (4 : Int32).toInt = 4 by decide) hS hM (lv_sub hl [1] rfl) h
              · exact B235 S2_z _ _ _ hS hM (lv_sub hl [1] rfl) h
        · refine lv_aload_n hx hb dX13_scan_123 rfl (lv_at hl 1 rfl) ?_
          refine lv_iconst (v := 0) hx hb dX13_scan_124 (by decide) ?_
          refine g_put fl_X13_165_X13 C hM (i := 192) (by omega) (e_192 b kc T S2_z) rfl rfl (Nat.le_of_ble_eq_true rfl) (fs1 := [.ref (b + 193), .ref (b + 194), .ref (b + 195), .int (oi (gi S2_z 192 3)), .int (oi (gi S2_z 192 4)), .int (oi (gi S2_z 192 5)), .ref (b + 196), .ref (b + 197), .int (oi (gi S2_z 192 8)), .int (oi (gi S2_z 192 9)), .int (oi (gi S2_z 192 10)), .int (oi (gi S2_z 192 11)), .int (oi (gi S2_z 192 12)), .int 0, .int (oi (gi S2_z 192 14)), .int (oi (gi S2_z 192 15)), .ref (b + 198), .ref (b + 199), .ref (b + 200), .ref (b + 201), .ref (b + 202), .ref (b + 203), .ref (b + 204), .ref (b + 205), .ref (b + 206), .ref (b + 207), .ref (b + 208), .int (oi (gi S2_z 192 27)), .ref (b + 209), .ref (b + 210), .ref (b + 211), .ref (b + 212), .ref (b + 213), .ref (b + 214), .ref (b + 215), .int (oi (gi S2_z 192 35)), .int (oi (gi S2_z 192 36)), .int (oi (gi S2_z 192 37)), .int (oi (gi S2_z 192 38)), .ref (b + 216), .ref (b + 217), .ref (b + 218), .ref (b + 219)]) rfl (p_192_13 (show (0 : Int32).toInt = 0 by decide)) (rng_si hS (i32_of (show (0 : Int32).toInt = 0 by decide))) h dX13_scan_125 (fun S10_z H locs h hM hS => ?_)
          exact B128 FU S10_z _ _ _ hS hM (lv_sub hl [1] rfl) h
      · exact B81 FU S2_z _ _ _ hS hM (lv_sub hl [1] rfl) h
    · refine lv_aload_n hx hb dX13_scan_66 rfl (lv_at hl 1 rfl) ?_
      refine lv_iconst (v := 0) hx hb dX13_scan_67 (by decide) ?_
      refine g_put fl_X13_162_X13 C hM (i := 192) (by omega) (e_192 b kc T S2_z) rfl rfl (Nat.le_of_ble_eq_true rfl) (fs1 := [.ref (b + 193), .ref (b + 194), .ref (b + 195), .int (oi (gi S2_z 192 3)), .int (oi (gi S2_z 192 4)), .int (oi (gi S2_z 192 5)), .ref (b + 196), .ref (b + 197), .int (oi (gi S2_z 192 8)), .int (oi (gi S2_z 192 9)), .int (oi (gi S2_z 192 10)), .int (oi (gi S2_z 192 11)), .int 0, .int (oi (gi S2_z 192 13)), .int (oi (gi S2_z 192 14)), .int (oi (gi S2_z 192 15)), .ref (b + 198), .ref (b + 199), .ref (b + 200), .ref (b + 201), .ref (b + 202), .ref (b + 203), .ref (b + 204), .ref (b + 205), .ref (b + 206), .ref (b + 207), .ref (b + 208), .int (oi (gi S2_z 192 27)), .ref (b + 209), .ref (b + 210), .ref (b + 211), .ref (b + 212), .ref (b + 213), .ref (b + 214), .ref (b + 215), .int (oi (gi S2_z 192 35)), .int (oi (gi S2_z 192 36)), .int (oi (gi S2_z 192 37)), .int (oi (gi S2_z 192 38)), .ref (b + 216), .ref (b + 217), .ref (b + 218), .ref (b + 219)]) rfl (p_192_12 (show (0 : Int32).toInt = 0 by decide)) (rng_si hS (i32_of (show (0 : Int32).toInt = 0 by decide))) h dX13_scan_68 (fun S11_z H locs h hM hS => ?_)
      refine lv_goto (tgt := 253) hx hb dX13_scan_71 (by decide) ?_
      exact ret S11_z _ _ _ _ (Option.some.inj h) hM hS dX13_scan_253
  have B0 : ∀ (n : Nat), ∀ (S : SS) (H : Heap) (locs : List Loc) (ls : Array Slot), rng S → mS D b s 220 (jM b kc T S) H locs → lv_has ls 2 [(0, .ref (b + 192))] → f_M_scan_0 n S = some Sr → W p l e (mR 2 0 0) s m args below meth c H locs 0 0 Q (F0 m 0 ls []) := by
    intro n
    induction n with
    | zero => intro S H locs ls hS hM hl h; exact absurd (h : none = some _) (fun q => nomatch q)
    | succ n hkf0_ =>
      intro S H locs ls hS hM hl h
      have h : f_M_scan_0_b (f_M_scan_0 n) S = some Sr := h
      unfold f_M_scan_0_b at h
      refine lv_aload_n hx hb dX13_scan_0 rfl (lv_at hl 0 rfl) ?_
      refine g_get fl_X13_31_X13 C hM (i := 192) (r := 192) (by omega) (e_192 b kc T S) rfl hS dX13_scan_1 (fun z1_z bz1_z => ?_)
      refine lv_aload_n hx hb dX13_scan_4 rfl (lv_at hl 0 rfl) ?_
      refine g_get fl_X13_14_X13 C hM (i := 192) (r := 192) (by omega) (e_192 b kc T S) rfl hS dX13_scan_5 (fun z2_z bz2_z => ?_)
      refine g_icmp_ge (tgt := 38) hx hb bz1_z bz2_z h dX13_scan_8 (by decide) (fun h => ?_) (fun h => ?_)
      · exact B38 S _ _ _ hS hM (lv_sub hl [0] rfl) h
      · refine lv_aload_n hx hb dX13_scan_11 rfl (lv_at hl 0 rfl) ?_
        refine lv_aload_n hx hb dX13_scan_12 rfl (lv_at hl 0 rfl) ?_
        refine g_get fl_X13_31_X13 C hM (i := 192) (r := 192) (by omega) (e_192 b kc T S) rfl hS dX13_scan_13 (fun z3_z bz3_z => ?_)
        obtain ⟨r4_z, cr4_z, h⟩ := w_b1E h
        refine g_callI (J := jM b kc T) (m_runV calV_X13_byteAt wd_1236 (g_M_byteAt l D kc b T S z3_z (gi S 192 11) bz3_z hS cr4_z) C hM (i := 192) (by omega) (e_192 b kc T S) rfl hl.1 rfl rfl (Nat.le_of_ble_eq_true rfl) dX13_scan_16 ⟨Nat.le_of_ble_eq_true rfl, Nat.le_of_ble_eq_true rfl⟩ ⟨Nat.le_of_ble_eq_true rfl, Nat.le_of_ble_eq_true rfl⟩) hM (fun z5_z H locs bz5_z hM hS => ?_)
        refine g_callI (J := jM b kc T) (m_runS calS_X13_isBlank wd_1240 (g_M_isBlank l D kc b T S z5_z r4_z bz5_z hS rfl) C hM hl.1 rfl rfl (Nat.le_of_ble_eq_true rfl) dX13_scan_19 ⟨Nat.le_of_ble_eq_true rfl, Nat.le_of_ble_eq_true rfl⟩ ⟨Nat.le_of_ble_eq_true rfl, Nat.le_of_ble_eq_true rfl⟩) hM (fun z6_z H locs bz6_z hM hS => ?_)
        refine g_if_eq (tgt := 38) hx hb bz6_z h dX13_scan_22 (by decide) (fun h => ?_) (fun h => ?_)
        · exact B38 S _ _ _ hS hM (lv_sub hl [0] rfl) h
        · refine lv_aload_n hx hb dX13_scan_25 rfl (lv_at hl 0 rfl) ?_
          refine lv_dup hx hb dX13_scan_26 rfl ?_
          refine g_get fl_X13_31_X13 C hM (i := 192) (r := 192) (by omega) (e_192 b kc T S) rfl hS dX13_scan_27 (fun z7_z bz7_z => ?_)
          refine lv_iconst (v := 1) hx hb dX13_scan_30 (by decide) ?_
          refine g_iadd hx hb bz7_z (show (1 : Int32).toInt = 1 by decide) h dX13_scan_31 (fun z8_z bz8_z h => ?_)
          refine g_put fl_X13_31_X13 C hM (i := 192) (by omega) (e_192 b kc T S) rfl rfl (Nat.le_of_ble_eq_true rfl) (fs1 := [.ref (b + 193), .ref (b + 194), .ref (b + 195), .int (oi (gi S 192 3)), .int (oi (gi S 192 4)), .int (oi (gi S 192 5)), .ref (b + 196), .ref (b + 197), .int (oi (gi S 192 8)), .int (oi (gi S 192 9)), .int (oi (gi S 192 10)), .int z8_z, .int (oi (gi S 192 12)), .int (oi (gi S 192 13)), .int (oi (gi S 192 14)), .int (oi (gi S 192 15)), .ref (b + 198), .ref (b + 199), .ref (b + 200), .ref (b + 201), .ref (b + 202), .ref (b + 203), .ref (b + 204), .ref (b + 205), .ref (b + 206), .ref (b + 207), .ref (b + 208), .int (oi (gi S 192 27)), .ref (b + 209), .ref (b + 210), .ref (b + 211), .ref (b + 212), .ref (b + 213), .ref (b + 214), .ref (b + 215), .int (oi (gi S 192 35)), .int (oi (gi S 192 36)), .int (oi (gi S 192 37)), .int (oi (gi S 192 38)), .ref (b + 216), .ref (b + 217), .ref (b + 218), .ref (b + 219)]) rfl (p_192_11 bz8_z) (rng_si hS (i32_of bz8_z)) h dX13_scan_32 (fun S9_z H locs h hM hS => ?_)
          refine lv_goto (tgt := 0) hx hb dX13_scan_35 (by decide) ?_
          exact hkf0_ S9_z _ _ _ hS hM (lv_sub hl [0] rfl) h
  exact B0 FU S _ _ _ hS hM (lv_sub hl [0] rfl) h

def f_M_is_76 (S : SS) (i1 : Nat) (kf40_ : Int → Int → Option Int) (v3_ : Int) (vt0_ : Int) : Option Int := w_chk (i32 (v3_ + 1)) (kf40_ vt0_ (v3_ + 1))
def f_M_is_40_b (S : SS) (i1 : Nat) (kf40_ : Int → Int → Option Int) (v2_ : Int) (v3_ : Int) : Option Int := (if f_length S i1 ≤ v3_ then w_chk (v2_ = 0 ∨ v2_ = 1) (some v2_) else (if v2_ = 0 then w_chk (v2_ = 0 ∨ v2_ = 1) (some v2_) else w_chk (i32 ((gi S 192 10) + v3_)) (w_chk (0 ≤ ((gi S 192 10) + v3_) ∧ ((gi S 192 10) + v3_) < 2000) (w_b1 (f_charAt S i1 v3_) (fun r7_z => (if gi S 197 ((gi S 192 10) + v3_).toNat = r7_z then f_M_is_76 S i1 kf40_ v3_ 1 else f_M_is_76 S i1 kf40_ v3_ 0))))))
def f_M_is_40 (S : SS) (i1 : Nat) : Nat → Int → Int → Option Int
  | 0 => fun _ _ => none
  | n + 1 => f_M_is_40_b S i1 (f_M_is_40 S i1 n)
def f_M_is_37 (S : SS) (i1 : Nat) (vt0_ : Int) : Option Int := f_M_is_40 S i1 FU vt0_ 0
def f_M_is_36 (S : SS) (i1 : Nat) : Option Int := f_M_is_37 S i1 0
def f_M_is_16 (S : SS) (i1 : Nat) : Option Int := w_chk (i32 ((gi S 192 11) - (gi S 192 10))) ((if (gi S 192 11) - (gi S 192 10) = f_length S i1 then f_M_is_37 S i1 1 else f_M_is_36 S i1 ))
def f_M_is (S : SS) (i1 : Nat) : Option Int := (if gi S 192 12 = 1 then f_M_is_16 S i1  else (if gi S 192 12 = 3 then f_M_is_16 S i1  else f_M_is_36 S i1 ))
set_option maxHeartbeats 4000000 in
set_option maxRecDepth 100000 in
theorem g_M_is (l : Launch) (D : va_G) (kc : Nat → ClassId) (b : Nat) (T S : SS) (i1 : Nat) (hi1 : i1 < 13) (hS : rng S) {vr : Int} (h : f_M_is S i1 = some vr) : cI l yX13_is cX13_is 4 .boolean 5 D kc b (jM b kc T) S [.ref (b + 192), .ref (kc (100 + i1))] vr S := by
  refine g_beg_z (by decide) (Nat.le_of_ble_eq_true rfl) ?_
  intro p e s m args below meth c Q C ret hM ls hl
  obtain ⟨hx, hb, hml, hown, hts, hE, hbs⟩ := id C
  have hl : lv_has ls 4 [(0, .ref (b + 192)), (1, .ref (kc (100 + i1)))] := hl
  unfold f_M_is at h
  have B76 : ∀ (kf40_ : Int → Int → Option Int) (hkf40_ : ∀ (H : Heap) (locs : List Loc) (ls : Array Slot) (x2_ : Int32) (v2_ : Int) (hx2_ : x2_.toInt = v2_) (x3_ : Int32) (v3_ : Int) (hx3_ : x3_.toInt = v3_), rng S → mS D b s 220 (jM b kc T S) H locs → lv_has ls 4 [(0, .ref (b + 192)), (1, .ref (kc (100 + i1))), (2, .int x2_), (3, .int x3_)] → kf40_ v2_ v3_ = some vr → W p l e (mR 5 0 0) s m args below meth c H locs 0 0 Q (F0 m 40 ls [])), ∀ (H : Heap) (locs : List Loc) (ls : Array Slot) (x3_ : Int32) (v3_ : Int) (hx3_ : x3_.toInt = v3_) (xt0_ : Int32) (vt0_ : Int) (hxt0_ : xt0_.toInt = vt0_), rng S → mS D b s 220 (jM b kc T S) H locs → lv_has ls 4 [(0, .ref (b + 192)), (1, .ref (kc (100 + i1))), (3, .int x3_)] → f_M_is_76 S i1 kf40_ v3_ vt0_ = some vr → W p l e (mR 5 0 0) s m args below meth c H locs 0 0 Q (F0 m 76 ls [.int xt0_]) := by
    intro kf40_ hkf40_ H locs ls x3_ v3_ hx3_ xt0_ vt0_ hxt0_ hS hM hl h
    unfold f_M_is_76 at h
    refine lv_istore_n (lv' := [(2, .int xt0_), (0, .ref (b + 192)), (1, .ref (kc (100 + i1))), (3, .int x3_)]) hx hb dX13_is_76 rfl hl (by decide) rfl (fun ls hl => ?_)
    refine g_iinc (y := 1) hx hb hx3_ (by decide) (by decide) h dX13_is_77 hl (k := 3) rfl (by decide) (fun z1_z ls bz1_z h hl => ?_)
    have hl : lv_has ls 4 [(3, .int z1_z), (2, .int xt0_), (0, .ref (b + 192)), (1, .ref (kc (100 + i1)))] := hl
    refine lv_goto (tgt := 40) hx hb dX13_is_80 (by decide) ?_
    exact hkf40_ _ _ _ xt0_ vt0_ hxt0_ z1_z (v3_ + 1) bz1_z hS hM (lv_sub hl [2, 3, 1, 0] rfl) h
  have B40 : ∀ (n : Nat), ∀ (H : Heap) (locs : List Loc) (ls : Array Slot) (x2_ : Int32) (v2_ : Int) (hx2_ : x2_.toInt = v2_) (x3_ : Int32) (v3_ : Int) (hx3_ : x3_.toInt = v3_), rng S → mS D b s 220 (jM b kc T S) H locs → lv_has ls 4 [(0, .ref (b + 192)), (1, .ref (kc (100 + i1))), (2, .int x2_), (3, .int x3_)] → f_M_is_40 S i1 n v2_ v3_ = some vr → W p l e (mR 5 0 0) s m args below meth c H locs 0 0 Q (F0 m 40 ls []) := by
    intro n
    induction n with
    | zero => intro H locs ls x2_ v2_ hx2_ x3_ v3_ hx3_ hS hM hl h; exact absurd (h : none = some _) (fun q => nomatch q)
    | succ n hkf40_ =>
      intro H locs ls x2_ v2_ hx2_ x3_ v3_ hx3_ hS hM hl h
      have h : f_M_is_40_b S i1 (f_M_is_40 S i1 n) v2_ v3_ = some vr := h
      unfold f_M_is_40_b at h
      refine lv_iload_n hx hb dX13_is_40 rfl (lv_at hl 3 rfl) ?_
      refine lv_aload_n hx hb dX13_is_41 rfl (lv_at hl 1 rfl) ?_
      refine g_callI (J := jM b kc T) (m_runVK calV_J0_length_8abf5 wd_1277 (g_length l D kc b (jM b kc T) S i1 hi1 hS rfl) C hM (st_O C hi1) hl.1 rfl rfl (Nat.le_of_ble_eq_true rfl) dX13_is_42 ⟨Nat.le_of_ble_eq_true rfl, Nat.le_of_ble_eq_true rfl⟩ ⟨Nat.le_of_ble_eq_true rfl, Nat.le_of_ble_eq_true rfl⟩) hM (fun z1_z H locs bz1_z hM hS => ?_)
      refine g_icmp_ge (tgt := 83) hx hb hx3_ bz1_z h dX13_is_45 (by decide) (fun h => ?_) (fun h => ?_)
      · refine lv_iload_n hx hb dX13_is_83 rfl (lv_at hl 2 rfl) ?_
        obtain ⟨c2_z, h⟩ := w_chkE h
        exact ret S _ _ _ _ x2_ (hx2_.trans (Option.some.inj h)) (by rw [← (Option.some.inj h)]; exact c2_z) rfl hM hS dX13_is_84
      · refine lv_iload_n hx hb dX13_is_48 rfl (lv_at hl 2 rfl) ?_
        refine g_if_eq (tgt := 83) hx hb hx2_ h dX13_is_49 (by decide) (fun h => ?_) (fun h => ?_)
        · refine lv_iload_n hx hb dX13_is_83 rfl (lv_at hl 2 rfl) ?_
          obtain ⟨c3_z, h⟩ := w_chkE h
          exact ret S _ _ _ _ x2_ (hx2_.trans (Option.some.inj h)) (by rw [← (Option.some.inj h)]; exact c3_z) rfl hM hS dX13_is_84
        · refine lv_aload_n hx hb dX13_is_52 rfl (lv_at hl 0 rfl) ?_
          refine m_get fl_X13_17_X13 C hM (i := 192) (by omega) (e_192 b kc T S) (v := .ref (b + 197)) rfl dX13_is_53 ?_
          refine lv_aload_n hx hb dX13_is_56 rfl (lv_at hl 0 rfl) ?_
          refine g_get fl_X13_159_X13 C hM (i := 192) (r := 192) (by omega) (e_192 b kc T S) rfl hS dX13_is_57 (fun z4_z bz4_z => ?_)
          refine lv_iload_n hx hb dX13_is_60 rfl (lv_at hl 3 rfl) ?_
          refine g_iadd hx hb bz4_z hx3_ h dX13_is_61 (fun z5_z bz5_z h => ?_)
          refine g_bald C hM (j := 197) (by omega) (jK_M b kc T (by omega)) (a_197 b kc) hS bz5_z (B := 2000) rfl h dX13_is_62 (fun z6_z bz6_z h => ?_)
          refine lv_aload_n hx hb dX13_is_63 rfl (lv_at hl 1 rfl) ?_
          refine lv_iload_n hx hb dX13_is_64 rfl (lv_at hl 3 rfl) ?_
          obtain ⟨r7_z, cr7_z, h⟩ := w_b1E h
          refine g_callI (J := jM b kc T) (m_runVK calV_J0_charAt_5068e wd_1278 (g_charAt l D kc b (jM b kc T) S i1 hi1 x3_ v3_ hx3_ hS cr7_z) C hM (st_O C hi1) hl.1 rfl rfl (Nat.le_of_ble_eq_true rfl) dX13_is_65 ⟨Nat.le_of_ble_eq_true rfl, Nat.le_of_ble_eq_true rfl⟩ ⟨Nat.le_of_ble_eq_true rfl, Nat.le_of_ble_eq_true rfl⟩) hM (fun z8_z H locs bz8_z hM hS => ?_)
          refine g_icmp_ne (tgt := 75) hx hb bz6_z bz8_z h dX13_is_68 (by decide) (fun h => ?_) (fun h => ?_)
          · refine lv_iconst (v := 0) hx hb dX13_is_75 (by decide) ?_
            exact B76 (f_M_is_40 S i1 n) hkf40_ _ _ _ x3_ v3_ hx3_ 0 0 (show (0 : Int32).toInt = 0 by decide) hS hM (lv_sub hl [0, 1, 3] rfl) h
          · refine lv_iconst (v := 1) hx hb dX13_is_71 (by decide) ?_
            refine lv_goto (tgt := 76) hx hb dX13_is_72 (by decide) ?_
            exact B76 (f_M_is_40 S i1 n) hkf40_ _ _ _ x3_ v3_ hx3_ 1 1 (show (1 : Int32).toInt = 1 by decide) hS hM (lv_sub hl [0, 1, 3] rfl) h
  have B37 : ∀ (H : Heap) (locs : List Loc) (ls : Array Slot) (xt0_ : Int32) (vt0_ : Int) (hxt0_ : xt0_.toInt = vt0_), rng S → mS D b s 220 (jM b kc T S) H locs → lv_has ls 4 [(0, .ref (b + 192)), (1, .ref (kc (100 + i1)))] → f_M_is_37 S i1 vt0_ = some vr → W p l e (mR 5 0 0) s m args below meth c H locs 0 0 Q (F0 m 37 ls [.int xt0_]) := by
    intro H locs ls xt0_ vt0_ hxt0_ hS hM hl h
    unfold f_M_is_37 at h
    refine lv_istore_n (lv' := [(2, .int xt0_), (0, .ref (b + 192)), (1, .ref (kc (100 + i1)))]) hx hb dX13_is_37 rfl hl (by decide) rfl (fun ls hl => ?_)
    refine lv_iconst (v := 0) hx hb dX13_is_38 (by decide) ?_
    refine lv_istore_n (lv' := [(3, .int 0), (2, .int xt0_), (0, .ref (b + 192)), (1, .ref (kc (100 + i1)))]) hx hb dX13_is_39 rfl hl (by decide) rfl (fun ls hl => ?_)
    exact B40 FU _ _ _ xt0_ vt0_ hxt0_ 0 0 (show (0 : Int32).toInt = 0 by decide) hS hM (lv_sub hl [2, 3, 1, 0] rfl) h
  have B36 : ∀ (H : Heap) (locs : List Loc) (ls : Array Slot), rng S → mS D b s 220 (jM b kc T S) H locs → lv_has ls 4 [(0, .ref (b + 192)), (1, .ref (kc (100 + i1)))] → f_M_is_36 S i1 = some vr → W p l e (mR 5 0 0) s m args below meth c H locs 0 0 Q (F0 m 36 ls []) := by
    intro H locs ls hS hM hl h
    unfold f_M_is_36 at h
    refine lv_iconst (v := 0) hx hb dX13_is_36 (by decide) ?_
    exact B37 _ _ _ 0 0 (show (0 : Int32).toInt = 0 by decide) hS hM (lv_sub hl [0, 1] rfl) h
  have B16 : ∀ (H : Heap) (locs : List Loc) (ls : Array Slot), rng S → mS D b s 220 (jM b kc T S) H locs → lv_has ls 4 [(0, .ref (b + 192)), (1, .ref (kc (100 + i1)))] → f_M_is_16 S i1 = some vr → W p l e (mR 5 0 0) s m args below meth c H locs 0 0 Q (F0 m 16 ls []) := by
    intro H locs ls hS hM hl h
    unfold f_M_is_16 at h
    refine lv_aload_n hx hb dX13_is_16 rfl (lv_at hl 0 rfl) ?_
    refine g_get fl_X13_31_X13 C hM (i := 192) (r := 192) (by omega) (e_192 b kc T S) rfl hS dX13_is_17 (fun z1_z bz1_z => ?_)
    refine lv_aload_n hx hb dX13_is_20 rfl (lv_at hl 0 rfl) ?_
    refine g_get fl_X13_159_X13 C hM (i := 192) (r := 192) (by omega) (e_192 b kc T S) rfl hS dX13_is_21 (fun z2_z bz2_z => ?_)
    refine g_isub hx hb bz1_z bz2_z h dX13_is_24 (fun z3_z bz3_z h => ?_)
    refine lv_aload_n hx hb dX13_is_25 rfl (lv_at hl 1 rfl) ?_
    refine g_callI (J := jM b kc T) (m_runVK calV_J0_length_8abf5 wd_1277 (g_length l D kc b (jM b kc T) S i1 hi1 hS rfl) C hM (st_O C hi1) hl.1 rfl rfl (Nat.le_of_ble_eq_true rfl) dX13_is_26 ⟨Nat.le_of_ble_eq_true rfl, Nat.le_of_ble_eq_true rfl⟩ ⟨Nat.le_of_ble_eq_true rfl, Nat.le_of_ble_eq_true rfl⟩) hM (fun z4_z H locs bz4_z hM hS => ?_)
    refine g_icmp_ne (tgt := 36) hx hb bz3_z bz4_z h dX13_is_29 (by decide) (fun h => ?_) (fun h => ?_)
    · exact B36 _ _ _ hS hM (lv_sub hl [0, 1] rfl) h
    · refine lv_iconst (v := 1) hx hb dX13_is_32 (by decide) ?_
      refine lv_goto (tgt := 37) hx hb dX13_is_33 (by decide) ?_
      exact B37 _ _ _ 1 1 (show (1 : Int32).toInt = 1 by decide) hS hM (lv_sub hl [0, 1] rfl) h
  refine lv_aload_n hx hb dX13_is_0 rfl (lv_at hl 0 rfl) ?_
  refine g_get fl_X13_162_X13 C hM (i := 192) (r := 192) (by omega) (e_192 b kc T S) rfl hS dX13_is_1 (fun z1_z bz1_z => ?_)
  refine lv_iconst (v := 1) hx hb dX13_is_4 (by decide) ?_
  refine g_icmp_eq (tgt := 16) hx hb bz1_z (show (1 : Int32).toInt = 1 by decide) h dX13_is_5 (by decide) (fun h => ?_) (fun h => ?_)
  · exact B16 _ _ _ hS hM (lv_sub hl [0, 1] rfl) h
  · refine lv_aload_n hx hb dX13_is_8 rfl (lv_at hl 0 rfl) ?_
    refine g_get fl_X13_162_X13 C hM (i := 192) (r := 192) (by omega) (e_192 b kc T S) rfl hS dX13_is_9 (fun z2_z bz2_z => ?_)
    refine lv_iconst (v := 3) hx hb dX13_is_12 (by decide) ?_
    refine g_icmp_ne (tgt := 36) hx hb bz2_z (show (3 : Int32).toInt = 3 by decide) h dX13_is_13 (by decide) (fun h => ?_) (fun h => ?_)
    · exact B36 _ _ _ hS hM (lv_sub hl [0, 1] rfl) h
    · exact B16 _ _ _ hS hM (lv_sub hl [0, 1] rfl) h

def f_M_fault (S : SS) (v1 : Int) : Int := (if v1 = 0 then gi S 192 14 else (if v1 = 1 then gi S 192 15 else (-1)))
set_option maxHeartbeats 4000000 in
set_option maxRecDepth 100000 in
theorem g_M_fault (l : Launch) (D : va_G) (kc : Nat → ClassId) (b : Nat) (T S : SS) (x1 : Int32) (v1 : Int) (hx1 : x1.toInt = v1) (hS : rng S) {vr : Int} (h : f_M_fault S v1 = vr) : cI l yX13_fault cX13_fault 2 .int 1 D kc b (jM b kc T) S [.ref (b + 192), .int x1] vr S := by
  refine g_beg_i (by decide) (Nat.le_of_ble_eq_true rfl) ?_
  intro p e s m args below meth c Q C ret hM ls hl
  obtain ⟨hx, hb, hml, hown, hts, hE, hbs⟩ := id C
  have hl : lv_has ls 2 [(0, .ref (b + 192)), (1, .int x1)] := hl
  unfold f_M_fault at h
  refine lv_iload_n hx hb dX13_fault_0 rfl (lv_at hl 1 rfl) ?_
  refine g_if_ne (tgt := 11) hx hb hx1 h dX13_fault_1 (by decide) (fun h => ?_) (fun h => ?_)
  · refine lv_iload_n hx hb dX13_fault_11 rfl (lv_at hl 1 rfl) ?_
    refine lv_iconst (v := 1) hx hb dX13_fault_12 (by decide) ?_
    refine g_icmp_ne (tgt := 23) hx hb hx1 (show (1 : Int32).toInt = 1 by decide) h dX13_fault_13 (by decide) (fun h => ?_) (fun h => ?_)
    · refine lv_iconst (v := (-1)) hx hb dX13_fault_23 (by decide) ?_
      exact ret S _ _ _ _ (-1) ((show ((-1) : Int32).toInt = (-1) by decide).trans h) rfl hM hS dX13_fault_24
    · refine lv_aload_n hx hb dX13_fault_16 rfl (lv_at hl 0 rfl) ?_
      refine g_get fl_X13_7_X13 C hM (i := 192) (r := 192) (by omega) (e_192 b kc T S) rfl hS dX13_fault_17 (fun z1_z bz1_z => ?_)
      refine lv_goto (tgt := 24) hx hb dX13_fault_20 (by decide) ?_
      exact ret S _ _ _ _ z1_z (bz1_z.trans h) rfl hM hS dX13_fault_24
  · refine lv_aload_n hx hb dX13_fault_4 rfl (lv_at hl 0 rfl) ?_
    refine g_get fl_X13_1_X13 C hM (i := 192) (r := 192) (by omega) (e_192 b kc T S) rfl hS dX13_fault_5 (fun z2_z bz2_z => ?_)
    refine lv_goto (tgt := 24) hx hb dX13_fault_8 (by decide) ?_
    exact ret S _ _ _ _ z2_z (bz2_z.trans h) rfl hM hS dX13_fault_24

def f_M_isMark (S : SS) (v1 : Int) : Option Int := w_chk (i64 ((gi S 192 27) - 1)) (w_chk (f_M_in S v1 0 ((gi S 192 27) - 1) = 0 ∨ f_M_in S v1 0 ((gi S 192 27) - 1) = 1) (some (f_M_in S v1 0 ((gi S 192 27) - 1))))
set_option maxHeartbeats 4000000 in
set_option maxRecDepth 100000 in
theorem g_M_isMark (l : Launch) (D : va_G) (kc : Nat → ClassId) (b : Nat) (T S : SS) (x1 : Int32) (v1 : Int) (hx1 : x1.toInt = v1) (hS : rng S) {vr : Int} (h : f_M_isMark S v1 = some vr) : cI l yX13_isMark cX13_isMark 2 .boolean 2 D kc b (jM b kc T) S [.ref (b + 192), .int x1] vr S := by
  refine g_beg_z (by decide) (Nat.le_of_ble_eq_true rfl) ?_
  intro p e s m args below meth c Q C ret hM ls hl
  obtain ⟨hx, hb, hml, hown, hts, hE, hbs⟩ := id C
  have hl : lv_has ls 2 [(0, .ref (b + 192)), (1, .int x1)] := hl
  unfold f_M_isMark at h
  refine lv_iload_n hx hb dX13_isMark_0 rfl (lv_at hl 1 rfl) ?_
  refine g_i2l (a := v1) hx hb hx1 dX13_isMark_1 (fun c1_z => ?_)
  refine lv_lconst (v := 0) hx hb dX13_isMark_2 (by decide) ?_
  refine lv_aload_n hx hb dX13_isMark_3 rfl (lv_at hl 0 rfl) ?_
  refine g_get fl_X13_153_X13 C hM (i := 192) (r := 192) (by omega) (e_192 b kc T S) rfl hS dX13_isMark_4 (fun z2_z bz2_z => ?_)
  refine g_i2l (a := gi S 192 27) hx hb bz2_z dX13_isMark_7 (fun c3_z => ?_)
  refine lv_lconst (v := 1) hx hb dX13_isMark_8 (by decide) ?_
  obtain ⟨cz4_z, h⟩ := w_chkE h
  refine g_lsub hx hb c3_z (show (1 : Int64).toInt = 1 by decide) cz4_z.1 cz4_z.2 dX13_isMark_9 (fun z4_z bz4_z => ?_)
  refine g_callI (J := jM b kc T) (m_runS calS_X13_in wd_1221 (g_M_in l D kc b T S (i2l v1) v1 c1_z 0 0 (show (0 : Int64).toInt = 0 by decide) z4_z ((gi S 192 27) - 1) bz4_z hS rfl) C hM hl.1 rfl rfl (Nat.le_of_ble_eq_true rfl) dX13_isMark_10 ⟨Nat.le_of_ble_eq_true rfl, Nat.le_of_ble_eq_true rfl⟩ ⟨Nat.le_of_ble_eq_true rfl, Nat.le_of_ble_eq_true rfl⟩) hM (fun z5_z H locs bz5_z hM hS => ?_)
  obtain ⟨c6_z, h⟩ := w_chkE h
  exact ret S _ _ _ _ z5_z (bz5_z.trans (Option.some.inj h)) (by rw [← (Option.some.inj h)]; exact c6_z) rfl hM hS dX13_isMark_13

def f_M_hasRow (S : SS) (v1 : Int) : Option Int := w_chk (0 ≤ v1 ∧ v1 < 41) ((if gi S 199 (v1).toNat = 1 then some 0 else some 1))
set_option maxHeartbeats 4000000 in
set_option maxRecDepth 100000 in
theorem g_M_hasRow (l : Launch) (D : va_G) (kc : Nat → ClassId) (b : Nat) (T S : SS) (x1 : Int32) (v1 : Int) (hx1 : x1.toInt = v1) (hS : rng S) {vr : Int} (h : f_M_hasRow S v1 = some vr) : cI l yX13_hasRow cX13_hasRow 2 .boolean 1 D kc b (jM b kc T) S [.ref (b + 192), .int x1] vr S := by
  refine g_beg_z (by decide) (Nat.le_of_ble_eq_true rfl) ?_
  intro p e s m args below meth c Q C ret hM ls hl
  obtain ⟨hx, hb, hml, hown, hts, hE, hbs⟩ := id C
  have hl : lv_has ls 2 [(0, .ref (b + 192)), (1, .int x1)] := hl
  unfold f_M_hasRow at h
  refine lv_aload_n hx hb dX13_hasRow_0 rfl (lv_at hl 0 rfl) ?_
  refine m_get fl_X13_70_X13 C hM (i := 192) (by omega) (e_192 b kc T S) (v := .ref (b + 199)) rfl dX13_hasRow_1 ?_
  refine lv_iload_n hx hb dX13_hasRow_4 rfl (lv_at hl 1 rfl) ?_
  refine g_iald C hM (j := 199) (by omega) (jK_M b kc T (by omega)) (a_199 b kc) hS hx1 (B := 41) rfl h dX13_hasRow_5 (fun z1_z bz1_z h => ?_)
  refine lv_iconst (v := 1) hx hb dX13_hasRow_6 (by decide) ?_
  refine g_icmp_eq (tgt := 14) hx hb bz1_z (show (1 : Int32).toInt = 1 by decide) h dX13_hasRow_7 (by decide) (fun h => ?_) (fun h => ?_)
  · refine lv_iconst (v := 0) hx hb dX13_hasRow_14 (by decide) ?_
    exact ret S _ _ _ _ 0 ((show (0 : Int32).toInt = 0 by decide).trans (Option.some.inj h)) (by rw [← (Option.some.inj h)]; exact (by decide)) rfl hM hS dX13_hasRow_15
  · refine lv_iconst (v := 1) hx hb dX13_hasRow_10 (by decide) ?_
    refine lv_goto (tgt := 15) hx hb dX13_hasRow_11 (by decide) ?_
    exact ret S _ _ _ _ 1 ((show (1 : Int32).toInt = 1 by decide).trans (Option.some.inj h)) (by rw [← (Option.some.inj h)]; exact (by decide)) rfl hM hS dX13_hasRow_15

def f_M_rowEnd (S : SS) (v1 : Int) : Option Int := w_chk (0 ≤ v1 ∧ v1 < 41) ((if gi S 199 (v1).toNat = 3 then w_chk (0 ≤ v1 ∧ v1 < 41) (some (gi S 203 (v1).toNat)) else w_chk (0 ≤ v1 ∧ v1 < 41) (some (gi S 202 (v1).toNat))))
set_option maxHeartbeats 4000000 in
set_option maxRecDepth 100000 in
theorem g_M_rowEnd (l : Launch) (D : va_G) (kc : Nat → ClassId) (b : Nat) (T S : SS) (x1 : Int32) (v1 : Int) (hx1 : x1.toInt = v1) (hS : rng S) {vr : Int} (h : f_M_rowEnd S v1 = some vr) : cI l yX13_rowEnd cX13_rowEnd 2 .int 1 D kc b (jM b kc T) S [.ref (b + 192), .int x1] vr S := by
  refine g_beg_i (by decide) (Nat.le_of_ble_eq_true rfl) ?_
  intro p e s m args below meth c Q C ret hM ls hl
  obtain ⟨hx, hb, hml, hown, hts, hE, hbs⟩ := id C
  have hl : lv_has ls 2 [(0, .ref (b + 192)), (1, .int x1)] := hl
  unfold f_M_rowEnd at h
  refine lv_aload_n hx hb dX13_rowEnd_0 rfl (lv_at hl 0 rfl) ?_
  refine m_get fl_X13_70_X13 C hM (i := 192) (by omega) (e_192 b kc T S) (v := .ref (b + 199)) rfl dX13_rowEnd_1 ?_
  refine lv_iload_n hx hb dX13_rowEnd_4 rfl (lv_at hl 1 rfl) ?_
  refine g_iald C hM (j := 199) (by omega) (jK_M b kc T (by omega)) (a_199 b kc) hS hx1 (B := 41) rfl h dX13_rowEnd_5 (fun z1_z bz1_z h => ?_)
  refine lv_iconst (v := 3) hx hb dX13_rowEnd_6 (by decide) ?_
  refine g_icmp_ne (tgt := 19) hx hb bz1_z (show (3 : Int32).toInt = 3 by decide) h dX13_rowEnd_7 (by decide) (fun h => ?_) (fun h => ?_)
  · refine lv_aload_n hx hb dX13_rowEnd_19 rfl (lv_at hl 0 rfl) ?_
    refine m_get fl_X13_80_X13 C hM (i := 192) (by omega) (e_192 b kc T S) (v := .ref (b + 202)) rfl dX13_rowEnd_20 ?_
    refine lv_iload_n hx hb dX13_rowEnd_23 rfl (lv_at hl 1 rfl) ?_
    refine g_iald C hM (j := 202) (by omega) (jK_M b kc T (by omega)) (a_202 b kc) hS hx1 (B := 41) rfl h dX13_rowEnd_24 (fun z2_z bz2_z h => ?_)
    exact ret S _ _ _ _ z2_z (bz2_z.trans (Option.some.inj h)) rfl hM hS dX13_rowEnd_25
  · refine lv_aload_n hx hb dX13_rowEnd_10 rfl (lv_at hl 0 rfl) ?_
    refine m_get fl_X13_83_X13 C hM (i := 192) (by omega) (e_192 b kc T S) (v := .ref (b + 203)) rfl dX13_rowEnd_11 ?_
    refine lv_iload_n hx hb dX13_rowEnd_14 rfl (lv_at hl 1 rfl) ?_
    refine g_iald C hM (j := 203) (by omega) (jK_M b kc T (by omega)) (a_203 b kc) hS hx1 (B := 41) rfl h dX13_rowEnd_15 (fun z3_z bz3_z h => ?_)
    refine lv_goto (tgt := 25) hx hb dX13_rowEnd_16 (by decide) ?_
    exact ret S _ _ _ _ z3_z (bz3_z.trans (Option.some.inj h)) rfl hM hS dX13_rowEnd_25

def f_M_gapOf (S : SS) (v1 : Int) : Option Int := w_chk (0 ≤ v1 ∧ v1 < 41) ((if gi S 199 (v1).toNat = 1 then w_chk (0 ≤ v1 ∧ v1 < 41) (some (gi S 201 (v1).toNat)) else w_chk (0 ≤ v1 ∧ v1 < 41) ((if gi S 199 (v1).toNat = 4 then w_chk (0 ≤ v1 ∧ v1 < 41) (some (gi S 203 (v1).toNat)) else some (-1)))))
set_option maxHeartbeats 4000000 in
set_option maxRecDepth 100000 in
theorem g_M_gapOf (l : Launch) (D : va_G) (kc : Nat → ClassId) (b : Nat) (T S : SS) (x1 : Int32) (v1 : Int) (hx1 : x1.toInt = v1) (hS : rng S) {vr : Int} (h : f_M_gapOf S v1 = some vr) : cI l yX13_gapOf cX13_gapOf 2 .int 1 D kc b (jM b kc T) S [.ref (b + 192), .int x1] vr S := by
  refine g_beg_i (by decide) (Nat.le_of_ble_eq_true rfl) ?_
  intro p e s m args below meth c Q C ret hM ls hl
  obtain ⟨hx, hb, hml, hown, hts, hE, hbs⟩ := id C
  have hl : lv_has ls 2 [(0, .ref (b + 192)), (1, .int x1)] := hl
  unfold f_M_gapOf at h
  refine lv_aload_n hx hb dX13_gapOf_0 rfl (lv_at hl 0 rfl) ?_
  refine m_get fl_X13_70_X13 C hM (i := 192) (by omega) (e_192 b kc T S) (v := .ref (b + 199)) rfl dX13_gapOf_1 ?_
  refine lv_iload_n hx hb dX13_gapOf_4 rfl (lv_at hl 1 rfl) ?_
  refine g_iald C hM (j := 199) (by omega) (jK_M b kc T (by omega)) (a_199 b kc) hS hx1 (B := 41) rfl h dX13_gapOf_5 (fun z1_z bz1_z h => ?_)
  refine lv_iconst (v := 1) hx hb dX13_gapOf_6 (by decide) ?_
  refine g_icmp_ne (tgt := 19) hx hb bz1_z (show (1 : Int32).toInt = 1 by decide) h dX13_gapOf_7 (by decide) (fun h => ?_) (fun h => ?_)
  · refine lv_aload_n hx hb dX13_gapOf_19 rfl (lv_at hl 0 rfl) ?_
    refine m_get fl_X13_70_X13 C hM (i := 192) (by omega) (e_192 b kc T S) (v := .ref (b + 199)) rfl dX13_gapOf_20 ?_
    refine lv_iload_n hx hb dX13_gapOf_23 rfl (lv_at hl 1 rfl) ?_
    refine g_iald C hM (j := 199) (by omega) (jK_M b kc T (by omega)) (a_199 b kc) hS hx1 (B := 41) rfl h dX13_gapOf_24 (fun z2_z bz2_z h => ?_)
    refine lv_iconst (v := 4) hx hb dX13_gapOf_25 (by decide) ?_
    refine g_icmp_ne (tgt := 38) hx hb bz2_z (show (4 : Int32).toInt = 4 by decide) h dX13_gapOf_26 (by decide) (fun h => ?_) (fun h => ?_)
    · refine lv_iconst (v := (-1)) hx hb dX13_gapOf_38 (by decide) ?_
      exact ret S _ _ _ _ (-1) ((show ((-1) : Int32).toInt = (-1) by decide).trans (Option.some.inj h)) rfl hM hS dX13_gapOf_39
    · refine lv_aload_n hx hb dX13_gapOf_29 rfl (lv_at hl 0 rfl) ?_
      refine m_get fl_X13_83_X13 C hM (i := 192) (by omega) (e_192 b kc T S) (v := .ref (b + 203)) rfl dX13_gapOf_30 ?_
      refine lv_iload_n hx hb dX13_gapOf_33 rfl (lv_at hl 1 rfl) ?_
      refine g_iald C hM (j := 203) (by omega) (jK_M b kc T (by omega)) (a_203 b kc) hS hx1 (B := 41) rfl h dX13_gapOf_34 (fun z3_z bz3_z h => ?_)
      refine lv_goto (tgt := 39) hx hb dX13_gapOf_35 (by decide) ?_
      exact ret S _ _ _ _ z3_z (bz3_z.trans (Option.some.inj h)) rfl hM hS dX13_gapOf_39
  · refine lv_aload_n hx hb dX13_gapOf_10 rfl (lv_at hl 0 rfl) ?_
    refine m_get fl_X13_77_X13 C hM (i := 192) (by omega) (e_192 b kc T S) (v := .ref (b + 201)) rfl dX13_gapOf_11 ?_
    refine lv_iload_n hx hb dX13_gapOf_14 rfl (lv_at hl 1 rfl) ?_
    refine g_iald C hM (j := 201) (by omega) (jK_M b kc T (by omega)) (a_201 b kc) hS hx1 (B := 41) rfl h dX13_gapOf_15 (fun z4_z bz4_z h => ?_)
    refine lv_goto (tgt := 39) hx hb dX13_gapOf_16 (by decide) ?_
    exact ret S _ _ _ _ z4_z (bz4_z.trans (Option.some.inj h)) rfl hM hS dX13_gapOf_39

def f_M_isInside_29 (S : SS) (v1 : Int) (v2 : Int) (v3 : Int) : Option Int := w_b1 (f_M_gapOf S v1) (fun r1_z => (if r1_z = (-1) then some 1 else w_b1 (f_M_gapOf S v1) (fun r3_z => (if r3_z ≤ v2 then some 0 else w_b1 (f_M_gapOf S v1) (fun r5_z => (if v3 < r5_z then some 0 else some 1))))))
def f_M_isInside (S : SS) (v1 : Int) (v2 : Int) (v3 : Int) : Option Int := w_b1 (f_M_hasRow S v1) (fun r1_z => (if r1_z = 0 then f_M_isInside_29 S v1 v2 v3  else w_chk (0 ≤ v1 ∧ v1 < 41) ((if gi S 201 (v1).toNat < v2 then some 0 else w_b1 (f_M_rowEnd S v1) (fun r4_z => (if r4_z ≤ v3 then f_M_isInside_29 S v1 v2 v3  else some 0))))))
set_option maxHeartbeats 4000000 in
set_option maxRecDepth 100000 in
theorem g_M_isInside (l : Launch) (D : va_G) (kc : Nat → ClassId) (b : Nat) (T S : SS) (x1 : Int32) (v1 : Int) (hx1 : x1.toInt = v1) (x2 : Int32) (v2 : Int) (hx2 : x2.toInt = v2) (x3 : Int32) (v3 : Int) (hx3 : x3.toInt = v3) (hS : rng S) {vr : Int} (h : f_M_isInside S v1 v2 v3 = some vr) : cI l yX13_isInside cX13_isInside 4 .boolean 2 D kc b (jM b kc T) S [.ref (b + 192), .int x1, .int x2, .int x3] vr S := by
  refine g_beg_z (by decide) (Nat.le_of_ble_eq_true rfl) ?_
  intro p e s m args below meth c Q C ret hM ls hl
  obtain ⟨hx, hb, hml, hown, hts, hE, hbs⟩ := id C
  have hl : lv_has ls 4 [(0, .ref (b + 192)), (1, .int x1), (2, .int x2), (3, .int x3)] := hl
  unfold f_M_isInside at h
  have B29 : ∀ (H : Heap) (locs : List Loc) (ls : Array Slot), rng S → mS D b s 220 (jM b kc T S) H locs → lv_has ls 4 [(0, .ref (b + 192)), (1, .int x1), (2, .int x2), (3, .int x3)] → f_M_isInside_29 S v1 v2 v3 = some vr → W p l e (mR 2 0 0) s m args below meth c H locs 0 0 Q (F0 m 29 ls []) := by
    intro H locs ls hS hM hl h
    unfold f_M_isInside_29 at h
    refine lv_aload_n hx hb dX13_isInside_29 rfl (lv_at hl 0 rfl) ?_
    refine lv_iload_n hx hb dX13_isInside_30 rfl (lv_at hl 1 rfl) ?_
    obtain ⟨r1_z, cr1_z, h⟩ := w_b1E h
    refine g_callI (J := jM b kc T) (m_runV calV_X13_gapOf wd_1334 (g_M_gapOf l D kc b T S x1 v1 hx1 hS cr1_z) C hM (i := 192) (by omega) (e_192 b kc T S) rfl hl.1 rfl rfl (Nat.le_of_ble_eq_true rfl) dX13_isInside_31 ⟨Nat.le_of_ble_eq_true rfl, Nat.le_of_ble_eq_true rfl⟩ ⟨Nat.le_of_ble_eq_true rfl, Nat.le_of_ble_eq_true rfl⟩) hM (fun z2_z H locs bz2_z hM hS => ?_)
    refine lv_iconst (v := (-1)) hx hb dX13_isInside_34 (by decide) ?_
    refine g_icmp_eq (tgt := 56) hx hb bz2_z (show ((-1) : Int32).toInt = (-1) by decide) h dX13_isInside_35 (by decide) (fun h => ?_) (fun h => ?_)
    · refine lv_iconst (v := 1) hx hb dX13_isInside_56 (by decide) ?_
      refine lv_goto (tgt := 61) hx hb dX13_isInside_57 (by decide) ?_
      exact ret S _ _ _ _ 1 ((show (1 : Int32).toInt = 1 by decide).trans (Option.some.inj h)) (by rw [← (Option.some.inj h)]; exact (by decide)) rfl hM hS dX13_isInside_61
    · refine lv_aload_n hx hb dX13_isInside_38 rfl (lv_at hl 0 rfl) ?_
      refine lv_iload_n hx hb dX13_isInside_39 rfl (lv_at hl 1 rfl) ?_
      obtain ⟨r3_z, cr3_z, h⟩ := w_b1E h
      refine g_callI (J := jM b kc T) (m_runV calV_X13_gapOf wd_1334 (g_M_gapOf l D kc b T S x1 v1 hx1 hS cr3_z) C hM (i := 192) (by omega) (e_192 b kc T S) rfl hl.1 rfl rfl (Nat.le_of_ble_eq_true rfl) dX13_isInside_40 ⟨Nat.le_of_ble_eq_true rfl, Nat.le_of_ble_eq_true rfl⟩ ⟨Nat.le_of_ble_eq_true rfl, Nat.le_of_ble_eq_true rfl⟩) hM (fun z4_z H locs bz4_z hM hS => ?_)
      refine lv_iload_n hx hb dX13_isInside_43 rfl (lv_at hl 2 rfl) ?_
      refine g_icmp_le (tgt := 60) hx hb bz4_z hx2 h dX13_isInside_44 (by decide) (fun h => ?_) (fun h => ?_)
      · refine lv_iconst (v := 0) hx hb dX13_isInside_60 (by decide) ?_
        exact ret S _ _ _ _ 0 ((show (0 : Int32).toInt = 0 by decide).trans (Option.some.inj h)) (by rw [← (Option.some.inj h)]; exact (by decide)) rfl hM hS dX13_isInside_61
      · refine lv_aload_n hx hb dX13_isInside_47 rfl (lv_at hl 0 rfl) ?_
        refine lv_iload_n hx hb dX13_isInside_48 rfl (lv_at hl 1 rfl) ?_
        obtain ⟨r5_z, cr5_z, h⟩ := w_b1E h
        refine g_callI (J := jM b kc T) (m_runV calV_X13_gapOf wd_1334 (g_M_gapOf l D kc b T S x1 v1 hx1 hS cr5_z) C hM (i := 192) (by omega) (e_192 b kc T S) rfl hl.1 rfl rfl (Nat.le_of_ble_eq_true rfl) dX13_isInside_49 ⟨Nat.le_of_ble_eq_true rfl, Nat.le_of_ble_eq_true rfl⟩ ⟨Nat.le_of_ble_eq_true rfl, Nat.le_of_ble_eq_true rfl⟩) hM (fun z6_z H locs bz6_z hM hS => ?_)
        refine lv_iload_n hx hb dX13_isInside_52 rfl (lv_at hl 3 rfl) ?_
        refine g_icmp_gt (tgt := 60) hx hb bz6_z hx3 h dX13_isInside_53 (by decide) (fun h => ?_) (fun h => ?_)
        · refine lv_iconst (v := 0) hx hb dX13_isInside_60 (by decide) ?_
          exact ret S _ _ _ _ 0 ((show (0 : Int32).toInt = 0 by decide).trans (Option.some.inj h)) (by rw [← (Option.some.inj h)]; exact (by decide)) rfl hM hS dX13_isInside_61
        · refine lv_iconst (v := 1) hx hb dX13_isInside_56 (by decide) ?_
          refine lv_goto (tgt := 61) hx hb dX13_isInside_57 (by decide) ?_
          exact ret S _ _ _ _ 1 ((show (1 : Int32).toInt = 1 by decide).trans (Option.some.inj h)) (by rw [← (Option.some.inj h)]; exact (by decide)) rfl hM hS dX13_isInside_61
  refine lv_aload_n hx hb dX13_isInside_0 rfl (lv_at hl 0 rfl) ?_
  refine lv_iload_n hx hb dX13_isInside_1 rfl (lv_at hl 1 rfl) ?_
  obtain ⟨r1_z, cr1_z, h⟩ := w_b1E h
  refine g_callI (J := jM b kc T) (m_runV calV_X13_hasRow wd_1326 (g_M_hasRow l D kc b T S x1 v1 hx1 hS cr1_z) C hM (i := 192) (by omega) (e_192 b kc T S) rfl hl.1 rfl rfl (Nat.le_of_ble_eq_true rfl) dX13_isInside_2 ⟨Nat.le_of_ble_eq_true rfl, Nat.le_of_ble_eq_true rfl⟩ ⟨Nat.le_of_ble_eq_true rfl, Nat.le_of_ble_eq_true rfl⟩) hM (fun z2_z H locs bz2_z hM hS => ?_)
  refine g_if_eq (tgt := 29) hx hb bz2_z h dX13_isInside_5 (by decide) (fun h => ?_) (fun h => ?_)
  · exact B29 _ _ _ hS hM (lv_sub hl [0, 1, 2, 3] rfl) h
  · refine lv_aload_n hx hb dX13_isInside_8 rfl (lv_at hl 0 rfl) ?_
    refine m_get fl_X13_77_X13 C hM (i := 192) (by omega) (e_192 b kc T S) (v := .ref (b + 201)) rfl dX13_isInside_9 ?_
    refine lv_iload_n hx hb dX13_isInside_12 rfl (lv_at hl 1 rfl) ?_
    refine g_iald C hM (j := 201) (by omega) (jK_M b kc T (by omega)) (a_201 b kc) hS hx1 (B := 41) rfl h dX13_isInside_13 (fun z3_z bz3_z h => ?_)
    refine lv_iload_n hx hb dX13_isInside_14 rfl (lv_at hl 2 rfl) ?_
    refine g_icmp_lt (tgt := 27) hx hb bz3_z hx2 h dX13_isInside_15 (by decide) (fun h => ?_) (fun h => ?_)
    · refine lv_iconst (v := 0) hx hb dX13_isInside_27 (by decide) ?_
      exact ret S _ _ _ _ 0 ((show (0 : Int32).toInt = 0 by decide).trans (Option.some.inj h)) (by rw [← (Option.some.inj h)]; exact (by decide)) rfl hM hS dX13_isInside_28
    · refine lv_aload_n hx hb dX13_isInside_18 rfl (lv_at hl 0 rfl) ?_
      refine lv_iload_n hx hb dX13_isInside_19 rfl (lv_at hl 1 rfl) ?_
      obtain ⟨r4_z, cr4_z, h⟩ := w_b1E h
      refine g_callI (J := jM b kc T) (m_runV calV_X13_rowEnd wd_1330 (g_M_rowEnd l D kc b T S x1 v1 hx1 hS cr4_z) C hM (i := 192) (by omega) (e_192 b kc T S) rfl hl.1 rfl rfl (Nat.le_of_ble_eq_true rfl) dX13_isInside_20 ⟨Nat.le_of_ble_eq_true rfl, Nat.le_of_ble_eq_true rfl⟩ ⟨Nat.le_of_ble_eq_true rfl, Nat.le_of_ble_eq_true rfl⟩) hM (fun z5_z H locs bz5_z hM hS => ?_)
      refine lv_iload_n hx hb dX13_isInside_23 rfl (lv_at hl 3 rfl) ?_
      refine g_icmp_le (tgt := 29) hx hb bz5_z hx3 h dX13_isInside_24 (by decide) (fun h => ?_) (fun h => ?_)
      · exact B29 _ _ _ hS hM (lv_sub hl [0, 1, 2, 3] rfl) h
      · refine lv_iconst (v := 0) hx hb dX13_isInside_27 (by decide) ?_
        exact ret S _ _ _ _ 0 ((show (0 : Int32).toInt = 0 by decide).trans (Option.some.inj h)) (by rw [← (Option.some.inj h)]; exact (by decide)) rfl hM hS dX13_isInside_28

def f_M_isWithin (S : SS) (v1 : Int) (v2 : Int) : Option Int := w_chk (0 ≤ v2 ∧ v2 < 41) ((if gi S 199 (v2).toNat = 4 then w_chk (0 ≤ v2 ∧ v2 < 41) (w_chk (0 ≤ v2 ∧ v2 < 41) (w_b1 (f_M_isInside S v1 (gi S 201 (v2).toNat) (gi S 202 (v2).toNat)) (fun r14_z => w_chk (r14_z = 0 ∨ r14_z = 1) (some r14_z)))) else w_chk (0 ≤ v2 ∧ v2 < 41) ((if gi S 199 (v2).toNat = 3 then w_chk (0 ≤ v2 ∧ v2 < 41) (w_chk (0 ≤ v2 ∧ v2 < 41) (w_chk (i32 ((gi S 202 (v2).toNat) - 1)) (w_b1 (f_M_isInside S v1 (gi S 201 (v2).toNat) ((gi S 202 (v2).toNat) - 1)) (fun r6_z => (if r6_z = 0 then w_chk (0 ≤ v2 ∧ v2 < 41) (w_chk (0 ≤ v2 ∧ v2 < 41) (w_b1 (f_M_isInside S v1 (gi S 202 (v2).toNat) (gi S 203 (v2).toNat)) (fun r10_z => (if r10_z = 0 then some 0 else some 1)))) else some 1))))) else some 0))))
set_option maxHeartbeats 4000000 in
set_option maxRecDepth 100000 in
theorem g_M_isWithin (l : Launch) (D : va_G) (kc : Nat → ClassId) (b : Nat) (T S : SS) (x1 : Int32) (v1 : Int) (hx1 : x1.toInt = v1) (x2 : Int32) (v2 : Int) (hx2 : x2.toInt = v2) (hS : rng S) {vr : Int} (h : f_M_isWithin S v1 v2 = some vr) : cI l yX13_isWithin cX13_isWithin 3 .boolean 3 D kc b (jM b kc T) S [.ref (b + 192), .int x1, .int x2] vr S := by
  refine g_beg_z (by decide) (Nat.le_of_ble_eq_true rfl) ?_
  intro p e s m args below meth c Q C ret hM ls hl
  obtain ⟨hx, hb, hml, hown, hts, hE, hbs⟩ := id C
  have hl : lv_has ls 3 [(0, .ref (b + 192)), (1, .int x1), (2, .int x2)] := hl
  unfold f_M_isWithin at h
  refine lv_aload_n hx hb dX13_isWithin_0 rfl (lv_at hl 0 rfl) ?_
  refine m_get fl_X13_70_X13 C hM (i := 192) (by omega) (e_192 b kc T S) (v := .ref (b + 199)) rfl dX13_isWithin_1 ?_
  refine lv_iload_n hx hb dX13_isWithin_4 rfl (lv_at hl 2 rfl) ?_
  refine g_iald C hM (j := 199) (by omega) (jK_M b kc T (by omega)) (a_199 b kc) hS hx2 (B := 41) rfl h dX13_isWithin_5 (fun z1_z bz1_z h => ?_)
  refine lv_iconst (v := 4) hx hb dX13_isWithin_6 (by decide) ?_
  refine g_icmp_ne (tgt := 28) hx hb bz1_z (show (4 : Int32).toInt = 4 by decide) h dX13_isWithin_7 (by decide) (fun h => ?_) (fun h => ?_)
  · refine lv_aload_n hx hb dX13_isWithin_28 rfl (lv_at hl 0 rfl) ?_
    refine m_get fl_X13_70_X13 C hM (i := 192) (by omega) (e_192 b kc T S) (v := .ref (b + 199)) rfl dX13_isWithin_29 ?_
    refine lv_iload_n hx hb dX13_isWithin_32 rfl (lv_at hl 2 rfl) ?_
    refine g_iald C hM (j := 199) (by omega) (jK_M b kc T (by omega)) (a_199 b kc) hS hx2 (B := 41) rfl h dX13_isWithin_33 (fun z2_z bz2_z h => ?_)
    refine lv_iconst (v := 3) hx hb dX13_isWithin_34 (by decide) ?_
    refine g_icmp_ne (tgt := 84) hx hb bz2_z (show (3 : Int32).toInt = 3 by decide) h dX13_isWithin_35 (by decide) (fun h => ?_) (fun h => ?_)
    · refine lv_iconst (v := 0) hx hb dX13_isWithin_84 (by decide) ?_
      exact ret S _ _ _ _ 0 ((show (0 : Int32).toInt = 0 by decide).trans (Option.some.inj h)) (by rw [← (Option.some.inj h)]; exact (by decide)) rfl hM hS dX13_isWithin_85
    · refine lv_aload_n hx hb dX13_isWithin_38 rfl (lv_at hl 0 rfl) ?_
      refine lv_iload_n hx hb dX13_isWithin_39 rfl (lv_at hl 1 rfl) ?_
      refine lv_aload_n hx hb dX13_isWithin_40 rfl (lv_at hl 0 rfl) ?_
      refine m_get fl_X13_77_X13 C hM (i := 192) (by omega) (e_192 b kc T S) (v := .ref (b + 201)) rfl dX13_isWithin_41 ?_
      refine lv_iload_n hx hb dX13_isWithin_44 rfl (lv_at hl 2 rfl) ?_
      refine g_iald C hM (j := 201) (by omega) (jK_M b kc T (by omega)) (a_201 b kc) hS hx2 (B := 41) rfl h dX13_isWithin_45 (fun z3_z bz3_z h => ?_)
      refine lv_aload_n hx hb dX13_isWithin_46 rfl (lv_at hl 0 rfl) ?_
      refine m_get fl_X13_80_X13 C hM (i := 192) (by omega) (e_192 b kc T S) (v := .ref (b + 202)) rfl dX13_isWithin_47 ?_
      refine lv_iload_n hx hb dX13_isWithin_50 rfl (lv_at hl 2 rfl) ?_
      refine g_iald C hM (j := 202) (by omega) (jK_M b kc T (by omega)) (a_202 b kc) hS hx2 (B := 41) rfl h dX13_isWithin_51 (fun z4_z bz4_z h => ?_)
      refine lv_iconst (v := 1) hx hb dX13_isWithin_52 (by decide) ?_
      refine g_isub hx hb bz4_z (show (1 : Int32).toInt = 1 by decide) h dX13_isWithin_53 (fun z5_z bz5_z h => ?_)
      obtain ⟨r6_z, cr6_z, h⟩ := w_b1E h
      refine g_callI (J := jM b kc T) (m_runV calV_X13_isInside wd_1322 (g_M_isInside l D kc b T S x1 v1 hx1 z3_z (gi S 201 (v2).toNat) bz3_z z5_z ((gi S 202 (v2).toNat) - 1) bz5_z hS cr6_z) C hM (i := 192) (by omega) (e_192 b kc T S) rfl hl.1 rfl rfl (Nat.le_of_ble_eq_true rfl) dX13_isWithin_54 ⟨Nat.le_of_ble_eq_true rfl, Nat.le_of_ble_eq_true rfl⟩ ⟨Nat.le_of_ble_eq_true rfl, Nat.le_of_ble_eq_true rfl⟩) hM (fun z7_z H locs bz7_z hM hS => ?_)
      refine g_if_ne (tgt := 80) hx hb bz7_z h dX13_isWithin_57 (by decide) (fun h => ?_) (fun h => ?_)
      · refine lv_iconst (v := 1) hx hb dX13_isWithin_80 (by decide) ?_
        refine lv_goto (tgt := 85) hx hb dX13_isWithin_81 (by decide) ?_
        exact ret S _ _ _ _ 1 ((show (1 : Int32).toInt = 1 by decide).trans (Option.some.inj h)) (by rw [← (Option.some.inj h)]; exact (by decide)) rfl hM hS dX13_isWithin_85
      · refine lv_aload_n hx hb dX13_isWithin_60 rfl (lv_at hl 0 rfl) ?_
        refine lv_iload_n hx hb dX13_isWithin_61 rfl (lv_at hl 1 rfl) ?_
        refine lv_aload_n hx hb dX13_isWithin_62 rfl (lv_at hl 0 rfl) ?_
        refine m_get fl_X13_80_X13 C hM (i := 192) (by omega) (e_192 b kc T S) (v := .ref (b + 202)) rfl dX13_isWithin_63 ?_
        refine lv_iload_n hx hb dX13_isWithin_66 rfl (lv_at hl 2 rfl) ?_
        refine g_iald C hM (j := 202) (by omega) (jK_M b kc T (by omega)) (a_202 b kc) hS hx2 (B := 41) rfl h dX13_isWithin_67 (fun z8_z bz8_z h => ?_)
        refine lv_aload_n hx hb dX13_isWithin_68 rfl (lv_at hl 0 rfl) ?_
        refine m_get fl_X13_83_X13 C hM (i := 192) (by omega) (e_192 b kc T S) (v := .ref (b + 203)) rfl dX13_isWithin_69 ?_
        refine lv_iload_n hx hb dX13_isWithin_72 rfl (lv_at hl 2 rfl) ?_
        refine g_iald C hM (j := 203) (by omega) (jK_M b kc T (by omega)) (a_203 b kc) hS hx2 (B := 41) rfl h dX13_isWithin_73 (fun z9_z bz9_z h => ?_)
        obtain ⟨r10_z, cr10_z, h⟩ := w_b1E h
        refine g_callI (J := jM b kc T) (m_runV calV_X13_isInside wd_1322 (g_M_isInside l D kc b T S x1 v1 hx1 z8_z (gi S 202 (v2).toNat) bz8_z z9_z (gi S 203 (v2).toNat) bz9_z hS cr10_z) C hM (i := 192) (by omega) (e_192 b kc T S) rfl hl.1 rfl rfl (Nat.le_of_ble_eq_true rfl) dX13_isWithin_74 ⟨Nat.le_of_ble_eq_true rfl, Nat.le_of_ble_eq_true rfl⟩ ⟨Nat.le_of_ble_eq_true rfl, Nat.le_of_ble_eq_true rfl⟩) hM (fun z11_z H locs bz11_z hM hS => ?_)
        refine g_if_eq (tgt := 84) hx hb bz11_z h dX13_isWithin_77 (by decide) (fun h => ?_) (fun h => ?_)
        · refine lv_iconst (v := 0) hx hb dX13_isWithin_84 (by decide) ?_
          exact ret S _ _ _ _ 0 ((show (0 : Int32).toInt = 0 by decide).trans (Option.some.inj h)) (by rw [← (Option.some.inj h)]; exact (by decide)) rfl hM hS dX13_isWithin_85
        · refine lv_iconst (v := 1) hx hb dX13_isWithin_80 (by decide) ?_
          refine lv_goto (tgt := 85) hx hb dX13_isWithin_81 (by decide) ?_
          exact ret S _ _ _ _ 1 ((show (1 : Int32).toInt = 1 by decide).trans (Option.some.inj h)) (by rw [← (Option.some.inj h)]; exact (by decide)) rfl hM hS dX13_isWithin_85
  · refine lv_aload_n hx hb dX13_isWithin_10 rfl (lv_at hl 0 rfl) ?_
    refine lv_iload_n hx hb dX13_isWithin_11 rfl (lv_at hl 1 rfl) ?_
    refine lv_aload_n hx hb dX13_isWithin_12 rfl (lv_at hl 0 rfl) ?_
    refine m_get fl_X13_77_X13 C hM (i := 192) (by omega) (e_192 b kc T S) (v := .ref (b + 201)) rfl dX13_isWithin_13 ?_
    refine lv_iload_n hx hb dX13_isWithin_16 rfl (lv_at hl 2 rfl) ?_
    refine g_iald C hM (j := 201) (by omega) (jK_M b kc T (by omega)) (a_201 b kc) hS hx2 (B := 41) rfl h dX13_isWithin_17 (fun z12_z bz12_z h => ?_)
    refine lv_aload_n hx hb dX13_isWithin_18 rfl (lv_at hl 0 rfl) ?_
    refine m_get fl_X13_80_X13 C hM (i := 192) (by omega) (e_192 b kc T S) (v := .ref (b + 202)) rfl dX13_isWithin_19 ?_
    refine lv_iload_n hx hb dX13_isWithin_22 rfl (lv_at hl 2 rfl) ?_
    refine g_iald C hM (j := 202) (by omega) (jK_M b kc T (by omega)) (a_202 b kc) hS hx2 (B := 41) rfl h dX13_isWithin_23 (fun z13_z bz13_z h => ?_)
    obtain ⟨r14_z, cr14_z, h⟩ := w_b1E h
    refine g_callI (J := jM b kc T) (m_runV calV_X13_isInside wd_1322 (g_M_isInside l D kc b T S x1 v1 hx1 z12_z (gi S 201 (v2).toNat) bz12_z z13_z (gi S 202 (v2).toNat) bz13_z hS cr14_z) C hM (i := 192) (by omega) (e_192 b kc T S) rfl hl.1 rfl rfl (Nat.le_of_ble_eq_true rfl) dX13_isWithin_24 ⟨Nat.le_of_ble_eq_true rfl, Nat.le_of_ble_eq_true rfl⟩ ⟨Nat.le_of_ble_eq_true rfl, Nat.le_of_ble_eq_true rfl⟩) hM (fun z15_z H locs bz15_z hM hS => ?_)
    obtain ⟨c16_z, h⟩ := w_chkE h
    exact ret S _ _ _ _ z15_z (bz15_z.trans (Option.some.inj h)) (by rw [← (Option.some.inj h)]; exact c16_z) rfl hM hS dX13_isWithin_27

def f_M_isCut (S : SS) (v1 : Int) (v2 : Int) : Option Int := w_b1 (f_M_gapOf S v1) (fun r1_z => (if r1_z = (-1) then some 0 else w_b1 (f_M_hasRow S v2) (fun r3_z => (if r3_z = 0 then some 0 else w_b1 (f_M_gapOf S v1) (fun r5_z => w_chk (0 ≤ v2 ∧ v2 < 41) ((if r5_z ≤ gi S 201 (v2).toNat then some 0 else w_b1 (f_M_gapOf S v1) (fun r8_z => w_b1 (f_M_rowEnd S v2) (fun r10_z => (if r10_z < r8_z then some 0 else some 1))))))))))
set_option maxHeartbeats 4000000 in
set_option maxRecDepth 100000 in
theorem g_M_isCut (l : Launch) (D : va_G) (kc : Nat → ClassId) (b : Nat) (T S : SS) (x1 : Int32) (v1 : Int) (hx1 : x1.toInt = v1) (x2 : Int32) (v2 : Int) (hx2 : x2.toInt = v2) (hS : rng S) {vr : Int} (h : f_M_isCut S v1 v2 = some vr) : cI l yX13_isCut cX13_isCut 3 .boolean 2 D kc b (jM b kc T) S [.ref (b + 192), .int x1, .int x2] vr S := by
  refine g_beg_z (by decide) (Nat.le_of_ble_eq_true rfl) ?_
  intro p e s m args below meth c Q C ret hM ls hl
  obtain ⟨hx, hb, hml, hown, hts, hE, hbs⟩ := id C
  have hl : lv_has ls 3 [(0, .ref (b + 192)), (1, .int x1), (2, .int x2)] := hl
  unfold f_M_isCut at h
  refine lv_aload_n hx hb dX13_isCut_0 rfl (lv_at hl 0 rfl) ?_
  refine lv_iload_n hx hb dX13_isCut_1 rfl (lv_at hl 1 rfl) ?_
  obtain ⟨r1_z, cr1_z, h⟩ := w_b1E h
  refine g_callI (J := jM b kc T) (m_runV calV_X13_gapOf wd_1334 (g_M_gapOf l D kc b T S x1 v1 hx1 hS cr1_z) C hM (i := 192) (by omega) (e_192 b kc T S) rfl hl.1 rfl rfl (Nat.le_of_ble_eq_true rfl) dX13_isCut_2 ⟨Nat.le_of_ble_eq_true rfl, Nat.le_of_ble_eq_true rfl⟩ ⟨Nat.le_of_ble_eq_true rfl, Nat.le_of_ble_eq_true rfl⟩) hM (fun z2_z H locs bz2_z hM hS => ?_)
  refine lv_iconst (v := (-1)) hx hb dX13_isCut_5 (by decide) ?_
  refine g_icmp_eq (tgt := 48) hx hb bz2_z (show ((-1) : Int32).toInt = (-1) by decide) h dX13_isCut_6 (by decide) (fun h => ?_) (fun h => ?_)
  · refine lv_iconst (v := 0) hx hb dX13_isCut_48 (by decide) ?_
    exact ret S _ _ _ _ 0 ((show (0 : Int32).toInt = 0 by decide).trans (Option.some.inj h)) (by rw [← (Option.some.inj h)]; exact (by decide)) rfl hM hS dX13_isCut_49
  · refine lv_aload_n hx hb dX13_isCut_9 rfl (lv_at hl 0 rfl) ?_
    refine lv_iload_n hx hb dX13_isCut_10 rfl (lv_at hl 2 rfl) ?_
    obtain ⟨r3_z, cr3_z, h⟩ := w_b1E h
    refine g_callI (J := jM b kc T) (m_runV calV_X13_hasRow wd_1326 (g_M_hasRow l D kc b T S x2 v2 hx2 hS cr3_z) C hM (i := 192) (by omega) (e_192 b kc T S) rfl hl.1 rfl rfl (Nat.le_of_ble_eq_true rfl) dX13_isCut_11 ⟨Nat.le_of_ble_eq_true rfl, Nat.le_of_ble_eq_true rfl⟩ ⟨Nat.le_of_ble_eq_true rfl, Nat.le_of_ble_eq_true rfl⟩) hM (fun z4_z H locs bz4_z hM hS => ?_)
    refine g_if_eq (tgt := 48) hx hb bz4_z h dX13_isCut_14 (by decide) (fun h => ?_) (fun h => ?_)
    · refine lv_iconst (v := 0) hx hb dX13_isCut_48 (by decide) ?_
      exact ret S _ _ _ _ 0 ((show (0 : Int32).toInt = 0 by decide).trans (Option.some.inj h)) (by rw [← (Option.some.inj h)]; exact (by decide)) rfl hM hS dX13_isCut_49
    · refine lv_aload_n hx hb dX13_isCut_17 rfl (lv_at hl 0 rfl) ?_
      refine lv_iload_n hx hb dX13_isCut_18 rfl (lv_at hl 1 rfl) ?_
      obtain ⟨r5_z, cr5_z, h⟩ := w_b1E h
      refine g_callI (J := jM b kc T) (m_runV calV_X13_gapOf wd_1334 (g_M_gapOf l D kc b T S x1 v1 hx1 hS cr5_z) C hM (i := 192) (by omega) (e_192 b kc T S) rfl hl.1 rfl rfl (Nat.le_of_ble_eq_true rfl) dX13_isCut_19 ⟨Nat.le_of_ble_eq_true rfl, Nat.le_of_ble_eq_true rfl⟩ ⟨Nat.le_of_ble_eq_true rfl, Nat.le_of_ble_eq_true rfl⟩) hM (fun z6_z H locs bz6_z hM hS => ?_)
      refine lv_aload_n hx hb dX13_isCut_22 rfl (lv_at hl 0 rfl) ?_
      refine m_get fl_X13_77_X13 C hM (i := 192) (by omega) (e_192 b kc T S) (v := .ref (b + 201)) rfl dX13_isCut_23 ?_
      refine lv_iload_n hx hb dX13_isCut_26 rfl (lv_at hl 2 rfl) ?_
      refine g_iald C hM (j := 201) (by omega) (jK_M b kc T (by omega)) (a_201 b kc) hS hx2 (B := 41) rfl h dX13_isCut_27 (fun z7_z bz7_z h => ?_)
      refine g_icmp_le (tgt := 48) hx hb bz6_z bz7_z h dX13_isCut_28 (by decide) (fun h => ?_) (fun h => ?_)
      · refine lv_iconst (v := 0) hx hb dX13_isCut_48 (by decide) ?_
        exact ret S _ _ _ _ 0 ((show (0 : Int32).toInt = 0 by decide).trans (Option.some.inj h)) (by rw [← (Option.some.inj h)]; exact (by decide)) rfl hM hS dX13_isCut_49
      · refine lv_aload_n hx hb dX13_isCut_31 rfl (lv_at hl 0 rfl) ?_
        refine lv_iload_n hx hb dX13_isCut_32 rfl (lv_at hl 1 rfl) ?_
        obtain ⟨r8_z, cr8_z, h⟩ := w_b1E h
        refine g_callI (J := jM b kc T) (m_runV calV_X13_gapOf wd_1334 (g_M_gapOf l D kc b T S x1 v1 hx1 hS cr8_z) C hM (i := 192) (by omega) (e_192 b kc T S) rfl hl.1 rfl rfl (Nat.le_of_ble_eq_true rfl) dX13_isCut_33 ⟨Nat.le_of_ble_eq_true rfl, Nat.le_of_ble_eq_true rfl⟩ ⟨Nat.le_of_ble_eq_true rfl, Nat.le_of_ble_eq_true rfl⟩) hM (fun z9_z H locs bz9_z hM hS => ?_)
        refine lv_aload_n hx hb dX13_isCut_36 rfl (lv_at hl 0 rfl) ?_
        refine lv_iload_n hx hb dX13_isCut_37 rfl (lv_at hl 2 rfl) ?_
        obtain ⟨r10_z, cr10_z, h⟩ := w_b1E h
        refine g_callI (J := jM b kc T) (m_runV calV_X13_rowEnd wd_1330 (g_M_rowEnd l D kc b T S x2 v2 hx2 hS cr10_z) C hM (i := 192) (by omega) (e_192 b kc T S) rfl hl.1 rfl rfl (Nat.le_of_ble_eq_true rfl) dX13_isCut_38 ⟨Nat.le_of_ble_eq_true rfl, Nat.le_of_ble_eq_true rfl⟩ ⟨Nat.le_of_ble_eq_true rfl, Nat.le_of_ble_eq_true rfl⟩) hM (fun z11_z H locs bz11_z hM hS => ?_)
        refine g_icmp_gt (tgt := 48) hx hb bz9_z bz11_z h dX13_isCut_41 (by decide) (fun h => ?_) (fun h => ?_)
        · refine lv_iconst (v := 0) hx hb dX13_isCut_48 (by decide) ?_
          exact ret S _ _ _ _ 0 ((show (0 : Int32).toInt = 0 by decide).trans (Option.some.inj h)) (by rw [← (Option.some.inj h)]; exact (by decide)) rfl hM hS dX13_isCut_49
        · refine lv_iconst (v := 1) hx hb dX13_isCut_44 (by decide) ?_
          refine lv_goto (tgt := 49) hx hb dX13_isCut_45 (by decide) ?_
          exact ret S _ _ _ _ 1 ((show (1 : Int32).toInt = 1 by decide).trans (Option.some.inj h)) (by rw [← (Option.some.inj h)]; exact (by decide)) rfl hM hS dX13_isCut_49

def f_M_doMeet_66 (S : SS) (v1 : Int) (v2 : Int) : Option Int := w_b1 (f_M_isCut S v1 v2) (fun r1_z => (if r1_z = 0 then w_b1 (f_M_isCut S v2 v1) (fun r3_z => (if r3_z = 0 then some 0 else some 1)) else some 1))
def f_M_doMeet (S : SS) (v1 : Int) (v2 : Int) : Option Int := w_b1 (f_M_isWithin S v1 v2) (fun r1_z => (if r1_z = 0 then w_b1 (f_M_isWithin S v2 v1) (fun r3_z => (if r3_z = 0 then w_b1 (f_M_hasRow S v1) (fun r5_z => (if r5_z = 0 then f_M_doMeet_66 S v1 v2  else w_b1 (f_M_hasRow S v2) (fun r7_z => (if r7_z = 0 then f_M_doMeet_66 S v1 v2  else w_chk (0 ≤ v1 ∧ v1 < 41) (w_b1 (f_M_rowEnd S v2) (fun r10_z => (if r10_z < gi S 201 (v1).toNat then f_M_doMeet_66 S v1 v2  else w_chk (0 ≤ v2 ∧ v2 < 41) (w_b1 (f_M_rowEnd S v1) (fun r13_z => (if r13_z < gi S 201 (v2).toNat then f_M_doMeet_66 S v1 v2  else some 1)))))))))) else some 0)) else some 0))
set_option maxHeartbeats 4000000 in
set_option maxRecDepth 100000 in
theorem g_M_doMeet (l : Launch) (D : va_G) (kc : Nat → ClassId) (b : Nat) (T S : SS) (x1 : Int32) (v1 : Int) (hx1 : x1.toInt = v1) (x2 : Int32) (v2 : Int) (hx2 : x2.toInt = v2) (hS : rng S) {vr : Int} (h : f_M_doMeet S v1 v2 = some vr) : cI l yX13_doMeet cX13_doMeet 3 .boolean 4 D kc b (jM b kc T) S [.ref (b + 192), .int x1, .int x2] vr S := by
  refine g_beg_z (by decide) (Nat.le_of_ble_eq_true rfl) ?_
  intro p e s m args below meth c Q C ret hM ls hl
  obtain ⟨hx, hb, hml, hown, hts, hE, hbs⟩ := id C
  have hl : lv_has ls 3 [(0, .ref (b + 192)), (1, .int x1), (2, .int x2)] := hl
  unfold f_M_doMeet at h
  have B66 : ∀ (H : Heap) (locs : List Loc) (ls : Array Slot), rng S → mS D b s 220 (jM b kc T S) H locs → lv_has ls 3 [(0, .ref (b + 192)), (1, .int x1), (2, .int x2)] → f_M_doMeet_66 S v1 v2 = some vr → W p l e (mR 4 0 0) s m args below meth c H locs 0 0 Q (F0 m 66 ls []) := by
    intro H locs ls hS hM hl h
    unfold f_M_doMeet_66 at h
    refine lv_aload_n hx hb dX13_doMeet_66 rfl (lv_at hl 0 rfl) ?_
    refine lv_iload_n hx hb dX13_doMeet_67 rfl (lv_at hl 1 rfl) ?_
    refine lv_iload_n hx hb dX13_doMeet_68 rfl (lv_at hl 2 rfl) ?_
    obtain ⟨r1_z, cr1_z, h⟩ := w_b1E h
    refine g_callI (J := jM b kc T) (m_runV calV_X13_isCut wd_1338 (g_M_isCut l D kc b T S x1 v1 hx1 x2 v2 hx2 hS cr1_z) C hM (i := 192) (by omega) (e_192 b kc T S) rfl hl.1 rfl rfl (Nat.le_of_ble_eq_true rfl) dX13_doMeet_69 ⟨Nat.le_of_ble_eq_true rfl, Nat.le_of_ble_eq_true rfl⟩ ⟨Nat.le_of_ble_eq_true rfl, Nat.le_of_ble_eq_true rfl⟩) hM (fun z2_z H locs bz2_z hM hS => ?_)
    refine g_if_ne (tgt := 84) hx hb bz2_z h dX13_doMeet_72 (by decide) (fun h => ?_) (fun h => ?_)
    · refine lv_iconst (v := 1) hx hb dX13_doMeet_84 (by decide) ?_
      refine lv_goto (tgt := 89) hx hb dX13_doMeet_85 (by decide) ?_
      exact ret S _ _ _ _ 1 ((show (1 : Int32).toInt = 1 by decide).trans (Option.some.inj h)) (by rw [← (Option.some.inj h)]; exact (by decide)) rfl hM hS dX13_doMeet_89
    · refine lv_aload_n hx hb dX13_doMeet_75 rfl (lv_at hl 0 rfl) ?_
      refine lv_iload_n hx hb dX13_doMeet_76 rfl (lv_at hl 2 rfl) ?_
      refine lv_iload_n hx hb dX13_doMeet_77 rfl (lv_at hl 1 rfl) ?_
      obtain ⟨r3_z, cr3_z, h⟩ := w_b1E h
      refine g_callI (J := jM b kc T) (m_runV calV_X13_isCut wd_1338 (g_M_isCut l D kc b T S x2 v2 hx2 x1 v1 hx1 hS cr3_z) C hM (i := 192) (by omega) (e_192 b kc T S) rfl hl.1 rfl rfl (Nat.le_of_ble_eq_true rfl) dX13_doMeet_78 ⟨Nat.le_of_ble_eq_true rfl, Nat.le_of_ble_eq_true rfl⟩ ⟨Nat.le_of_ble_eq_true rfl, Nat.le_of_ble_eq_true rfl⟩) hM (fun z4_z H locs bz4_z hM hS => ?_)
      refine g_if_eq (tgt := 88) hx hb bz4_z h dX13_doMeet_81 (by decide) (fun h => ?_) (fun h => ?_)
      · refine lv_iconst (v := 0) hx hb dX13_doMeet_88 (by decide) ?_
        exact ret S _ _ _ _ 0 ((show (0 : Int32).toInt = 0 by decide).trans (Option.some.inj h)) (by rw [← (Option.some.inj h)]; exact (by decide)) rfl hM hS dX13_doMeet_89
      · refine lv_iconst (v := 1) hx hb dX13_doMeet_84 (by decide) ?_
        refine lv_goto (tgt := 89) hx hb dX13_doMeet_85 (by decide) ?_
        exact ret S _ _ _ _ 1 ((show (1 : Int32).toInt = 1 by decide).trans (Option.some.inj h)) (by rw [← (Option.some.inj h)]; exact (by decide)) rfl hM hS dX13_doMeet_89
  refine lv_aload_n hx hb dX13_doMeet_0 rfl (lv_at hl 0 rfl) ?_
  refine lv_iload_n hx hb dX13_doMeet_1 rfl (lv_at hl 1 rfl) ?_
  refine lv_iload_n hx hb dX13_doMeet_2 rfl (lv_at hl 2 rfl) ?_
  obtain ⟨r1_z, cr1_z, h⟩ := w_b1E h
  refine g_callI (J := jM b kc T) (m_runV calV_X13_isWithin wd_1318 (g_M_isWithin l D kc b T S x1 v1 hx1 x2 v2 hx2 hS cr1_z) C hM (i := 192) (by omega) (e_192 b kc T S) rfl hl.1 rfl rfl (Nat.le_of_ble_eq_true rfl) dX13_doMeet_3 ⟨Nat.le_of_ble_eq_true rfl, Nat.le_of_ble_eq_true rfl⟩ ⟨Nat.le_of_ble_eq_true rfl, Nat.le_of_ble_eq_true rfl⟩) hM (fun z2_z H locs bz2_z hM hS => ?_)
  refine g_if_ne (tgt := 18) hx hb bz2_z h dX13_doMeet_6 (by decide) (fun h => ?_) (fun h => ?_)
  · refine lv_iconst (v := 0) hx hb dX13_doMeet_18 (by decide) ?_
    exact ret S _ _ _ _ 0 ((show (0 : Int32).toInt = 0 by decide).trans (Option.some.inj h)) (by rw [← (Option.some.inj h)]; exact (by decide)) rfl hM hS dX13_doMeet_19
  · refine lv_aload_n hx hb dX13_doMeet_9 rfl (lv_at hl 0 rfl) ?_
    refine lv_iload_n hx hb dX13_doMeet_10 rfl (lv_at hl 2 rfl) ?_
    refine lv_iload_n hx hb dX13_doMeet_11 rfl (lv_at hl 1 rfl) ?_
    obtain ⟨r3_z, cr3_z, h⟩ := w_b1E h
    refine g_callI (J := jM b kc T) (m_runV calV_X13_isWithin wd_1318 (g_M_isWithin l D kc b T S x2 v2 hx2 x1 v1 hx1 hS cr3_z) C hM (i := 192) (by omega) (e_192 b kc T S) rfl hl.1 rfl rfl (Nat.le_of_ble_eq_true rfl) dX13_doMeet_12 ⟨Nat.le_of_ble_eq_true rfl, Nat.le_of_ble_eq_true rfl⟩ ⟨Nat.le_of_ble_eq_true rfl, Nat.le_of_ble_eq_true rfl⟩) hM (fun z4_z H locs bz4_z hM hS => ?_)
    refine g_if_eq (tgt := 20) hx hb bz4_z h dX13_doMeet_15 (by decide) (fun h => ?_) (fun h => ?_)
    · refine lv_aload_n hx hb dX13_doMeet_20 rfl (lv_at hl 0 rfl) ?_
      refine lv_iload_n hx hb dX13_doMeet_21 rfl (lv_at hl 1 rfl) ?_
      obtain ⟨r5_z, cr5_z, h⟩ := w_b1E h
      refine g_callI (J := jM b kc T) (m_runV calV_X13_hasRow wd_1326 (g_M_hasRow l D kc b T S x1 v1 hx1 hS cr5_z) C hM (i := 192) (by omega) (e_192 b kc T S) rfl hl.1 rfl rfl (Nat.le_of_ble_eq_true rfl) dX13_doMeet_22 ⟨Nat.le_of_ble_eq_true rfl, Nat.le_of_ble_eq_true rfl⟩ ⟨Nat.le_of_ble_eq_true rfl, Nat.le_of_ble_eq_true rfl⟩) hM (fun z6_z H locs bz6_z hM hS => ?_)
      refine g_if_eq (tgt := 66) hx hb bz6_z h dX13_doMeet_25 (by decide) (fun h => ?_) (fun h => ?_)
      · exact B66 _ _ _ hS hM (lv_sub hl [0, 1, 2] rfl) h
      · refine lv_aload_n hx hb dX13_doMeet_28 rfl (lv_at hl 0 rfl) ?_
        refine lv_iload_n hx hb dX13_doMeet_29 rfl (lv_at hl 2 rfl) ?_
        obtain ⟨r7_z, cr7_z, h⟩ := w_b1E h
        refine g_callI (J := jM b kc T) (m_runV calV_X13_hasRow wd_1326 (g_M_hasRow l D kc b T S x2 v2 hx2 hS cr7_z) C hM (i := 192) (by omega) (e_192 b kc T S) rfl hl.1 rfl rfl (Nat.le_of_ble_eq_true rfl) dX13_doMeet_30 ⟨Nat.le_of_ble_eq_true rfl, Nat.le_of_ble_eq_true rfl⟩ ⟨Nat.le_of_ble_eq_true rfl, Nat.le_of_ble_eq_true rfl⟩) hM (fun z8_z H locs bz8_z hM hS => ?_)
        refine g_if_eq (tgt := 66) hx hb bz8_z h dX13_doMeet_33 (by decide) (fun h => ?_) (fun h => ?_)
        · exact B66 _ _ _ hS hM (lv_sub hl [0, 1, 2] rfl) h
        · refine lv_aload_n hx hb dX13_doMeet_36 rfl (lv_at hl 0 rfl) ?_
          refine m_get fl_X13_77_X13 C hM (i := 192) (by omega) (e_192 b kc T S) (v := .ref (b + 201)) rfl dX13_doMeet_37 ?_
          refine lv_iload_n hx hb dX13_doMeet_40 rfl (lv_at hl 1 rfl) ?_
          refine g_iald C hM (j := 201) (by omega) (jK_M b kc T (by omega)) (a_201 b kc) hS hx1 (B := 41) rfl h dX13_doMeet_41 (fun z9_z bz9_z h => ?_)
          refine lv_aload_n hx hb dX13_doMeet_42 rfl (lv_at hl 0 rfl) ?_
          refine lv_iload_n hx hb dX13_doMeet_43 rfl (lv_at hl 2 rfl) ?_
          obtain ⟨r10_z, cr10_z, h⟩ := w_b1E h
          refine g_callI (J := jM b kc T) (m_runV calV_X13_rowEnd wd_1330 (g_M_rowEnd l D kc b T S x2 v2 hx2 hS cr10_z) C hM (i := 192) (by omega) (e_192 b kc T S) rfl hl.1 rfl rfl (Nat.le_of_ble_eq_true rfl) dX13_doMeet_44 ⟨Nat.le_of_ble_eq_true rfl, Nat.le_of_ble_eq_true rfl⟩ ⟨Nat.le_of_ble_eq_true rfl, Nat.le_of_ble_eq_true rfl⟩) hM (fun z11_z H locs bz11_z hM hS => ?_)
          refine g_icmp_gt (tgt := 66) hx hb bz9_z bz11_z h dX13_doMeet_47 (by decide) (fun h => ?_) (fun h => ?_)
          · exact B66 _ _ _ hS hM (lv_sub hl [0, 1, 2] rfl) h
          · refine lv_aload_n hx hb dX13_doMeet_50 rfl (lv_at hl 0 rfl) ?_
            refine m_get fl_X13_77_X13 C hM (i := 192) (by omega) (e_192 b kc T S) (v := .ref (b + 201)) rfl dX13_doMeet_51 ?_
            refine lv_iload_n hx hb dX13_doMeet_54 rfl (lv_at hl 2 rfl) ?_
            refine g_iald C hM (j := 201) (by omega) (jK_M b kc T (by omega)) (a_201 b kc) hS hx2 (B := 41) rfl h dX13_doMeet_55 (fun z12_z bz12_z h => ?_)
            refine lv_aload_n hx hb dX13_doMeet_56 rfl (lv_at hl 0 rfl) ?_
            refine lv_iload_n hx hb dX13_doMeet_57 rfl (lv_at hl 1 rfl) ?_
            obtain ⟨r13_z, cr13_z, h⟩ := w_b1E h
            refine g_callI (J := jM b kc T) (m_runV calV_X13_rowEnd wd_1330 (g_M_rowEnd l D kc b T S x1 v1 hx1 hS cr13_z) C hM (i := 192) (by omega) (e_192 b kc T S) rfl hl.1 rfl rfl (Nat.le_of_ble_eq_true rfl) dX13_doMeet_58 ⟨Nat.le_of_ble_eq_true rfl, Nat.le_of_ble_eq_true rfl⟩ ⟨Nat.le_of_ble_eq_true rfl, Nat.le_of_ble_eq_true rfl⟩) hM (fun z14_z H locs bz14_z hM hS => ?_)
            refine g_icmp_gt (tgt := 66) hx hb bz12_z bz14_z h dX13_doMeet_61 (by decide) (fun h => ?_) (fun h => ?_)
            · exact B66 _ _ _ hS hM (lv_sub hl [0, 1, 2] rfl) h
            · refine lv_iconst (v := 1) hx hb dX13_doMeet_64 (by decide) ?_
              exact ret S _ _ _ _ 1 ((show (1 : Int32).toInt = 1 by decide).trans (Option.some.inj h)) (by rw [← (Option.some.inj h)]; exact (by decide)) rfl hM hS dX13_doMeet_65
    · refine lv_iconst (v := 0) hx hb dX13_doMeet_18 (by decide) ?_
      exact ret S _ _ _ _ 0 ((show (0 : Int32).toInt = 0 by decide).trans (Option.some.inj h)) (by rw [← (Option.some.inj h)]; exact (by decide)) rfl hM hS dX13_doMeet_19

def f_M_meet (S : SS) (v1 : Int) (v2 : Int) : Option Int := w_b1 (f_M_isMark S v1) (fun r1_z => (if r1_z = 0 then some (-2) else w_b1 (f_M_isMark S v2) (fun r3_z => (if r3_z = 0 then some (-2) else (if v1 = v2 then some (-2) else w_chk (0 ≤ v1 ∧ v1 < 41) ((if gi S 199 (v1).toNat = 5 then some (-2) else w_chk (0 ≤ v2 ∧ v2 < 41) ((if gi S 199 (v2).toNat = 5 then some (-2) else w_b1 (f_M_doMeet S v1 v2) (fun r7_z => (if r7_z = 0 then some 0 else some 1)))))))))))
set_option maxHeartbeats 4000000 in
set_option maxRecDepth 100000 in
theorem g_M_meet (l : Launch) (D : va_G) (kc : Nat → ClassId) (b : Nat) (T S : SS) (x1 : Int32) (v1 : Int) (hx1 : x1.toInt = v1) (x2 : Int32) (v2 : Int) (hx2 : x2.toInt = v2) (hS : rng S) {vr : Int} (h : f_M_meet S v1 v2 = some vr) : cI l yX13_meet cX13_meet 3 .int 5 D kc b (jM b kc T) S [.ref (b + 192), .int x1, .int x2] vr S := by
  refine g_beg_i (by decide) (Nat.le_of_ble_eq_true rfl) ?_
  intro p e s m args below meth c Q C ret hM ls hl
  obtain ⟨hx, hb, hml, hown, hts, hE, hbs⟩ := id C
  have hl : lv_has ls 3 [(0, .ref (b + 192)), (1, .int x1), (2, .int x2)] := hl
  unfold f_M_meet at h
  refine lv_aload_n hx hb dX13_meet_0 rfl (lv_at hl 0 rfl) ?_
  refine lv_iload_n hx hb dX13_meet_1 rfl (lv_at hl 1 rfl) ?_
  obtain ⟨r1_z, cr1_z, h⟩ := w_b1E h
  refine g_callI (J := jM b kc T) (m_runV calV_X13_isMark wd_1310 (g_M_isMark l D kc b T S x1 v1 hx1 hS cr1_z) C hM (i := 192) (by omega) (e_192 b kc T S) rfl hl.1 rfl rfl (Nat.le_of_ble_eq_true rfl) dX13_meet_2 ⟨Nat.le_of_ble_eq_true rfl, Nat.le_of_ble_eq_true rfl⟩ ⟨Nat.le_of_ble_eq_true rfl, Nat.le_of_ble_eq_true rfl⟩) hM (fun z2_z H locs bz2_z hM hS => ?_)
  refine g_if_eq (tgt := 41) hx hb bz2_z h dX13_meet_5 (by decide) (fun h => ?_) (fun h => ?_)
  · refine lv_bipush (v := (-2)) hx hb dX13_meet_41 (by decide) ?_
    refine lv_goto (tgt := 60) hx hb dX13_meet_43 (by decide) ?_
    exact ret S _ _ _ _ (-2) ((show ((-2) : Int32).toInt = (-2) by decide).trans (Option.some.inj h)) rfl hM hS dX13_meet_60
  · refine lv_aload_n hx hb dX13_meet_8 rfl (lv_at hl 0 rfl) ?_
    refine lv_iload_n hx hb dX13_meet_9 rfl (lv_at hl 2 rfl) ?_
    obtain ⟨r3_z, cr3_z, h⟩ := w_b1E h
    refine g_callI (J := jM b kc T) (m_runV calV_X13_isMark wd_1310 (g_M_isMark l D kc b T S x2 v2 hx2 hS cr3_z) C hM (i := 192) (by omega) (e_192 b kc T S) rfl hl.1 rfl rfl (Nat.le_of_ble_eq_true rfl) dX13_meet_10 ⟨Nat.le_of_ble_eq_true rfl, Nat.le_of_ble_eq_true rfl⟩ ⟨Nat.le_of_ble_eq_true rfl, Nat.le_of_ble_eq_true rfl⟩) hM (fun z4_z H locs bz4_z hM hS => ?_)
    refine g_if_eq (tgt := 41) hx hb bz4_z h dX13_meet_13 (by decide) (fun h => ?_) (fun h => ?_)
    · refine lv_bipush (v := (-2)) hx hb dX13_meet_41 (by decide) ?_
      refine lv_goto (tgt := 60) hx hb dX13_meet_43 (by decide) ?_
      exact ret S _ _ _ _ (-2) ((show ((-2) : Int32).toInt = (-2) by decide).trans (Option.some.inj h)) rfl hM hS dX13_meet_60
    · refine lv_iload_n hx hb dX13_meet_16 rfl (lv_at hl 1 rfl) ?_
      refine lv_iload_n hx hb dX13_meet_17 rfl (lv_at hl 2 rfl) ?_
      refine g_icmp_eq (tgt := 41) hx hb hx1 hx2 h dX13_meet_18 (by decide) (fun h => ?_) (fun h => ?_)
      · refine lv_bipush (v := (-2)) hx hb dX13_meet_41 (by decide) ?_
        refine lv_goto (tgt := 60) hx hb dX13_meet_43 (by decide) ?_
        exact ret S _ _ _ _ (-2) ((show ((-2) : Int32).toInt = (-2) by decide).trans (Option.some.inj h)) rfl hM hS dX13_meet_60
      · refine lv_aload_n hx hb dX13_meet_21 rfl (lv_at hl 0 rfl) ?_
        refine m_get fl_X13_70_X13 C hM (i := 192) (by omega) (e_192 b kc T S) (v := .ref (b + 199)) rfl dX13_meet_22 ?_
        refine lv_iload_n hx hb dX13_meet_25 rfl (lv_at hl 1 rfl) ?_
        refine g_iald C hM (j := 199) (by omega) (jK_M b kc T (by omega)) (a_199 b kc) hS hx1 (B := 41) rfl h dX13_meet_26 (fun z5_z bz5_z h => ?_)
        refine lv_iconst (v := 5) hx hb dX13_meet_27 (by decide) ?_
        refine g_icmp_eq (tgt := 41) hx hb bz5_z (show (5 : Int32).toInt = 5 by decide) h dX13_meet_28 (by decide) (fun h => ?_) (fun h => ?_)
        · refine lv_bipush (v := (-2)) hx hb dX13_meet_41 (by decide) ?_
          refine lv_goto (tgt := 60) hx hb dX13_meet_43 (by decide) ?_
          exact ret S _ _ _ _ (-2) ((show ((-2) : Int32).toInt = (-2) by decide).trans (Option.some.inj h)) rfl hM hS dX13_meet_60
        · refine lv_aload_n hx hb dX13_meet_31 rfl (lv_at hl 0 rfl) ?_
          refine m_get fl_X13_70_X13 C hM (i := 192) (by omega) (e_192 b kc T S) (v := .ref (b + 199)) rfl dX13_meet_32 ?_
          refine lv_iload_n hx hb dX13_meet_35 rfl (lv_at hl 2 rfl) ?_
          refine g_iald C hM (j := 199) (by omega) (jK_M b kc T (by omega)) (a_199 b kc) hS hx2 (B := 41) rfl h dX13_meet_36 (fun z6_z bz6_z h => ?_)
          refine lv_iconst (v := 5) hx hb dX13_meet_37 (by decide) ?_
          refine g_icmp_ne (tgt := 46) hx hb bz6_z (show (5 : Int32).toInt = 5 by decide) h dX13_meet_38 (by decide) (fun h => ?_) (fun h => ?_)
          · refine lv_aload_n hx hb dX13_meet_46 rfl (lv_at hl 0 rfl) ?_
            refine lv_iload_n hx hb dX13_meet_47 rfl (lv_at hl 1 rfl) ?_
            refine lv_iload_n hx hb dX13_meet_48 rfl (lv_at hl 2 rfl) ?_
            obtain ⟨r7_z, cr7_z, h⟩ := w_b1E h
            refine g_callI (J := jM b kc T) (m_runV calV_X13_doMeet wd_1314 (g_M_doMeet l D kc b T S x1 v1 hx1 x2 v2 hx2 hS cr7_z) C hM (i := 192) (by omega) (e_192 b kc T S) rfl hl.1 rfl rfl (Nat.le_of_ble_eq_true rfl) dX13_meet_49 ⟨Nat.le_of_ble_eq_true rfl, Nat.le_of_ble_eq_true rfl⟩ ⟨Nat.le_of_ble_eq_true rfl, Nat.le_of_ble_eq_true rfl⟩) hM (fun z8_z H locs bz8_z hM hS => ?_)
            refine g_if_eq (tgt := 59) hx hb bz8_z h dX13_meet_52 (by decide) (fun h => ?_) (fun h => ?_)
            · refine lv_iconst (v := 0) hx hb dX13_meet_59 (by decide) ?_
              exact ret S _ _ _ _ 0 ((show (0 : Int32).toInt = 0 by decide).trans (Option.some.inj h)) rfl hM hS dX13_meet_60
            · refine lv_iconst (v := 1) hx hb dX13_meet_55 (by decide) ?_
              refine lv_goto (tgt := 60) hx hb dX13_meet_56 (by decide) ?_
              exact ret S _ _ _ _ 1 ((show (1 : Int32).toInt = 1 by decide).trans (Option.some.inj h)) rfl hM hS dX13_meet_60
          · refine lv_bipush (v := (-2)) hx hb dX13_meet_41 (by decide) ?_
            refine lv_goto (tgt := 60) hx hb dX13_meet_43 (by decide) ?_
            exact ret S _ _ _ _ (-2) ((show ((-2) : Int32).toInt = (-2) by decide).trans (Option.some.inj h)) rfl hM hS dX13_meet_60

def f_M_within (S : SS) (v1 : Int) (v2 : Int) : Option Int := w_b1 (f_M_isMark S v1) (fun r1_z => (if r1_z = 0 then some (-2) else w_b1 (f_M_isMark S v2) (fun r3_z => (if r3_z = 0 then some (-2) else (if v1 = v2 then some (-2) else w_chk (0 ≤ v1 ∧ v1 < 41) ((if gi S 199 (v1).toNat = 5 then some (-2) else w_chk (0 ≤ v2 ∧ v2 < 41) ((if gi S 199 (v2).toNat = 5 then some (-2) else w_b1 (f_M_isWithin S v1 v2) (fun r7_z => (if r7_z = 0 then some 0 else some 1)))))))))))
set_option maxHeartbeats 4000000 in
set_option maxRecDepth 100000 in
theorem g_M_within (l : Launch) (D : va_G) (kc : Nat → ClassId) (b : Nat) (T S : SS) (x1 : Int32) (v1 : Int) (hx1 : x1.toInt = v1) (x2 : Int32) (v2 : Int) (hx2 : x2.toInt = v2) (hS : rng S) {vr : Int} (h : f_M_within S v1 v2 = some vr) : cI l yX13_within cX13_within 3 .int 4 D kc b (jM b kc T) S [.ref (b + 192), .int x1, .int x2] vr S := by
  refine g_beg_i (by decide) (Nat.le_of_ble_eq_true rfl) ?_
  intro p e s m args below meth c Q C ret hM ls hl
  obtain ⟨hx, hb, hml, hown, hts, hE, hbs⟩ := id C
  have hl : lv_has ls 3 [(0, .ref (b + 192)), (1, .int x1), (2, .int x2)] := hl
  unfold f_M_within at h
  refine lv_aload_n hx hb dX13_within_0 rfl (lv_at hl 0 rfl) ?_
  refine lv_iload_n hx hb dX13_within_1 rfl (lv_at hl 1 rfl) ?_
  obtain ⟨r1_z, cr1_z, h⟩ := w_b1E h
  refine g_callI (J := jM b kc T) (m_runV calV_X13_isMark wd_1310 (g_M_isMark l D kc b T S x1 v1 hx1 hS cr1_z) C hM (i := 192) (by omega) (e_192 b kc T S) rfl hl.1 rfl rfl (Nat.le_of_ble_eq_true rfl) dX13_within_2 ⟨Nat.le_of_ble_eq_true rfl, Nat.le_of_ble_eq_true rfl⟩ ⟨Nat.le_of_ble_eq_true rfl, Nat.le_of_ble_eq_true rfl⟩) hM (fun z2_z H locs bz2_z hM hS => ?_)
  refine g_if_eq (tgt := 41) hx hb bz2_z h dX13_within_5 (by decide) (fun h => ?_) (fun h => ?_)
  · refine lv_bipush (v := (-2)) hx hb dX13_within_41 (by decide) ?_
    refine lv_goto (tgt := 60) hx hb dX13_within_43 (by decide) ?_
    exact ret S _ _ _ _ (-2) ((show ((-2) : Int32).toInt = (-2) by decide).trans (Option.some.inj h)) rfl hM hS dX13_within_60
  · refine lv_aload_n hx hb dX13_within_8 rfl (lv_at hl 0 rfl) ?_
    refine lv_iload_n hx hb dX13_within_9 rfl (lv_at hl 2 rfl) ?_
    obtain ⟨r3_z, cr3_z, h⟩ := w_b1E h
    refine g_callI (J := jM b kc T) (m_runV calV_X13_isMark wd_1310 (g_M_isMark l D kc b T S x2 v2 hx2 hS cr3_z) C hM (i := 192) (by omega) (e_192 b kc T S) rfl hl.1 rfl rfl (Nat.le_of_ble_eq_true rfl) dX13_within_10 ⟨Nat.le_of_ble_eq_true rfl, Nat.le_of_ble_eq_true rfl⟩ ⟨Nat.le_of_ble_eq_true rfl, Nat.le_of_ble_eq_true rfl⟩) hM (fun z4_z H locs bz4_z hM hS => ?_)
    refine g_if_eq (tgt := 41) hx hb bz4_z h dX13_within_13 (by decide) (fun h => ?_) (fun h => ?_)
    · refine lv_bipush (v := (-2)) hx hb dX13_within_41 (by decide) ?_
      refine lv_goto (tgt := 60) hx hb dX13_within_43 (by decide) ?_
      exact ret S _ _ _ _ (-2) ((show ((-2) : Int32).toInt = (-2) by decide).trans (Option.some.inj h)) rfl hM hS dX13_within_60
    · refine lv_iload_n hx hb dX13_within_16 rfl (lv_at hl 1 rfl) ?_
      refine lv_iload_n hx hb dX13_within_17 rfl (lv_at hl 2 rfl) ?_
      refine g_icmp_eq (tgt := 41) hx hb hx1 hx2 h dX13_within_18 (by decide) (fun h => ?_) (fun h => ?_)
      · refine lv_bipush (v := (-2)) hx hb dX13_within_41 (by decide) ?_
        refine lv_goto (tgt := 60) hx hb dX13_within_43 (by decide) ?_
        exact ret S _ _ _ _ (-2) ((show ((-2) : Int32).toInt = (-2) by decide).trans (Option.some.inj h)) rfl hM hS dX13_within_60
      · refine lv_aload_n hx hb dX13_within_21 rfl (lv_at hl 0 rfl) ?_
        refine m_get fl_X13_70_X13 C hM (i := 192) (by omega) (e_192 b kc T S) (v := .ref (b + 199)) rfl dX13_within_22 ?_
        refine lv_iload_n hx hb dX13_within_25 rfl (lv_at hl 1 rfl) ?_
        refine g_iald C hM (j := 199) (by omega) (jK_M b kc T (by omega)) (a_199 b kc) hS hx1 (B := 41) rfl h dX13_within_26 (fun z5_z bz5_z h => ?_)
        refine lv_iconst (v := 5) hx hb dX13_within_27 (by decide) ?_
        refine g_icmp_eq (tgt := 41) hx hb bz5_z (show (5 : Int32).toInt = 5 by decide) h dX13_within_28 (by decide) (fun h => ?_) (fun h => ?_)
        · refine lv_bipush (v := (-2)) hx hb dX13_within_41 (by decide) ?_
          refine lv_goto (tgt := 60) hx hb dX13_within_43 (by decide) ?_
          exact ret S _ _ _ _ (-2) ((show ((-2) : Int32).toInt = (-2) by decide).trans (Option.some.inj h)) rfl hM hS dX13_within_60
        · refine lv_aload_n hx hb dX13_within_31 rfl (lv_at hl 0 rfl) ?_
          refine m_get fl_X13_70_X13 C hM (i := 192) (by omega) (e_192 b kc T S) (v := .ref (b + 199)) rfl dX13_within_32 ?_
          refine lv_iload_n hx hb dX13_within_35 rfl (lv_at hl 2 rfl) ?_
          refine g_iald C hM (j := 199) (by omega) (jK_M b kc T (by omega)) (a_199 b kc) hS hx2 (B := 41) rfl h dX13_within_36 (fun z6_z bz6_z h => ?_)
          refine lv_iconst (v := 5) hx hb dX13_within_37 (by decide) ?_
          refine g_icmp_ne (tgt := 46) hx hb bz6_z (show (5 : Int32).toInt = 5 by decide) h dX13_within_38 (by decide) (fun h => ?_) (fun h => ?_)
          · refine lv_aload_n hx hb dX13_within_46 rfl (lv_at hl 0 rfl) ?_
            refine lv_iload_n hx hb dX13_within_47 rfl (lv_at hl 1 rfl) ?_
            refine lv_iload_n hx hb dX13_within_48 rfl (lv_at hl 2 rfl) ?_
            obtain ⟨r7_z, cr7_z, h⟩ := w_b1E h
            refine g_callI (J := jM b kc T) (m_runV calV_X13_isWithin wd_1318 (g_M_isWithin l D kc b T S x1 v1 hx1 x2 v2 hx2 hS cr7_z) C hM (i := 192) (by omega) (e_192 b kc T S) rfl hl.1 rfl rfl (Nat.le_of_ble_eq_true rfl) dX13_within_49 ⟨Nat.le_of_ble_eq_true rfl, Nat.le_of_ble_eq_true rfl⟩ ⟨Nat.le_of_ble_eq_true rfl, Nat.le_of_ble_eq_true rfl⟩) hM (fun z8_z H locs bz8_z hM hS => ?_)
            refine g_if_eq (tgt := 59) hx hb bz8_z h dX13_within_52 (by decide) (fun h => ?_) (fun h => ?_)
            · refine lv_iconst (v := 0) hx hb dX13_within_59 (by decide) ?_
              exact ret S _ _ _ _ 0 ((show (0 : Int32).toInt = 0 by decide).trans (Option.some.inj h)) rfl hM hS dX13_within_60
            · refine lv_iconst (v := 1) hx hb dX13_within_55 (by decide) ?_
              refine lv_goto (tgt := 60) hx hb dX13_within_56 (by decide) ?_
              exact ret S _ _ _ _ 1 ((show (1 : Int32).toInt = 1 by decide).trans (Option.some.inj h)) rfl hM hS dX13_within_60
          · refine lv_bipush (v := (-2)) hx hb dX13_within_41 (by decide) ?_
            refine lv_goto (tgt := 60) hx hb dX13_within_43 (by decide) ?_
            exact ret S _ _ _ _ (-2) ((show ((-2) : Int32).toInt = (-2) by decide).trans (Option.some.inj h)) rfl hM hS dX13_within_60

def f_M_judgeOne_45 (v1 : Int) (kf2_ : SS → Int → Option SS) (S : SS) (v2_ : Int) : Option SS := w_chk (i32 (v2_ + 1)) (kf2_ S (v2_ + 1))
def f_M_judgeOne_51 (v1 : Int) (S : SS) : Option SS := w_chk (0 ≤ v1 ∧ v1 < 40) ((if gi S 213 (v1).toNat = (-1) then w_chk (0 ≤ v1 ∧ v1 < 40) (w_lt (si S 212 (v1).toNat 0) (fun S2_z => some S2_z)) else some S))
def f_M_judgeOne_2_b (v1 : Int) (kf2_ : SS → Int → Option SS) (S : SS) (v2_ : Int) : Option SS := (if gi S 192 27 ≤ v2_ then f_M_judgeOne_51 v1 S  else w_chk (0 ≤ v1 ∧ v1 < 40) ((if gi S 213 (v1).toNat = (-1) then w_chk (0 ≤ v2_ ∧ v2_ < 40) ((if gi S 212 (v2_).toNat = 0 then w_b1 (f_M_doMeet S v1 v2_) (fun r4_z => (if r4_z = 0 then f_M_judgeOne_45 v1 kf2_ S v2_ else w_chk (0 ≤ v1 ∧ v1 < 40) (w_lt (si S 213 (v1).toNat v2_) (fun S6_z => f_M_judgeOne_45 v1 kf2_ S6_z v2_)))) else f_M_judgeOne_45 v1 kf2_ S v2_)) else f_M_judgeOne_51 v1 S )))
def f_M_judgeOne_2 (v1 : Int) : Nat → SS → Int → Option SS
  | 0 => fun _ _ => none
  | n + 1 => f_M_judgeOne_2_b v1 (f_M_judgeOne_2 v1 n)
def f_M_judgeOne (S : SS) (v1 : Int) : Option SS := f_M_judgeOne_2 v1 FU S 0
set_option maxHeartbeats 4000000 in
set_option maxRecDepth 100000 in
theorem g_M_judgeOne (l : Launch) (D : va_G) (kc : Nat → ClassId) (b : Nat) (T S : SS) (x1 : Int32) (v1 : Int) (hx1 : x1.toInt = v1) (hS : rng S) {Sr : SS} (h : f_M_judgeOne S v1 = some Sr) : cV l yX13_judgeOne cX13_judgeOne 3 5 D kc b (jM b kc T) S [.ref (b + 192), .int x1] Sr := by
  refine g_beg_v (by decide) (Nat.le_of_ble_eq_true rfl) ?_
  intro p e s m args below meth c Q C ret hM ls hl
  obtain ⟨hx, hb, hml, hown, hts, hE, hbs⟩ := id C
  have hl : lv_has ls 3 [(0, .ref (b + 192)), (1, .int x1)] := hl
  unfold f_M_judgeOne at h
  have B45 : ∀ (kf2_ : SS → Int → Option SS) (hkf2_ : ∀ (S : SS) (H : Heap) (locs : List Loc) (ls : Array Slot) (x2_ : Int32) (v2_ : Int) (hx2_ : x2_.toInt = v2_), rng S → mS D b s 220 (jM b kc T S) H locs → lv_has ls 3 [(0, .ref (b + 192)), (1, .int x1), (2, .int x2_)] → kf2_ S v2_ = some Sr → W p l e (mR 5 0 0) s m args below meth c H locs 0 0 Q (F0 m 2 ls [])), ∀ (S : SS) (H : Heap) (locs : List Loc) (ls : Array Slot) (x2_ : Int32) (v2_ : Int) (hx2_ : x2_.toInt = v2_), rng S → mS D b s 220 (jM b kc T S) H locs → lv_has ls 3 [(0, .ref (b + 192)), (1, .int x1), (2, .int x2_)] → f_M_judgeOne_45 v1 kf2_ S v2_ = some Sr → W p l e (mR 5 0 0) s m args below meth c H locs 0 0 Q (F0 m 45 ls []) := by
    intro kf2_ hkf2_ S H locs ls x2_ v2_ hx2_ hS hM hl h
    unfold f_M_judgeOne_45 at h
    refine g_iinc (y := 1) hx hb hx2_ (by decide) (by decide) h dX13_judgeOne_45 hl (k := 2) rfl (by decide) (fun z1_z ls bz1_z h hl => ?_)
    have hl : lv_has ls 3 [(2, .int z1_z), (0, .ref (b + 192)), (1, .int x1)] := hl
    refine lv_goto (tgt := 2) hx hb dX13_judgeOne_48 (by decide) ?_
    exact hkf2_ S _ _ _ z1_z (v2_ + 1) bz1_z hS hM (lv_sub hl [1, 2, 0] rfl) h
  have B51 : ∀ (S : SS) (H : Heap) (locs : List Loc) (ls : Array Slot), rng S → mS D b s 220 (jM b kc T S) H locs → lv_has ls 3 [(0, .ref (b + 192)), (1, .int x1)] → f_M_judgeOne_51 v1 S = some Sr → W p l e (mR 5 0 0) s m args below meth c H locs 0 0 Q (F0 m 51 ls []) := by
    intro S H locs ls hS hM hl h
    unfold f_M_judgeOne_51 at h
    refine lv_aload_n hx hb dX13_judgeOne_51 rfl (lv_at hl 0 rfl) ?_
    refine m_get fl_X13_114_X13 C hM (i := 192) (by omega) (e_192 b kc T S) (v := .ref (b + 213)) rfl dX13_judgeOne_52 ?_
    refine lv_iload_n hx hb dX13_judgeOne_55 rfl (lv_at hl 1 rfl) ?_
    refine g_iald C hM (j := 213) (by omega) (jK_M b kc T (by omega)) (a_213 b kc) hS hx1 (B := 40) rfl h dX13_judgeOne_56 (fun z1_z bz1_z h => ?_)
    refine lv_iconst (v := (-1)) hx hb dX13_judgeOne_57 (by decide) ?_
    refine g_icmp_ne (tgt := 68) hx hb bz1_z (show ((-1) : Int32).toInt = (-1) by decide) h dX13_judgeOne_58 (by decide) (fun h => ?_) (fun h => ?_)
    · exact ret S _ _ _ _ (Option.some.inj h) hM hS dX13_judgeOne_68
    · refine lv_aload_n hx hb dX13_judgeOne_61 rfl (lv_at hl 0 rfl) ?_
      refine m_get fl_X13_111_X13 C hM (i := 192) (by omega) (e_192 b kc T S) (v := .ref (b + 212)) rfl dX13_judgeOne_62 ?_
      refine lv_iload_n hx hb dX13_judgeOne_65 rfl (lv_at hl 1 rfl) ?_
      refine lv_iconst (v := 0) hx hb dX13_judgeOne_66 (by decide) ?_
      refine g_iast C hM (j := 212) (by omega) (jK_M b kc T (by omega)) (a_212 b kc) hS hx1 (show (0 : Int32).toInt = 0 by decide) (B := 40) rfl h dX13_judgeOne_67 (fun S2_z H locs h hM hS => ?_)
      exact ret S2_z _ _ _ _ (Option.some.inj h) hM hS dX13_judgeOne_68
  have B2 : ∀ (n : Nat), ∀ (S : SS) (H : Heap) (locs : List Loc) (ls : Array Slot) (x2_ : Int32) (v2_ : Int) (hx2_ : x2_.toInt = v2_), rng S → mS D b s 220 (jM b kc T S) H locs → lv_has ls 3 [(0, .ref (b + 192)), (1, .int x1), (2, .int x2_)] → f_M_judgeOne_2 v1 n S v2_ = some Sr → W p l e (mR 5 0 0) s m args below meth c H locs 0 0 Q (F0 m 2 ls []) := by
    intro n
    induction n with
    | zero => intro S H locs ls x2_ v2_ hx2_ hS hM hl h; exact absurd (h : none = some _) (fun q => nomatch q)
    | succ n hkf2_ =>
      intro S H locs ls x2_ v2_ hx2_ hS hM hl h
      have h : f_M_judgeOne_2_b v1 (f_M_judgeOne_2 v1 n) S v2_ = some Sr := h
      unfold f_M_judgeOne_2_b at h
      refine lv_iload_n hx hb dX13_judgeOne_2 rfl (lv_at hl 2 rfl) ?_
      refine lv_aload_n hx hb dX13_judgeOne_3 rfl (lv_at hl 0 rfl) ?_
      refine g_get fl_X13_153_X13 C hM (i := 192) (r := 192) (by omega) (e_192 b kc T S) rfl hS dX13_judgeOne_4 (fun z1_z bz1_z => ?_)
      refine g_icmp_ge (tgt := 51) hx hb hx2_ bz1_z h dX13_judgeOne_7 (by decide) (fun h => ?_) (fun h => ?_)
      · exact B51 S _ _ _ hS hM (lv_sub hl [0, 1] rfl) h
      · refine lv_aload_n hx hb dX13_judgeOne_10 rfl (lv_at hl 0 rfl) ?_
        refine m_get fl_X13_114_X13 C hM (i := 192) (by omega) (e_192 b kc T S) (v := .ref (b + 213)) rfl dX13_judgeOne_11 ?_
        refine lv_iload_n hx hb dX13_judgeOne_14 rfl (lv_at hl 1 rfl) ?_
        refine g_iald C hM (j := 213) (by omega) (jK_M b kc T (by omega)) (a_213 b kc) hS hx1 (B := 40) rfl h dX13_judgeOne_15 (fun z2_z bz2_z h => ?_)
        refine lv_iconst (v := (-1)) hx hb dX13_judgeOne_16 (by decide) ?_
        refine g_icmp_ne (tgt := 51) hx hb bz2_z (show ((-1) : Int32).toInt = (-1) by decide) h dX13_judgeOne_17 (by decide) (fun h => ?_) (fun h => ?_)
        · exact B51 S _ _ _ hS hM (lv_sub hl [0, 1] rfl) h
        · refine lv_aload_n hx hb dX13_judgeOne_20 rfl (lv_at hl 0 rfl) ?_
          refine m_get fl_X13_111_X13 C hM (i := 192) (by omega) (e_192 b kc T S) (v := .ref (b + 212)) rfl dX13_judgeOne_21 ?_
          refine lv_iload_n hx hb dX13_judgeOne_24 rfl (lv_at hl 2 rfl) ?_
          refine g_iald C hM (j := 212) (by omega) (jK_M b kc T (by omega)) (a_212 b kc) hS hx2_ (B := 40) rfl h dX13_judgeOne_25 (fun z3_z bz3_z h => ?_)
          refine g_if_ne (tgt := 45) hx hb bz3_z h dX13_judgeOne_26 (by decide) (fun h => ?_) (fun h => ?_)
          · exact B45 (f_M_judgeOne_2 v1 n) hkf2_ S _ _ _ x2_ v2_ hx2_ hS hM (lv_sub hl [0, 1, 2] rfl) h
          · refine lv_aload_n hx hb dX13_judgeOne_29 rfl (lv_at hl 0 rfl) ?_
            refine lv_iload_n hx hb dX13_judgeOne_30 rfl (lv_at hl 1 rfl) ?_
            refine lv_iload_n hx hb dX13_judgeOne_31 rfl (lv_at hl 2 rfl) ?_
            obtain ⟨r4_z, cr4_z, h⟩ := w_b1E h
            refine g_callI (J := jM b kc T) (m_runV calV_X13_doMeet wd_1314 (g_M_doMeet l D kc b T S x1 v1 hx1 x2_ v2_ hx2_ hS cr4_z) C hM (i := 192) (by omega) (e_192 b kc T S) rfl hl.1 rfl rfl (Nat.le_of_ble_eq_true rfl) dX13_judgeOne_32 ⟨Nat.le_of_ble_eq_true rfl, Nat.le_of_ble_eq_true rfl⟩ ⟨Nat.le_of_ble_eq_true rfl, Nat.le_of_ble_eq_true rfl⟩) hM (fun z5_z H locs bz5_z hM hS => ?_)
            refine g_if_eq (tgt := 45) hx hb bz5_z h dX13_judgeOne_35 (by decide) (fun h => ?_) (fun h => ?_)
            · exact B45 (f_M_judgeOne_2 v1 n) hkf2_ S _ _ _ x2_ v2_ hx2_ hS hM (lv_sub hl [0, 1, 2] rfl) h
            · refine lv_aload_n hx hb dX13_judgeOne_38 rfl (lv_at hl 0 rfl) ?_
              refine m_get fl_X13_114_X13 C hM (i := 192) (by omega) (e_192 b kc T S) (v := .ref (b + 213)) rfl dX13_judgeOne_39 ?_
              refine lv_iload_n hx hb dX13_judgeOne_42 rfl (lv_at hl 1 rfl) ?_
              refine lv_iload_n hx hb dX13_judgeOne_43 rfl (lv_at hl 2 rfl) ?_
              refine g_iast C hM (j := 213) (by omega) (jK_M b kc T (by omega)) (a_213 b kc) hS hx1 hx2_ (B := 40) rfl h dX13_judgeOne_44 (fun S6_z H locs h hM hS => ?_)
              exact B45 (f_M_judgeOne_2 v1 n) hkf2_ S6_z _ _ _ x2_ v2_ hx2_ hS hM (lv_sub hl [0, 1, 2] rfl) h
  refine lv_iconst (v := 0) hx hb dX13_judgeOne_0 (by decide) ?_
  refine lv_istore_n (lv' := [(2, .int 0), (0, .ref (b + 192)), (1, .int x1)]) hx hb dX13_judgeOne_1 rfl hl (by decide) rfl (fun ls hl => ?_)
  exact B2 FU S _ _ _ 0 0 (show (0 : Int32).toInt = 0 by decide) hS hM (lv_sub hl [1, 2, 0] rfl) h

def f_M_judge_56 (kf2_ : SS → Int → Option SS) (kf24_ : SS → Int → Int → Option SS) (S : SS) (v1_ : Int) (v2_ : Int) : Option SS := w_chk (i32 (v2_ + (-1))) (kf24_ S v1_ (v2_ + (-1)))
def f_M_judge_137 (kf2_ : SS → Int → Option SS) (S : SS) (v1_ : Int) (vt0_ : Int) (vt1_ : Int) : Option SS := w_chk (0 ≤ vt1_ ∧ vt1_ < 40) (w_lt (si S 212 (vt1_).toNat vt0_) (fun S1_z => w_chk (i32 (v1_ + 1)) (kf2_ S1_z (v1_ + 1))))
def f_M_judge_110 (kf2_ : SS → Int → Option SS) (S : SS) (v1_ : Int) (vt0_ : Int) : Option SS := f_M_judge_137 kf2_ S v1_ 2 vt0_
def f_M_judge_136 (kf2_ : SS → Int → Option SS) (S : SS) (v1_ : Int) (vt0_ : Int) : Option SS := f_M_judge_137 kf2_ S v1_ 1 vt0_
def f_M_judge_114 (kf2_ : SS → Int → Option SS) (S : SS) (v1_ : Int) (vt0_ : Int) : Option SS := w_chk (0 ≤ v1_ ∧ v1_ < 41) ((if gi S 207 (v1_).toNat = 0 then f_M_judge_136 kf2_ S v1_ vt0_ else w_chk (0 ≤ v1_ ∧ v1_ < 41) ((if gi S 205 (v1_).toNat = 0 then f_M_judge_137 kf2_ S v1_ 3 vt0_ else f_M_judge_136 kf2_ S v1_ vt0_))))
def f_M_judge_24_b (kf2_ : SS → Int → Option SS) (kf24_ : SS → Int → Int → Option SS) (S : SS) (v1_ : Int) (v2_ : Int) : Option SS := (if v2_ ≤ v1_ then w_chk (0 ≤ v1_ ∧ v1_ < 41) ((if gi S 199 (v1_).toNat = 5 then f_M_judge_137 kf2_ S v1_ 4 v1_ else w_chk (0 ≤ v1_ ∧ v1_ < 40) ((if gi S 213 (v1_).toNat = (-1) then w_chk (0 ≤ v1_ ∧ v1_ < 41) ((if gi S 207 (v1_).toNat = 0 then f_M_judge_114 kf2_ S v1_ v1_ else w_chk (0 ≤ v1_ ∧ v1_ < 41) ((if gi S 205 (v1_).toNat = 2 then f_M_judge_110 kf2_ S v1_ v1_ else f_M_judge_114 kf2_ S v1_ v1_)))) else f_M_judge_110 kf2_ S v1_ v1_)))) else w_chk (0 ≤ v2_ ∧ v2_ < 41) ((if gi S 199 (v2_).toNat = 5 then w_chk (0 ≤ v2_ ∧ v2_ < 41) ((if gi S 201 (v2_).toNat = v1_ then w_chk (0 ≤ v1_ ∧ v1_ < 40) (w_lt (si S 213 (v1_).toNat v2_) (fun S7_z => f_M_judge_56 kf2_ kf24_ S7_z v1_ v2_)) else f_M_judge_56 kf2_ kf24_ S v1_ v2_)) else f_M_judge_56 kf2_ kf24_ S v1_ v2_)))
def f_M_judge_24 (kf2_ : SS → Int → Option SS) : Nat → SS → Int → Int → Option SS
  | 0 => fun _ _ _ => none
  | n + 1 => f_M_judge_24_b kf2_ (f_M_judge_24 kf2_ n)
def f_M_judge_192 (kf146_ : SS → Int → Option SS) (kf154_ : SS → Int → Int → Option SS) (S : SS) (v1_ : Int) (v2_ : Int) : Option SS := w_chk (i32 (v2_ + 1)) (kf154_ S v1_ (v2_ + 1))
def f_M_judge_154_b (kf146_ : SS → Int → Option SS) (kf154_ : SS → Int → Int → Option SS) (S : SS) (v1_ : Int) (v2_ : Int) : Option SS := (if gi S 192 27 ≤ v2_ then w_chk (i32 (v1_ + 1)) (kf146_ S (v1_ + 1)) else w_chk (0 ≤ v2_ ∧ v2_ < 40) ((if gi S 212 (v2_).toNat = 1 then w_chk (0 ≤ v2_ ∧ v2_ < 41) (w_chk (0 ≤ (gi S 200 (v2_).toNat) ∧ (gi S 200 (v2_).toNat) < 3) ((if gi S 209 (gi S 200 (v2_).toNat).toNat = v1_ then w_b1 (f_M_judgeOne S v2_) (fun S6_z => f_M_judge_192 kf146_ kf154_ S6_z v1_ v2_) else f_M_judge_192 kf146_ kf154_ S v1_ v2_))) else f_M_judge_192 kf146_ kf154_ S v1_ v2_)))
def f_M_judge_154 (kf146_ : SS → Int → Option SS) : Nat → SS → Int → Int → Option SS
  | 0 => fun _ _ _ => none
  | n + 1 => f_M_judge_154_b kf146_ (f_M_judge_154 kf146_ n)
def f_M_judge_146_b (kf146_ : SS → Int → Option SS) (S : SS) (v1_ : Int) : Option SS := (if 10 ≤ v1_ then some S else f_M_judge_154 kf146_ FU S v1_ 0)
def f_M_judge_146 : Nat → SS → Int → Option SS
  | 0 => fun _ _ => none
  | n + 1 => f_M_judge_146_b (f_M_judge_146 n)
def f_M_judge_2_b (kf2_ : SS → Int → Option SS) (S : SS) (v1_ : Int) : Option SS := (if gi S 192 27 ≤ v1_ then f_M_judge_146 FU S 0 else w_chk (0 ≤ v1_ ∧ v1_ < 40) (w_lt (si S 213 (v1_).toNat (-1)) (fun S2_z => w_chk (i32 ((gi S2_z 192 27) - 1)) (f_M_judge_24 kf2_ FU S2_z v1_ ((gi S2_z 192 27) - 1)))))
def f_M_judge_2 : Nat → SS → Int → Option SS
  | 0 => fun _ _ => none
  | n + 1 => f_M_judge_2_b (f_M_judge_2 n)
def f_M_judge (S : SS) : Option SS := f_M_judge_2 FU S 0
set_option maxHeartbeats 4000000 in
set_option maxRecDepth 100000 in
theorem g_M_judge (l : Launch) (D : va_G) (kc : Nat → ClassId) (b : Nat) (T S : SS) (hS : rng S) {Sr : SS} (h : f_M_judge S = some Sr) : cV l yX13_judge cX13_judge 3 6 D kc b (jM b kc T) S [.ref (b + 192)] Sr := by
  refine g_beg_v (by decide) (Nat.le_of_ble_eq_true rfl) ?_
  intro p e s m args below meth c Q C ret hM ls hl
  obtain ⟨hx, hb, hml, hown, hts, hE, hbs⟩ := id C
  have hl : lv_has ls 3 [(0, .ref (b + 192))] := hl
  unfold f_M_judge at h
  have B56 : ∀ (kf2_ : SS → Int → Option SS) (hkf2_ : ∀ (S : SS) (H : Heap) (locs : List Loc) (ls : Array Slot) (x1_ : Int32) (v1_ : Int) (hx1_ : x1_.toInt = v1_), rng S → mS D b s 220 (jM b kc T S) H locs → lv_has ls 3 [(0, .ref (b + 192)), (1, .int x1_)] → kf2_ S v1_ = some Sr → W p l e (mR 6 0 0) s m args below meth c H locs 0 0 Q (F0 m 2 ls [])) (kf24_ : SS → Int → Int → Option SS) (hkf24_ : ∀ (S : SS) (H : Heap) (locs : List Loc) (ls : Array Slot) (x1_ : Int32) (v1_ : Int) (hx1_ : x1_.toInt = v1_) (x2_ : Int32) (v2_ : Int) (hx2_ : x2_.toInt = v2_), rng S → mS D b s 220 (jM b kc T S) H locs → lv_has ls 3 [(0, .ref (b + 192)), (1, .int x1_), (2, .int x2_)] → kf24_ S v1_ v2_ = some Sr → W p l e (mR 6 0 0) s m args below meth c H locs 0 0 Q (F0 m 24 ls [])), ∀ (S : SS) (H : Heap) (locs : List Loc) (ls : Array Slot) (x1_ : Int32) (v1_ : Int) (hx1_ : x1_.toInt = v1_) (x2_ : Int32) (v2_ : Int) (hx2_ : x2_.toInt = v2_), rng S → mS D b s 220 (jM b kc T S) H locs → lv_has ls 3 [(0, .ref (b + 192)), (1, .int x1_), (2, .int x2_)] → f_M_judge_56 kf2_ kf24_ S v1_ v2_ = some Sr → W p l e (mR 6 0 0) s m args below meth c H locs 0 0 Q (F0 m 56 ls []) := by
    intro kf2_ hkf2_ kf24_ hkf24_ S H locs ls x1_ v1_ hx1_ x2_ v2_ hx2_ hS hM hl h
    unfold f_M_judge_56 at h
    refine g_iinc (y := (-1)) hx hb hx2_ (by decide) (by decide) h dX13_judge_56 hl (k := 2) rfl (by decide) (fun z1_z ls bz1_z h hl => ?_)
    have hl : lv_has ls 3 [(2, .int z1_z), (0, .ref (b + 192)), (1, .int x1_)] := hl
    refine lv_goto (tgt := 24) hx hb dX13_judge_59 (by decide) ?_
    exact hkf24_ S _ _ _ x1_ v1_ hx1_ z1_z (v2_ + (-1)) bz1_z hS hM (lv_sub hl [1, 2, 0] rfl) h
  have B137 : ∀ (kf2_ : SS → Int → Option SS) (hkf2_ : ∀ (S : SS) (H : Heap) (locs : List Loc) (ls : Array Slot) (x1_ : Int32) (v1_ : Int) (hx1_ : x1_.toInt = v1_), rng S → mS D b s 220 (jM b kc T S) H locs → lv_has ls 3 [(0, .ref (b + 192)), (1, .int x1_)] → kf2_ S v1_ = some Sr → W p l e (mR 6 0 0) s m args below meth c H locs 0 0 Q (F0 m 2 ls [])), ∀ (S : SS) (H : Heap) (locs : List Loc) (ls : Array Slot) (x1_ : Int32) (v1_ : Int) (hx1_ : x1_.toInt = v1_) (xt0_ : Int32) (vt0_ : Int) (hxt0_ : xt0_.toInt = vt0_) (xt1_ : Int32) (vt1_ : Int) (hxt1_ : xt1_.toInt = vt1_), rng S → mS D b s 220 (jM b kc T S) H locs → lv_has ls 3 [(0, .ref (b + 192)), (1, .int x1_)] → f_M_judge_137 kf2_ S v1_ vt0_ vt1_ = some Sr → W p l e (mR 6 0 0) s m args below meth c H locs 0 0 Q (F0 m 137 ls [.int xt0_, .int xt1_, .ref (b + 212)]) := by
    intro kf2_ hkf2_ S H locs ls x1_ v1_ hx1_ xt0_ vt0_ hxt0_ xt1_ vt1_ hxt1_ hS hM hl h
    unfold f_M_judge_137 at h
    refine g_iast C hM (j := 212) (by omega) (jK_M b kc T (by omega)) (a_212 b kc) hS hxt1_ hxt0_ (B := 40) rfl h dX13_judge_137 (fun S1_z H locs h hM hS => ?_)
    refine g_iinc (y := 1) hx hb hx1_ (by decide) (by decide) h dX13_judge_138 hl (k := 1) rfl (by decide) (fun z2_z ls bz2_z h hl => ?_)
    have hl : lv_has ls 3 [(1, .int z2_z), (0, .ref (b + 192))] := hl
    refine lv_goto (tgt := 2) hx hb dX13_judge_141 (by decide) ?_
    exact hkf2_ S1_z _ _ _ z2_z (v1_ + 1) bz2_z hS hM (lv_sub hl [1, 0] rfl) h
  have B110 : ∀ (kf2_ : SS → Int → Option SS) (hkf2_ : ∀ (S : SS) (H : Heap) (locs : List Loc) (ls : Array Slot) (x1_ : Int32) (v1_ : Int) (hx1_ : x1_.toInt = v1_), rng S → mS D b s 220 (jM b kc T S) H locs → lv_has ls 3 [(0, .ref (b + 192)), (1, .int x1_)] → kf2_ S v1_ = some Sr → W p l e (mR 6 0 0) s m args below meth c H locs 0 0 Q (F0 m 2 ls [])), ∀ (S : SS) (H : Heap) (locs : List Loc) (ls : Array Slot) (x1_ : Int32) (v1_ : Int) (hx1_ : x1_.toInt = v1_) (xt0_ : Int32) (vt0_ : Int) (hxt0_ : xt0_.toInt = vt0_), rng S → mS D b s 220 (jM b kc T S) H locs → lv_has ls 3 [(0, .ref (b + 192)), (1, .int x1_)] → f_M_judge_110 kf2_ S v1_ vt0_ = some Sr → W p l e (mR 6 0 0) s m args below meth c H locs 0 0 Q (F0 m 110 ls [.int xt0_, .ref (b + 212)]) := by
    intro kf2_ hkf2_ S H locs ls x1_ v1_ hx1_ xt0_ vt0_ hxt0_ hS hM hl h
    unfold f_M_judge_110 at h
    refine lv_iconst (v := 2) hx hb dX13_judge_110 (by decide) ?_
    refine lv_goto (tgt := 137) hx hb dX13_judge_111 (by decide) ?_
    exact B137 kf2_ hkf2_ S _ _ _ x1_ v1_ hx1_ 2 2 (show (2 : Int32).toInt = 2 by decide) xt0_ vt0_ hxt0_ hS hM (lv_sub hl [0, 1] rfl) h
  have B136 : ∀ (kf2_ : SS → Int → Option SS) (hkf2_ : ∀ (S : SS) (H : Heap) (locs : List Loc) (ls : Array Slot) (x1_ : Int32) (v1_ : Int) (hx1_ : x1_.toInt = v1_), rng S → mS D b s 220 (jM b kc T S) H locs → lv_has ls 3 [(0, .ref (b + 192)), (1, .int x1_)] → kf2_ S v1_ = some Sr → W p l e (mR 6 0 0) s m args below meth c H locs 0 0 Q (F0 m 2 ls [])), ∀ (S : SS) (H : Heap) (locs : List Loc) (ls : Array Slot) (x1_ : Int32) (v1_ : Int) (hx1_ : x1_.toInt = v1_) (xt0_ : Int32) (vt0_ : Int) (hxt0_ : xt0_.toInt = vt0_), rng S → mS D b s 220 (jM b kc T S) H locs → lv_has ls 3 [(0, .ref (b + 192)), (1, .int x1_)] → f_M_judge_136 kf2_ S v1_ vt0_ = some Sr → W p l e (mR 6 0 0) s m args below meth c H locs 0 0 Q (F0 m 136 ls [.int xt0_, .ref (b + 212)]) := by
    intro kf2_ hkf2_ S H locs ls x1_ v1_ hx1_ xt0_ vt0_ hxt0_ hS hM hl h
    unfold f_M_judge_136 at h
    refine lv_iconst (v := 1) hx hb dX13_judge_136 (by decide) ?_
    exact B137 kf2_ hkf2_ S _ _ _ x1_ v1_ hx1_ 1 1 (show (1 : Int32).toInt = 1 by decide) xt0_ vt0_ hxt0_ hS hM (lv_sub hl [0, 1] rfl) h
  have B114 : ∀ (kf2_ : SS → Int → Option SS) (hkf2_ : ∀ (S : SS) (H : Heap) (locs : List Loc) (ls : Array Slot) (x1_ : Int32) (v1_ : Int) (hx1_ : x1_.toInt = v1_), rng S → mS D b s 220 (jM b kc T S) H locs → lv_has ls 3 [(0, .ref (b + 192)), (1, .int x1_)] → kf2_ S v1_ = some Sr → W p l e (mR 6 0 0) s m args below meth c H locs 0 0 Q (F0 m 2 ls [])), ∀ (S : SS) (H : Heap) (locs : List Loc) (ls : Array Slot) (x1_ : Int32) (v1_ : Int) (hx1_ : x1_.toInt = v1_) (xt0_ : Int32) (vt0_ : Int) (hxt0_ : xt0_.toInt = vt0_), rng S → mS D b s 220 (jM b kc T S) H locs → lv_has ls 3 [(0, .ref (b + 192)), (1, .int x1_)] → f_M_judge_114 kf2_ S v1_ vt0_ = some Sr → W p l e (mR 6 0 0) s m args below meth c H locs 0 0 Q (F0 m 114 ls [.int xt0_, .ref (b + 212)]) := by
    intro kf2_ hkf2_ S H locs ls x1_ v1_ hx1_ xt0_ vt0_ hxt0_ hS hM hl h
    unfold f_M_judge_114 at h
    refine lv_aload_n hx hb dX13_judge_114 rfl (lv_at hl 0 rfl) ?_
    refine m_get fl_X13_95_X13 C hM (i := 192) (by omega) (e_192 b kc T S) (v := .ref (b + 207)) rfl dX13_judge_115 ?_
    refine lv_iload_n hx hb dX13_judge_118 rfl (lv_at hl 1 rfl) ?_
    refine g_zald C hM (j := 207) (by omega) (jK_M b kc T (by omega)) (a_207 b kc) hS hx1_ (B := 41) rfl h dX13_judge_119 (fun z1_z bz1_z h => ?_)
    refine g_if_eq (tgt := 136) hx hb bz1_z h dX13_judge_120 (by decide) (fun h => ?_) (fun h => ?_)
    · exact B136 kf2_ hkf2_ S _ _ _ x1_ v1_ hx1_ xt0_ vt0_ hxt0_ hS hM (lv_sub hl [0, 1] rfl) h
    · refine lv_aload_n hx hb dX13_judge_123 rfl (lv_at hl 0 rfl) ?_
      refine m_get fl_X13_89_X13 C hM (i := 192) (by omega) (e_192 b kc T S) (v := .ref (b + 205)) rfl dX13_judge_124 ?_
      refine lv_iload_n hx hb dX13_judge_127 rfl (lv_at hl 1 rfl) ?_
      refine g_iald C hM (j := 205) (by omega) (jK_M b kc T (by omega)) (a_205 b kc) hS hx1_ (B := 41) rfl h dX13_judge_128 (fun z2_z bz2_z h => ?_)
      refine g_if_ne (tgt := 136) hx hb bz2_z h dX13_judge_129 (by decide) (fun h => ?_) (fun h => ?_)
      · exact B136 kf2_ hkf2_ S _ _ _ x1_ v1_ hx1_ xt0_ vt0_ hxt0_ hS hM (lv_sub hl [0, 1] rfl) h
      · refine lv_iconst (v := 3) hx hb dX13_judge_132 (by decide) ?_
        refine lv_goto (tgt := 137) hx hb dX13_judge_133 (by decide) ?_
        exact B137 kf2_ hkf2_ S _ _ _ x1_ v1_ hx1_ 3 3 (show (3 : Int32).toInt = 3 by decide) xt0_ vt0_ hxt0_ hS hM (lv_sub hl [0, 1] rfl) h
  have B24 : ∀ (kf2_ : SS → Int → Option SS) (hkf2_ : ∀ (S : SS) (H : Heap) (locs : List Loc) (ls : Array Slot) (x1_ : Int32) (v1_ : Int) (hx1_ : x1_.toInt = v1_), rng S → mS D b s 220 (jM b kc T S) H locs → lv_has ls 3 [(0, .ref (b + 192)), (1, .int x1_)] → kf2_ S v1_ = some Sr → W p l e (mR 6 0 0) s m args below meth c H locs 0 0 Q (F0 m 2 ls [])) (n : Nat), ∀ (S : SS) (H : Heap) (locs : List Loc) (ls : Array Slot) (x1_ : Int32) (v1_ : Int) (hx1_ : x1_.toInt = v1_) (x2_ : Int32) (v2_ : Int) (hx2_ : x2_.toInt = v2_), rng S → mS D b s 220 (jM b kc T S) H locs → lv_has ls 3 [(0, .ref (b + 192)), (1, .int x1_), (2, .int x2_)] → f_M_judge_24 kf2_ n S v1_ v2_ = some Sr → W p l e (mR 6 0 0) s m args below meth c H locs 0 0 Q (F0 m 24 ls []) := by
    intro kf2_ hkf2_ n
    induction n with
    | zero => intro S H locs ls x1_ v1_ hx1_ x2_ v2_ hx2_ hS hM hl h; exact absurd (h : none = some _) (fun q => nomatch q)
    | succ n hkf24_ =>
      intro S H locs ls x1_ v1_ hx1_ x2_ v2_ hx2_ hS hM hl h
      have h : f_M_judge_24_b kf2_ (f_M_judge_24 kf2_ n) S v1_ v2_ = some Sr := h
      unfold f_M_judge_24_b at h
      refine lv_iload_n hx hb dX13_judge_24 rfl (lv_at hl 2 rfl) ?_
      refine lv_iload_n hx hb dX13_judge_25 rfl (lv_at hl 1 rfl) ?_
      refine g_icmp_le (tgt := 62) hx hb hx2_ hx1_ h dX13_judge_26 (by decide) (fun h => ?_) (fun h => ?_)
      · refine lv_aload_n hx hb dX13_judge_62 rfl (lv_at hl 0 rfl) ?_
        refine m_get fl_X13_111_X13 C hM (i := 192) (by omega) (e_192 b kc T S) (v := .ref (b + 212)) rfl dX13_judge_63 ?_
        refine lv_iload_n hx hb dX13_judge_66 rfl (lv_at hl 1 rfl) ?_
        refine lv_aload_n hx hb dX13_judge_67 rfl (lv_at hl 0 rfl) ?_
        refine m_get fl_X13_70_X13 C hM (i := 192) (by omega) (e_192 b kc T S) (v := .ref (b + 199)) rfl dX13_judge_68 ?_
        refine lv_iload_n hx hb dX13_judge_71 rfl (lv_at hl 1 rfl) ?_
        refine g_iald C hM (j := 199) (by omega) (jK_M b kc T (by omega)) (a_199 b kc) hS hx1_ (B := 41) rfl h dX13_judge_72 (fun z1_z bz1_z h => ?_)
        refine lv_iconst (v := 5) hx hb dX13_judge_73 (by decide) ?_
        refine g_icmp_ne (tgt := 81) hx hb bz1_z (show (5 : Int32).toInt = 5 by decide) h dX13_judge_74 (by decide) (fun h => ?_) (fun h => ?_)
        · refine lv_aload_n hx hb dX13_judge_81 rfl (lv_at hl 0 rfl) ?_
          refine m_get fl_X13_114_X13 C hM (i := 192) (by omega) (e_192 b kc T S) (v := .ref (b + 213)) rfl dX13_judge_82 ?_
          refine lv_iload_n hx hb dX13_judge_85 rfl (lv_at hl 1 rfl) ?_
          refine g_iald C hM (j := 213) (by omega) (jK_M b kc T (by omega)) (a_213 b kc) hS hx1_ (B := 40) rfl h dX13_judge_86 (fun z2_z bz2_z h => ?_)
          refine lv_iconst (v := (-1)) hx hb dX13_judge_87 (by decide) ?_
          refine g_icmp_ne (tgt := 110) hx hb bz2_z (show ((-1) : Int32).toInt = (-1) by decide) h dX13_judge_88 (by decide) (fun h => ?_) (fun h => ?_)
          · exact B110 kf2_ hkf2_ S _ _ _ x1_ v1_ hx1_ x1_ v1_ hx1_ hS hM (lv_sub hl [0, 1] rfl) h
          · refine lv_aload_n hx hb dX13_judge_91 rfl (lv_at hl 0 rfl) ?_
            refine m_get fl_X13_95_X13 C hM (i := 192) (by omega) (e_192 b kc T S) (v := .ref (b + 207)) rfl dX13_judge_92 ?_
            refine lv_iload_n hx hb dX13_judge_95 rfl (lv_at hl 1 rfl) ?_
            refine g_zald C hM (j := 207) (by omega) (jK_M b kc T (by omega)) (a_207 b kc) hS hx1_ (B := 41) rfl h dX13_judge_96 (fun z3_z bz3_z h => ?_)
            refine g_if_eq (tgt := 114) hx hb bz3_z h dX13_judge_97 (by decide) (fun h => ?_) (fun h => ?_)
            · exact B114 kf2_ hkf2_ S _ _ _ x1_ v1_ hx1_ x1_ v1_ hx1_ hS hM (lv_sub hl [0, 1] rfl) h
            · refine lv_aload_n hx hb dX13_judge_100 rfl (lv_at hl 0 rfl) ?_
              refine m_get fl_X13_89_X13 C hM (i := 192) (by omega) (e_192 b kc T S) (v := .ref (b + 205)) rfl dX13_judge_101 ?_
              refine lv_iload_n hx hb dX13_judge_104 rfl (lv_at hl 1 rfl) ?_
              refine g_iald C hM (j := 205) (by omega) (jK_M b kc T (by omega)) (a_205 b kc) hS hx1_ (B := 41) rfl h dX13_judge_105 (fun z4_z bz4_z h => ?_)
              refine lv_iconst (v := 2) hx hb dX13_judge_106 (by decide) ?_
              refine g_icmp_ne (tgt := 114) hx hb bz4_z (show (2 : Int32).toInt = 2 by decide) h dX13_judge_107 (by decide) (fun h => ?_) (fun h => ?_)
              · exact B114 kf2_ hkf2_ S _ _ _ x1_ v1_ hx1_ x1_ v1_ hx1_ hS hM (lv_sub hl [0, 1] rfl) h
              · exact B110 kf2_ hkf2_ S _ _ _ x1_ v1_ hx1_ x1_ v1_ hx1_ hS hM (lv_sub hl [0, 1] rfl) h
        · refine lv_iconst (v := 4) hx hb dX13_judge_77 (by decide) ?_
          refine lv_goto (tgt := 137) hx hb dX13_judge_78 (by decide) ?_
          exact B137 kf2_ hkf2_ S _ _ _ x1_ v1_ hx1_ 4 4 (show (4 : Int32).toInt = 4 by decide) x1_ v1_ hx1_ hS hM (lv_sub hl [0, 1] rfl) h
      · refine lv_aload_n hx hb dX13_judge_29 rfl (lv_at hl 0 rfl) ?_
        refine m_get fl_X13_70_X13 C hM (i := 192) (by omega) (e_192 b kc T S) (v := .ref (b + 199)) rfl dX13_judge_30 ?_
        refine lv_iload_n hx hb dX13_judge_33 rfl (lv_at hl 2 rfl) ?_
        refine g_iald C hM (j := 199) (by omega) (jK_M b kc T (by omega)) (a_199 b kc) hS hx2_ (B := 41) rfl h dX13_judge_34 (fun z5_z bz5_z h => ?_)
        refine lv_iconst (v := 5) hx hb dX13_judge_35 (by decide) ?_
        refine g_icmp_ne (tgt := 56) hx hb bz5_z (show (5 : Int32).toInt = 5 by decide) h dX13_judge_36 (by decide) (fun h => ?_) (fun h => ?_)
        · exact B56 kf2_ hkf2_ (f_M_judge_24 kf2_ n) hkf24_ S _ _ _ x1_ v1_ hx1_ x2_ v2_ hx2_ hS hM (lv_sub hl [0, 1, 2] rfl) h
        · refine lv_aload_n hx hb dX13_judge_39 rfl (lv_at hl 0 rfl) ?_
          refine m_get fl_X13_77_X13 C hM (i := 192) (by omega) (e_192 b kc T S) (v := .ref (b + 201)) rfl dX13_judge_40 ?_
          refine lv_iload_n hx hb dX13_judge_43 rfl (lv_at hl 2 rfl) ?_
          refine g_iald C hM (j := 201) (by omega) (jK_M b kc T (by omega)) (a_201 b kc) hS hx2_ (B := 41) rfl h dX13_judge_44 (fun z6_z bz6_z h => ?_)
          refine lv_iload_n hx hb dX13_judge_45 rfl (lv_at hl 1 rfl) ?_
          refine g_icmp_ne (tgt := 56) hx hb bz6_z hx1_ h dX13_judge_46 (by decide) (fun h => ?_) (fun h => ?_)
          · exact B56 kf2_ hkf2_ (f_M_judge_24 kf2_ n) hkf24_ S _ _ _ x1_ v1_ hx1_ x2_ v2_ hx2_ hS hM (lv_sub hl [0, 1, 2] rfl) h
          · refine lv_aload_n hx hb dX13_judge_49 rfl (lv_at hl 0 rfl) ?_
            refine m_get fl_X13_114_X13 C hM (i := 192) (by omega) (e_192 b kc T S) (v := .ref (b + 213)) rfl dX13_judge_50 ?_
            refine lv_iload_n hx hb dX13_judge_53 rfl (lv_at hl 1 rfl) ?_
            refine lv_iload_n hx hb dX13_judge_54 rfl (lv_at hl 2 rfl) ?_
            refine g_iast C hM (j := 213) (by omega) (jK_M b kc T (by omega)) (a_213 b kc) hS hx1_ hx2_ (B := 40) rfl h dX13_judge_55 (fun S7_z H locs h hM hS => ?_)
            exact B56 kf2_ hkf2_ (f_M_judge_24 kf2_ n) hkf24_ S7_z _ _ _ x1_ v1_ hx1_ x2_ v2_ hx2_ hS hM (lv_sub hl [0, 1, 2] rfl) h
  have B192 : ∀ (kf146_ : SS → Int → Option SS) (hkf146_ : ∀ (S : SS) (H : Heap) (locs : List Loc) (ls : Array Slot) (x1_ : Int32) (v1_ : Int) (hx1_ : x1_.toInt = v1_), rng S → mS D b s 220 (jM b kc T S) H locs → lv_has ls 3 [(0, .ref (b + 192)), (1, .int x1_)] → kf146_ S v1_ = some Sr → W p l e (mR 6 0 0) s m args below meth c H locs 0 0 Q (F0 m 146 ls [])) (kf154_ : SS → Int → Int → Option SS) (hkf154_ : ∀ (S : SS) (H : Heap) (locs : List Loc) (ls : Array Slot) (x1_ : Int32) (v1_ : Int) (hx1_ : x1_.toInt = v1_) (x2_ : Int32) (v2_ : Int) (hx2_ : x2_.toInt = v2_), rng S → mS D b s 220 (jM b kc T S) H locs → lv_has ls 3 [(0, .ref (b + 192)), (1, .int x1_), (2, .int x2_)] → kf154_ S v1_ v2_ = some Sr → W p l e (mR 6 0 0) s m args below meth c H locs 0 0 Q (F0 m 154 ls [])), ∀ (S : SS) (H : Heap) (locs : List Loc) (ls : Array Slot) (x1_ : Int32) (v1_ : Int) (hx1_ : x1_.toInt = v1_) (x2_ : Int32) (v2_ : Int) (hx2_ : x2_.toInt = v2_), rng S → mS D b s 220 (jM b kc T S) H locs → lv_has ls 3 [(0, .ref (b + 192)), (1, .int x1_), (2, .int x2_)] → f_M_judge_192 kf146_ kf154_ S v1_ v2_ = some Sr → W p l e (mR 6 0 0) s m args below meth c H locs 0 0 Q (F0 m 192 ls []) := by
    intro kf146_ hkf146_ kf154_ hkf154_ S H locs ls x1_ v1_ hx1_ x2_ v2_ hx2_ hS hM hl h
    unfold f_M_judge_192 at h
    refine g_iinc (y := 1) hx hb hx2_ (by decide) (by decide) h dX13_judge_192 hl (k := 2) rfl (by decide) (fun z1_z ls bz1_z h hl => ?_)
    have hl : lv_has ls 3 [(2, .int z1_z), (0, .ref (b + 192)), (1, .int x1_)] := hl
    refine lv_goto (tgt := 154) hx hb dX13_judge_195 (by decide) ?_
    exact hkf154_ S _ _ _ x1_ v1_ hx1_ z1_z (v2_ + 1) bz1_z hS hM (lv_sub hl [1, 2, 0] rfl) h
  have B154 : ∀ (kf146_ : SS → Int → Option SS) (hkf146_ : ∀ (S : SS) (H : Heap) (locs : List Loc) (ls : Array Slot) (x1_ : Int32) (v1_ : Int) (hx1_ : x1_.toInt = v1_), rng S → mS D b s 220 (jM b kc T S) H locs → lv_has ls 3 [(0, .ref (b + 192)), (1, .int x1_)] → kf146_ S v1_ = some Sr → W p l e (mR 6 0 0) s m args below meth c H locs 0 0 Q (F0 m 146 ls [])) (n : Nat), ∀ (S : SS) (H : Heap) (locs : List Loc) (ls : Array Slot) (x1_ : Int32) (v1_ : Int) (hx1_ : x1_.toInt = v1_) (x2_ : Int32) (v2_ : Int) (hx2_ : x2_.toInt = v2_), rng S → mS D b s 220 (jM b kc T S) H locs → lv_has ls 3 [(0, .ref (b + 192)), (1, .int x1_), (2, .int x2_)] → f_M_judge_154 kf146_ n S v1_ v2_ = some Sr → W p l e (mR 6 0 0) s m args below meth c H locs 0 0 Q (F0 m 154 ls []) := by
    intro kf146_ hkf146_ n
    induction n with
    | zero => intro S H locs ls x1_ v1_ hx1_ x2_ v2_ hx2_ hS hM hl h; exact absurd (h : none = some _) (fun q => nomatch q)
    | succ n hkf154_ =>
      intro S H locs ls x1_ v1_ hx1_ x2_ v2_ hx2_ hS hM hl h
      have h : f_M_judge_154_b kf146_ (f_M_judge_154 kf146_ n) S v1_ v2_ = some Sr := h
      unfold f_M_judge_154_b at h
      refine lv_iload_n hx hb dX13_judge_154 rfl (lv_at hl 2 rfl) ?_
      refine lv_aload_n hx hb dX13_judge_155 rfl (lv_at hl 0 rfl) ?_
      refine g_get fl_X13_153_X13 C hM (i := 192) (r := 192) (by omega) (e_192 b kc T S) rfl hS dX13_judge_156 (fun z1_z bz1_z => ?_)
      refine g_icmp_ge (tgt := 198) hx hb hx2_ bz1_z h dX13_judge_159 (by decide) (fun h => ?_) (fun h => ?_)
      · refine g_iinc (y := 1) hx hb hx1_ (by decide) (by decide) h dX13_judge_198 hl (k := 1) rfl (by decide) (fun z2_z ls bz2_z h hl => ?_)
        have hl : lv_has ls 3 [(1, .int z2_z), (0, .ref (b + 192)), (2, .int x2_)] := hl
        refine lv_goto (tgt := 146) hx hb dX13_judge_201 (by decide) ?_
        exact hkf146_ S _ _ _ z2_z (v1_ + 1) bz2_z hS hM (lv_sub hl [1, 0] rfl) h
      · refine lv_aload_n hx hb dX13_judge_162 rfl (lv_at hl 0 rfl) ?_
        refine m_get fl_X13_111_X13 C hM (i := 192) (by omega) (e_192 b kc T S) (v := .ref (b + 212)) rfl dX13_judge_163 ?_
        refine lv_iload_n hx hb dX13_judge_166 rfl (lv_at hl 2 rfl) ?_
        refine g_iald C hM (j := 212) (by omega) (jK_M b kc T (by omega)) (a_212 b kc) hS hx2_ (B := 40) rfl h dX13_judge_167 (fun z3_z bz3_z h => ?_)
        refine lv_iconst (v := 1) hx hb dX13_judge_168 (by decide) ?_
        refine g_icmp_ne (tgt := 192) hx hb bz3_z (show (1 : Int32).toInt = 1 by decide) h dX13_judge_169 (by decide) (fun h => ?_) (fun h => ?_)
        · exact B192 kf146_ hkf146_ (f_M_judge_154 kf146_ n) hkf154_ S _ _ _ x1_ v1_ hx1_ x2_ v2_ hx2_ hS hM (lv_sub hl [0, 1, 2] rfl) h
        · refine lv_aload_n hx hb dX13_judge_172 rfl (lv_at hl 0 rfl) ?_
          refine m_get fl_X13_102_X13 C hM (i := 192) (by omega) (e_192 b kc T S) (v := .ref (b + 209)) rfl dX13_judge_173 ?_
          refine lv_aload_n hx hb dX13_judge_176 rfl (lv_at hl 0 rfl) ?_
          refine m_get fl_X13_74_X13 C hM (i := 192) (by omega) (e_192 b kc T S) (v := .ref (b + 200)) rfl dX13_judge_177 ?_
          refine lv_iload_n hx hb dX13_judge_180 rfl (lv_at hl 2 rfl) ?_
          refine g_iald C hM (j := 200) (by omega) (jK_M b kc T (by omega)) (a_200 b kc) hS hx2_ (B := 41) rfl h dX13_judge_181 (fun z4_z bz4_z h => ?_)
          refine g_iald C hM (j := 209) (by omega) (jK_M b kc T (by omega)) (a_209 b kc) hS bz4_z (B := 3) rfl h dX13_judge_182 (fun z5_z bz5_z h => ?_)
          refine lv_iload_n hx hb dX13_judge_183 rfl (lv_at hl 1 rfl) ?_
          refine g_icmp_ne (tgt := 192) hx hb bz5_z hx1_ h dX13_judge_184 (by decide) (fun h => ?_) (fun h => ?_)
          · exact B192 kf146_ hkf146_ (f_M_judge_154 kf146_ n) hkf154_ S _ _ _ x1_ v1_ hx1_ x2_ v2_ hx2_ hS hM (lv_sub hl [0, 1, 2] rfl) h
          · refine lv_aload_n hx hb dX13_judge_187 rfl (lv_at hl 0 rfl) ?_
            refine lv_iload_n hx hb dX13_judge_188 rfl (lv_at hl 2 rfl) ?_
            obtain ⟨S6_z, cS6_z, h⟩ := w_b1E h
            refine g_callV (J := jM b kc T) (m_runV calV_X13_judgeOne wd_1356 (g_M_judgeOne l D kc b T S x2_ v2_ hx2_ hS cS6_z) C hM (i := 192) (by omega) (e_192 b kc T S) rfl hl.1 rfl rfl (Nat.le_of_ble_eq_true rfl) dX13_judge_189 ⟨Nat.le_of_ble_eq_true rfl, Nat.le_of_ble_eq_true rfl⟩ ⟨Nat.le_of_ble_eq_true rfl, Nat.le_of_ble_eq_true rfl⟩) hM (fun H locs hM hS => ?_)
            exact B192 kf146_ hkf146_ (f_M_judge_154 kf146_ n) hkf154_ S6_z _ _ _ x1_ v1_ hx1_ x2_ v2_ hx2_ hS hM (lv_sub hl [0, 1, 2] rfl) h
  have B146 : ∀ (n : Nat), ∀ (S : SS) (H : Heap) (locs : List Loc) (ls : Array Slot) (x1_ : Int32) (v1_ : Int) (hx1_ : x1_.toInt = v1_), rng S → mS D b s 220 (jM b kc T S) H locs → lv_has ls 3 [(0, .ref (b + 192)), (1, .int x1_)] → f_M_judge_146 n S v1_ = some Sr → W p l e (mR 6 0 0) s m args below meth c H locs 0 0 Q (F0 m 146 ls []) := by
    intro n
    induction n with
    | zero => intro S H locs ls x1_ v1_ hx1_ hS hM hl h; exact absurd (h : none = some _) (fun q => nomatch q)
    | succ n hkf146_ =>
      intro S H locs ls x1_ v1_ hx1_ hS hM hl h
      have h : f_M_judge_146_b (f_M_judge_146 n) S v1_ = some Sr := h
      unfold f_M_judge_146_b at h
      refine lv_iload_n hx hb dX13_judge_146 rfl (lv_at hl 1 rfl) ?_
      refine lv_bipush (v := 10) hx hb dX13_judge_147 (by decide) ?_
      refine g_icmp_ge (tgt := 204) hx hb hx1_ (show (10 : Int32).toInt = 10 by decide) h dX13_judge_149 (by decide) (fun h => ?_) (fun h => ?_)
      · exact ret S _ _ _ _ (Option.some.inj h) hM hS dX13_judge_204
      · refine lv_iconst (v := 0) hx hb dX13_judge_152 (by decide) ?_
        refine lv_istore_n (lv' := [(2, .int 0), (0, .ref (b + 192)), (1, .int x1_)]) hx hb dX13_judge_153 rfl hl (by decide) rfl (fun ls hl => ?_)
        exact B154 (f_M_judge_146 n) hkf146_ FU S _ _ _ x1_ v1_ hx1_ 0 0 (show (0 : Int32).toInt = 0 by decide) hS hM (lv_sub hl [1, 2, 0] rfl) h
  have B2 : ∀ (n : Nat), ∀ (S : SS) (H : Heap) (locs : List Loc) (ls : Array Slot) (x1_ : Int32) (v1_ : Int) (hx1_ : x1_.toInt = v1_), rng S → mS D b s 220 (jM b kc T S) H locs → lv_has ls 3 [(0, .ref (b + 192)), (1, .int x1_)] → f_M_judge_2 n S v1_ = some Sr → W p l e (mR 6 0 0) s m args below meth c H locs 0 0 Q (F0 m 2 ls []) := by
    intro n
    induction n with
    | zero => intro S H locs ls x1_ v1_ hx1_ hS hM hl h; exact absurd (h : none = some _) (fun q => nomatch q)
    | succ n hkf2_ =>
      intro S H locs ls x1_ v1_ hx1_ hS hM hl h
      have h : f_M_judge_2_b (f_M_judge_2 n) S v1_ = some Sr := h
      unfold f_M_judge_2_b at h
      refine lv_iload_n hx hb dX13_judge_2 rfl (lv_at hl 1 rfl) ?_
      refine lv_aload_n hx hb dX13_judge_3 rfl (lv_at hl 0 rfl) ?_
      refine g_get fl_X13_153_X13 C hM (i := 192) (r := 192) (by omega) (e_192 b kc T S) rfl hS dX13_judge_4 (fun z1_z bz1_z => ?_)
      refine g_icmp_ge (tgt := 144) hx hb hx1_ bz1_z h dX13_judge_7 (by decide) (fun h => ?_) (fun h => ?_)
      · refine lv_iconst (v := 0) hx hb dX13_judge_144 (by decide) ?_
        refine lv_istore_n (lv' := [(1, .int 0), (0, .ref (b + 192))]) hx hb dX13_judge_145 rfl hl (by decide) rfl (fun ls hl => ?_)
        exact B146 FU S _ _ _ 0 0 (show (0 : Int32).toInt = 0 by decide) hS hM (lv_sub hl [1, 0] rfl) h
      · refine lv_aload_n hx hb dX13_judge_10 rfl (lv_at hl 0 rfl) ?_
        refine m_get fl_X13_114_X13 C hM (i := 192) (by omega) (e_192 b kc T S) (v := .ref (b + 213)) rfl dX13_judge_11 ?_
        refine lv_iload_n hx hb dX13_judge_14 rfl (lv_at hl 1 rfl) ?_
        refine lv_iconst (v := (-1)) hx hb dX13_judge_15 (by decide) ?_
        refine g_iast C hM (j := 213) (by omega) (jK_M b kc T (by omega)) (a_213 b kc) hS hx1_ (show ((-1) : Int32).toInt = (-1) by decide) (B := 40) rfl h dX13_judge_16 (fun S2_z H locs h hM hS => ?_)
        refine lv_aload_n hx hb dX13_judge_17 rfl (lv_at hl 0 rfl) ?_
        refine g_get fl_X13_153_X13 C hM (i := 192) (r := 192) (by omega) (e_192 b kc T S2_z) rfl hS dX13_judge_18 (fun z3_z bz3_z => ?_)
        refine lv_iconst (v := 1) hx hb dX13_judge_21 (by decide) ?_
        refine g_isub hx hb bz3_z (show (1 : Int32).toInt = 1 by decide) h dX13_judge_22 (fun z4_z bz4_z h => ?_)
        refine lv_istore_n (lv' := [(2, .int z4_z), (0, .ref (b + 192)), (1, .int x1_)]) hx hb dX13_judge_23 rfl hl (by decide) rfl (fun ls hl => ?_)
        exact B24 (f_M_judge_2 n) hkf2_ FU S2_z _ _ _ x1_ v1_ hx1_ z4_z ((gi S2_z 192 27) - 1) bz4_z hS hM (lv_sub hl [1, 2, 0] rfl) h
  refine lv_iconst (v := 0) hx hb dX13_judge_0 (by decide) ?_
  refine lv_istore_n (lv' := [(1, .int 0), (0, .ref (b + 192))]) hx hb dX13_judge_1 rfl hl (by decide) rfl (fun ls hl => ?_)
  exact B2 FU S _ _ _ 0 0 (show (0 : Int32).toInt = 0 by decide) hS hM (lv_sub hl [1, 0] rfl) h

def f_M_mark (S : SS) (v1 : Int) (v2 : Int) : Option (Int × SS) := w_b1 (f_M_isMark S v1) (fun r1_z => (if r1_z = 0 then some ((-9), S) else w_chk (0 ≤ v1 ∧ v1 < 41) (w_chk (i64 (9 + (gi S 204 (v1).toNat))) ((if f_M_in S v2 10 (9 + (gi S 204 (v1).toNat)) = 0 then w_b1 (f_M_judge S) (fun S8_z => (if v2 = 0 then w_chk (0 ≤ v1 ∧ v1 < 41) (some (gi S8_z 199 (v1).toNat, S8_z)) else (if v2 = 1 then w_chk (0 ≤ v1 ∧ v1 < 41) (some (gi S8_z 200 (v1).toNat, S8_z)) else (if v2 = 2 then w_chk (0 ≤ v1 ∧ v1 < 41) (some (gi S8_z 201 (v1).toNat, S8_z)) else (if v2 = 3 then w_chk (0 ≤ v1 ∧ v1 < 41) (some (gi S8_z 202 (v1).toNat, S8_z)) else (if v2 = 4 then w_chk (0 ≤ v1 ∧ v1 < 41) (some (gi S8_z 203 (v1).toNat, S8_z)) else (if v2 = 5 then w_chk (0 ≤ v1 ∧ v1 < 41) (some (gi S8_z 204 (v1).toNat, S8_z)) else (if v2 = 6 then w_chk (0 ≤ v1 ∧ v1 < 40) (some (gi S8_z 212 (v1).toNat, S8_z)) else (if v2 = 7 then w_chk (0 ≤ v1 ∧ v1 < 40) (some (gi S8_z 213 (v1).toNat, S8_z)) else (if v2 = 8 then w_chk (0 ≤ v1 ∧ v1 < 41) ((if gi S8_z 208 (v1).toNat = 0 then some (0, S8_z) else some (1, S8_z))) else some ((-9), S8_z))))))))))) else w_chk (i32 (6 * v1)) (w_chk (i32 ((6 * v1) + v2)) (w_chk (i32 (((6 * v1) + v2) - 10)) (w_chk (0 ≤ (((6 * v1) + v2) - 10) ∧ (((6 * v1) + v2) - 10) < 246) (some (l2i (gl S 206 (((6 * v1) + v2) - 10).toNat), S))))))))))
set_option maxHeartbeats 4000000 in
set_option maxRecDepth 100000 in
theorem g_M_mark (l : Launch) (D : va_G) (kc : Nat → ClassId) (b : Nat) (T S : SS) (x1 : Int32) (v1 : Int) (hx1 : x1.toInt = v1) (x2 : Int32) (v2 : Int) (hx2 : x2.toInt = v2) (hS : rng S) {vr : Int} {Sr : SS} (h : f_M_mark S v1 v2 = some (vr, Sr)) : cI l yX13_mark cX13_mark 3 .int 7 D kc b (jM b kc T) S [.ref (b + 192), .int x1, .int x2] vr Sr := by
  refine g_beg_i (by decide) (Nat.le_of_ble_eq_true rfl) ?_
  intro p e s m args below meth c Q C ret hM ls hl
  obtain ⟨hx, hb, hml, hown, hts, hE, hbs⟩ := id C
  have hl : lv_has ls 3 [(0, .ref (b + 192)), (1, .int x1), (2, .int x2)] := hl
  unfold f_M_mark at h
  refine lv_aload_n hx hb dX13_mark_0 rfl (lv_at hl 0 rfl) ?_
  refine lv_iload_n hx hb dX13_mark_1 rfl (lv_at hl 1 rfl) ?_
  obtain ⟨r1_z, cr1_z, h⟩ := w_b1E h
  refine g_callI (J := jM b kc T) (m_runV calV_X13_isMark wd_1310 (g_M_isMark l D kc b T S x1 v1 hx1 hS cr1_z) C hM (i := 192) (by omega) (e_192 b kc T S) rfl hl.1 rfl rfl (Nat.le_of_ble_eq_true rfl) dX13_mark_2 ⟨Nat.le_of_ble_eq_true rfl, Nat.le_of_ble_eq_true rfl⟩ ⟨Nat.le_of_ble_eq_true rfl, Nat.le_of_ble_eq_true rfl⟩) hM (fun z2_z H locs bz2_z hM hS => ?_)
  refine g_if_ne (tgt := 11) hx hb bz2_z h dX13_mark_5 (by decide) (fun h => ?_) (fun h => ?_)
  · refine lv_iload_n hx hb dX13_mark_11 rfl (lv_at hl 2 rfl) ?_
    refine g_i2l (a := v2) hx hb hx2 dX13_mark_12 (fun c3_z => ?_)
    refine lv_ldc2 (v := 10) hx hb hown (hts _ wd_1350) dX13_mark_13 ?_
    refine lv_ldc2 (v := 9) hx hb hown (hts _ wd_1351) dX13_mark_16 ?_
    refine lv_aload_n hx hb dX13_mark_19 rfl (lv_at hl 0 rfl) ?_
    refine m_get fl_X13_86_X13 C hM (i := 192) (by omega) (e_192 b kc T S) (v := .ref (b + 204)) rfl dX13_mark_20 ?_
    refine lv_iload_n hx hb dX13_mark_23 rfl (lv_at hl 1 rfl) ?_
    refine g_iald C hM (j := 204) (by omega) (jK_M b kc T (by omega)) (a_204 b kc) hS hx1 (B := 41) rfl h dX13_mark_24 (fun z4_z bz4_z h => ?_)
    refine g_i2l (a := gi S 204 (v1).toNat) hx hb bz4_z dX13_mark_25 (fun c5_z => ?_)
    obtain ⟨cz6_z, h⟩ := w_chkE h
    refine g_ladd hx hb (show (9 : Int64).toInt = 9 by decide) c5_z cz6_z.1 cz6_z.2 dX13_mark_26 (fun z6_z bz6_z => ?_)
    refine g_callI (J := jM b kc T) (m_runS calS_X13_in wd_1221 (g_M_in l D kc b T S (i2l v2) v2 c3_z 10 10 (show (10 : Int64).toInt = 10 by decide) z6_z (9 + (gi S 204 (v1).toNat)) bz6_z hS rfl) C hM hl.1 rfl rfl (Nat.le_of_ble_eq_true rfl) dX13_mark_27 ⟨Nat.le_of_ble_eq_true rfl, Nat.le_of_ble_eq_true rfl⟩ ⟨Nat.le_of_ble_eq_true rfl, Nat.le_of_ble_eq_true rfl⟩) hM (fun z7_z H locs bz7_z hM hS => ?_)
    refine g_if_eq (tgt := 49) hx hb bz7_z h dX13_mark_30 (by decide) (fun h => ?_) (fun h => ?_)
    · refine lv_aload_n hx hb dX13_mark_49 rfl (lv_at hl 0 rfl) ?_
      obtain ⟨S8_z, cS8_z, h⟩ := w_b1E h
      refine g_callV (J := jM b kc T) (m_runV calV_X13_judge wd_1352 (g_M_judge l D kc b T S hS cS8_z) C hM (i := 192) (by omega) (e_192 b kc T S) rfl hl.1 rfl rfl (Nat.le_of_ble_eq_true rfl) dX13_mark_50 ⟨Nat.le_of_ble_eq_true rfl, Nat.le_of_ble_eq_true rfl⟩ ⟨Nat.le_of_ble_eq_true rfl, Nat.le_of_ble_eq_true rfl⟩) hM (fun H locs hM hS => ?_)
      refine lv_iload_n hx hb dX13_mark_53 rfl (lv_at hl 2 rfl) ?_
      by_cases c10_z : v2 = 0
      · replace h := w_it c10_z h
        refine lv_tableIn (tgt := 104) hx hb dX13_mark_54 (by rw [hx2, c10_z]; decide) (by rw [hx2, c10_z]; decide) (by rw [hx2, c10_z]; rfl) (by decide) ?_
        refine lv_aload_n hx hb dX13_mark_104 rfl (lv_at hl 0 rfl) ?_
        refine m_get fl_X13_70_X13 C hM (i := 192) (by omega) (e_192 b kc T S8_z) (v := .ref (b + 199)) rfl dX13_mark_105 ?_
        refine lv_iload_n hx hb dX13_mark_108 rfl (lv_at hl 1 rfl) ?_
        refine g_iald C hM (j := 199) (by omega) (jK_M b kc T (by omega)) (a_199 b kc) hS hx1 (B := 41) rfl h dX13_mark_109 (fun z11_z bz11_z h => ?_)
        exact ret S8_z _ _ _ _ z11_z (bz11_z.trans (r_1 h)) (r_2 h) hM hS dX13_mark_110
      replace h := w_if c10_z h
      by_cases c12_z : v2 = 1
      · replace h := w_it c12_z h
        refine lv_tableIn (tgt := 111) hx hb dX13_mark_54 (by rw [hx2, c12_z]; decide) (by rw [hx2, c12_z]; decide) (by rw [hx2, c12_z]; rfl) (by decide) ?_
        refine lv_aload_n hx hb dX13_mark_111 rfl (lv_at hl 0 rfl) ?_
        refine m_get fl_X13_74_X13 C hM (i := 192) (by omega) (e_192 b kc T S8_z) (v := .ref (b + 200)) rfl dX13_mark_112 ?_
        refine lv_iload_n hx hb dX13_mark_115 rfl (lv_at hl 1 rfl) ?_
        refine g_iald C hM (j := 200) (by omega) (jK_M b kc T (by omega)) (a_200 b kc) hS hx1 (B := 41) rfl h dX13_mark_116 (fun z13_z bz13_z h => ?_)
        exact ret S8_z _ _ _ _ z13_z (bz13_z.trans (r_1 h)) (r_2 h) hM hS dX13_mark_117
      replace h := w_if c12_z h
      by_cases c14_z : v2 = 2
      · replace h := w_it c14_z h
        refine lv_tableIn (tgt := 118) hx hb dX13_mark_54 (by rw [hx2, c14_z]; decide) (by rw [hx2, c14_z]; decide) (by rw [hx2, c14_z]; rfl) (by decide) ?_
        refine lv_aload_n hx hb dX13_mark_118 rfl (lv_at hl 0 rfl) ?_
        refine m_get fl_X13_77_X13 C hM (i := 192) (by omega) (e_192 b kc T S8_z) (v := .ref (b + 201)) rfl dX13_mark_119 ?_
        refine lv_iload_n hx hb dX13_mark_122 rfl (lv_at hl 1 rfl) ?_
        refine g_iald C hM (j := 201) (by omega) (jK_M b kc T (by omega)) (a_201 b kc) hS hx1 (B := 41) rfl h dX13_mark_123 (fun z15_z bz15_z h => ?_)
        exact ret S8_z _ _ _ _ z15_z (bz15_z.trans (r_1 h)) (r_2 h) hM hS dX13_mark_124
      replace h := w_if c14_z h
      by_cases c16_z : v2 = 3
      · replace h := w_it c16_z h
        refine lv_tableIn (tgt := 125) hx hb dX13_mark_54 (by rw [hx2, c16_z]; decide) (by rw [hx2, c16_z]; decide) (by rw [hx2, c16_z]; rfl) (by decide) ?_
        refine lv_aload_n hx hb dX13_mark_125 rfl (lv_at hl 0 rfl) ?_
        refine m_get fl_X13_80_X13 C hM (i := 192) (by omega) (e_192 b kc T S8_z) (v := .ref (b + 202)) rfl dX13_mark_126 ?_
        refine lv_iload_n hx hb dX13_mark_129 rfl (lv_at hl 1 rfl) ?_
        refine g_iald C hM (j := 202) (by omega) (jK_M b kc T (by omega)) (a_202 b kc) hS hx1 (B := 41) rfl h dX13_mark_130 (fun z17_z bz17_z h => ?_)
        exact ret S8_z _ _ _ _ z17_z (bz17_z.trans (r_1 h)) (r_2 h) hM hS dX13_mark_131
      replace h := w_if c16_z h
      by_cases c18_z : v2 = 4
      · replace h := w_it c18_z h
        refine lv_tableIn (tgt := 132) hx hb dX13_mark_54 (by rw [hx2, c18_z]; decide) (by rw [hx2, c18_z]; decide) (by rw [hx2, c18_z]; rfl) (by decide) ?_
        refine lv_aload_n hx hb dX13_mark_132 rfl (lv_at hl 0 rfl) ?_
        refine m_get fl_X13_83_X13 C hM (i := 192) (by omega) (e_192 b kc T S8_z) (v := .ref (b + 203)) rfl dX13_mark_133 ?_
        refine lv_iload_n hx hb dX13_mark_136 rfl (lv_at hl 1 rfl) ?_
        refine g_iald C hM (j := 203) (by omega) (jK_M b kc T (by omega)) (a_203 b kc) hS hx1 (B := 41) rfl h dX13_mark_137 (fun z19_z bz19_z h => ?_)
        exact ret S8_z _ _ _ _ z19_z (bz19_z.trans (r_1 h)) (r_2 h) hM hS dX13_mark_138
      replace h := w_if c18_z h
      by_cases c20_z : v2 = 5
      · replace h := w_it c20_z h
        refine lv_tableIn (tgt := 139) hx hb dX13_mark_54 (by rw [hx2, c20_z]; decide) (by rw [hx2, c20_z]; decide) (by rw [hx2, c20_z]; rfl) (by decide) ?_
        refine lv_aload_n hx hb dX13_mark_139 rfl (lv_at hl 0 rfl) ?_
        refine m_get fl_X13_86_X13 C hM (i := 192) (by omega) (e_192 b kc T S8_z) (v := .ref (b + 204)) rfl dX13_mark_140 ?_
        refine lv_iload_n hx hb dX13_mark_143 rfl (lv_at hl 1 rfl) ?_
        refine g_iald C hM (j := 204) (by omega) (jK_M b kc T (by omega)) (a_204 b kc) hS hx1 (B := 41) rfl h dX13_mark_144 (fun z21_z bz21_z h => ?_)
        exact ret S8_z _ _ _ _ z21_z (bz21_z.trans (r_1 h)) (r_2 h) hM hS dX13_mark_145
      replace h := w_if c20_z h
      by_cases c22_z : v2 = 6
      · replace h := w_it c22_z h
        refine lv_tableIn (tgt := 146) hx hb dX13_mark_54 (by rw [hx2, c22_z]; decide) (by rw [hx2, c22_z]; decide) (by rw [hx2, c22_z]; rfl) (by decide) ?_
        refine lv_aload_n hx hb dX13_mark_146 rfl (lv_at hl 0 rfl) ?_
        refine m_get fl_X13_111_X13 C hM (i := 192) (by omega) (e_192 b kc T S8_z) (v := .ref (b + 212)) rfl dX13_mark_147 ?_
        refine lv_iload_n hx hb dX13_mark_150 rfl (lv_at hl 1 rfl) ?_
        refine g_iald C hM (j := 212) (by omega) (jK_M b kc T (by omega)) (a_212 b kc) hS hx1 (B := 40) rfl h dX13_mark_151 (fun z23_z bz23_z h => ?_)
        exact ret S8_z _ _ _ _ z23_z (bz23_z.trans (r_1 h)) (r_2 h) hM hS dX13_mark_152
      replace h := w_if c22_z h
      by_cases c24_z : v2 = 7
      · replace h := w_it c24_z h
        refine lv_tableIn (tgt := 153) hx hb dX13_mark_54 (by rw [hx2, c24_z]; decide) (by rw [hx2, c24_z]; decide) (by rw [hx2, c24_z]; rfl) (by decide) ?_
        refine lv_aload_n hx hb dX13_mark_153 rfl (lv_at hl 0 rfl) ?_
        refine m_get fl_X13_114_X13 C hM (i := 192) (by omega) (e_192 b kc T S8_z) (v := .ref (b + 213)) rfl dX13_mark_154 ?_
        refine lv_iload_n hx hb dX13_mark_157 rfl (lv_at hl 1 rfl) ?_
        refine g_iald C hM (j := 213) (by omega) (jK_M b kc T (by omega)) (a_213 b kc) hS hx1 (B := 40) rfl h dX13_mark_158 (fun z25_z bz25_z h => ?_)
        exact ret S8_z _ _ _ _ z25_z (bz25_z.trans (r_1 h)) (r_2 h) hM hS dX13_mark_159
      replace h := w_if c24_z h
      by_cases c26_z : v2 = 8
      · replace h := w_it c26_z h
        refine lv_tableIn (tgt := 160) hx hb dX13_mark_54 (by rw [hx2, c26_z]; decide) (by rw [hx2, c26_z]; decide) (by rw [hx2, c26_z]; rfl) (by decide) ?_
        refine lv_aload_n hx hb dX13_mark_160 rfl (lv_at hl 0 rfl) ?_
        refine m_get fl_X13_99_X13 C hM (i := 192) (by omega) (e_192 b kc T S8_z) (v := .ref (b + 208)) rfl dX13_mark_161 ?_
        refine lv_iload_n hx hb dX13_mark_164 rfl (lv_at hl 1 rfl) ?_
        refine g_zald C hM (j := 208) (by omega) (jK_M b kc T (by omega)) (a_208 b kc) hS hx1 (B := 41) rfl h dX13_mark_165 (fun z27_z bz27_z h => ?_)
        refine g_if_eq (tgt := 173) hx hb bz27_z h dX13_mark_166 (by decide) (fun h => ?_) (fun h => ?_)
        · refine lv_iconst (v := 0) hx hb dX13_mark_173 (by decide) ?_
          exact ret S8_z _ _ _ _ 0 ((show (0 : Int32).toInt = 0 by decide).trans (r_1 h)) (r_2 h) hM hS dX13_mark_174
        · refine lv_iconst (v := 1) hx hb dX13_mark_169 (by decide) ?_
          refine lv_goto (tgt := 174) hx hb dX13_mark_170 (by decide) ?_
          exact ret S8_z _ _ _ _ 1 ((show (1 : Int32).toInt = 1 by decide).trans (r_1 h)) (r_2 h) hM hS dX13_mark_174
      replace h := w_if c26_z h
      refine lv_tableOut (tgt := 175) hx hb dX13_mark_54 (by rw [hx2]; omega) (by decide) ?_
      refine lv_bipush (v := (-9)) hx hb dX13_mark_175 (by decide) ?_
      exact ret S8_z _ _ _ _ (-9) ((show ((-9) : Int32).toInt = (-9) by decide).trans (r_1 h)) (r_2 h) hM hS dX13_mark_177
    · refine lv_aload_n hx hb dX13_mark_33 rfl (lv_at hl 0 rfl) ?_
      refine m_get fl_X13_92_X13 C hM (i := 192) (by omega) (e_192 b kc T S) (v := .ref (b + 206)) rfl dX13_mark_34 ?_
      refine lv_bipush (v := 6) hx hb dX13_mark_37 (by decide) ?_
      refine lv_iload_n hx hb dX13_mark_39 rfl (lv_at hl 1 rfl) ?_
      refine g_imul hx hb (show (6 : Int32).toInt = 6 by decide) hx1 h dX13_mark_40 (fun z28_z bz28_z h => ?_)
      refine lv_iload_n hx hb dX13_mark_41 rfl (lv_at hl 2 rfl) ?_
      refine g_iadd hx hb bz28_z hx2 h dX13_mark_42 (fun z29_z bz29_z h => ?_)
      refine lv_bipush (v := 10) hx hb dX13_mark_43 (by decide) ?_
      refine g_isub hx hb bz29_z (show (10 : Int32).toInt = 10 by decide) h dX13_mark_45 (fun z30_z bz30_z h => ?_)
      refine g_lald C hM (j := 206) (by omega) (jK_M b kc T (by omega)) (a_206 b kc) bz30_z (B := 246) rfl h dX13_mark_46 (fun h => ?_)
      refine g_l2i hx hb dX13_mark_47 (fun z32_z bz32_z => ?_)
      exact ret S _ _ _ _ z32_z (bz32_z.trans (r_1 h)) (r_2 h) hM hS dX13_mark_48
  · refine lv_bipush (v := (-9)) hx hb dX13_mark_8 (by decide) ?_
    exact ret S _ _ _ _ (-9) ((show ((-9) : Int32).toInt = (-9) by decide).trans (r_1 h)) (r_2 h) hM hS dX13_mark_10

def f_M_answer_42 (v1 : Int) (v2 : Int) (S : SS) (vt0_ : Int) (vt1_ : Int) : Option (Int × SS) := w_chk (0 ≤ vt1_ ∧ vt1_ < 41) (w_lt (si S 205 (vt1_).toNat vt0_) (fun S1_z => some (1, S1_z)))
def f_M_answer (S : SS) (v1 : Int) (v2 : Int) : Option (Int × SS) := w_b1 (f_M_isMark S v1) (fun r1_z => (if r1_z = 0 then some ((-2), S) else w_b1 (f_M_judge S) (fun S3_z => w_chk (0 ≤ v1 ∧ v1 < 40) ((if gi S3_z 212 (v1).toNat = 3 then (if v2 = 0 then f_M_answer_42 v1 v2 S3_z 2 v1 else f_M_answer_42 v1 v2 S3_z 1 v1) else some ((-4), S3_z))))))
set_option maxHeartbeats 4000000 in
set_option maxRecDepth 100000 in
theorem g_M_answer (l : Launch) (D : va_G) (kc : Nat → ClassId) (b : Nat) (T S : SS) (x1 : Int32) (v1 : Int) (hx1 : x1.toInt = v1) (x2 : Int32) (v2 : Int) (hx2 : x2.toInt = v2) (hS : rng S) {vr : Int} {Sr : SS} (h : f_M_answer S v1 v2 = some (vr, Sr)) : cI l yX13_answer cX13_answer 3 .int 7 D kc b (jM b kc T) S [.ref (b + 192), .int x1, .int x2] vr Sr := by
  refine g_beg_i (by decide) (Nat.le_of_ble_eq_true rfl) ?_
  intro p e s m args below meth c Q C ret hM ls hl
  obtain ⟨hx, hb, hml, hown, hts, hE, hbs⟩ := id C
  have hl : lv_has ls 3 [(0, .ref (b + 192)), (1, .int x1), (2, .int x2)] := hl
  unfold f_M_answer at h
  have B42 : ∀ (S : SS) (H : Heap) (locs : List Loc) (ls : Array Slot) (xt0_ : Int32) (vt0_ : Int) (hxt0_ : xt0_.toInt = vt0_) (xt1_ : Int32) (vt1_ : Int) (hxt1_ : xt1_.toInt = vt1_), rng S → mS D b s 220 (jM b kc T S) H locs → lv_has ls 3 [] → f_M_answer_42 v1 v2 S vt0_ vt1_ = some (vr, Sr) → W p l e (mR 7 0 0) s m args below meth c H locs 0 0 Q (F0 m 42 ls [.int xt0_, .int xt1_, .ref (b + 205)]) := by
    intro S H locs ls xt0_ vt0_ hxt0_ xt1_ vt1_ hxt1_ hS hM hl h
    unfold f_M_answer_42 at h
    refine g_iast C hM (j := 205) (by omega) (jK_M b kc T (by omega)) (a_205 b kc) hS hxt1_ hxt0_ (B := 41) rfl h dX13_answer_42 (fun S1_z H locs h hM hS => ?_)
    refine lv_iconst (v := 1) hx hb dX13_answer_43 (by decide) ?_
    exact ret S1_z _ _ _ _ 1 ((show (1 : Int32).toInt = 1 by decide).trans (r_1 h)) (r_2 h) hM hS dX13_answer_44
  refine lv_aload_n hx hb dX13_answer_0 rfl (lv_at hl 0 rfl) ?_
  refine lv_iload_n hx hb dX13_answer_1 rfl (lv_at hl 1 rfl) ?_
  obtain ⟨r1_z, cr1_z, h⟩ := w_b1E h
  refine g_callI (J := jM b kc T) (m_runV calV_X13_isMark wd_1310 (g_M_isMark l D kc b T S x1 v1 hx1 hS cr1_z) C hM (i := 192) (by omega) (e_192 b kc T S) rfl hl.1 rfl rfl (Nat.le_of_ble_eq_true rfl) dX13_answer_2 ⟨Nat.le_of_ble_eq_true rfl, Nat.le_of_ble_eq_true rfl⟩ ⟨Nat.le_of_ble_eq_true rfl, Nat.le_of_ble_eq_true rfl⟩) hM (fun z2_z H locs bz2_z hM hS => ?_)
  refine g_if_ne (tgt := 11) hx hb bz2_z h dX13_answer_5 (by decide) (fun h => ?_) (fun h => ?_)
  · refine lv_aload_n hx hb dX13_answer_11 rfl (lv_at hl 0 rfl) ?_
    obtain ⟨S3_z, cS3_z, h⟩ := w_b1E h
    refine g_callV (J := jM b kc T) (m_runV calV_X13_judge wd_1352 (g_M_judge l D kc b T S hS cS3_z) C hM (i := 192) (by omega) (e_192 b kc T S) rfl hl.1 rfl rfl (Nat.le_of_ble_eq_true rfl) dX13_answer_12 ⟨Nat.le_of_ble_eq_true rfl, Nat.le_of_ble_eq_true rfl⟩ ⟨Nat.le_of_ble_eq_true rfl, Nat.le_of_ble_eq_true rfl⟩) hM (fun H locs hM hS => ?_)
    refine lv_aload_n hx hb dX13_answer_15 rfl (lv_at hl 0 rfl) ?_
    refine m_get fl_X13_111_X13 C hM (i := 192) (by omega) (e_192 b kc T S3_z) (v := .ref (b + 212)) rfl dX13_answer_16 ?_
    refine lv_iload_n hx hb dX13_answer_19 rfl (lv_at hl 1 rfl) ?_
    refine g_iald C hM (j := 212) (by omega) (jK_M b kc T (by omega)) (a_212 b kc) hS hx1 (B := 40) rfl h dX13_answer_20 (fun z5_z bz5_z h => ?_)
    refine lv_iconst (v := 3) hx hb dX13_answer_21 (by decide) ?_
    refine g_icmp_eq (tgt := 28) hx hb bz5_z (show (3 : Int32).toInt = 3 by decide) h dX13_answer_22 (by decide) (fun h => ?_) (fun h => ?_)
    · refine lv_aload_n hx hb dX13_answer_28 rfl (lv_at hl 0 rfl) ?_
      refine m_get fl_X13_89_X13 C hM (i := 192) (by omega) (e_192 b kc T S3_z) (v := .ref (b + 205)) rfl dX13_answer_29 ?_
      refine lv_iload_n hx hb dX13_answer_32 rfl (lv_at hl 1 rfl) ?_
      refine lv_iload_n hx hb dX13_answer_33 rfl (lv_at hl 2 rfl) ?_
      refine g_if_eq (tgt := 41) hx hb hx2 h dX13_answer_34 (by decide) (fun h => ?_) (fun h => ?_)
      · refine lv_iconst (v := 2) hx hb dX13_answer_41 (by decide) ?_
        exact B42 S3_z _ _ _ 2 2 (show (2 : Int32).toInt = 2 by decide) x1 v1 hx1 hS hM (lv_sub hl [] rfl) h
      · refine lv_iconst (v := 1) hx hb dX13_answer_37 (by decide) ?_
        refine lv_goto (tgt := 42) hx hb dX13_answer_38 (by decide) ?_
        exact B42 S3_z _ _ _ 1 1 (show (1 : Int32).toInt = 1 by decide) x1 v1 hx1 hS hM (lv_sub hl [] rfl) h
    · refine lv_bipush (v := (-4)) hx hb dX13_answer_25 (by decide) ?_
      exact ret S3_z _ _ _ _ (-4) ((show ((-4) : Int32).toInt = (-4) by decide).trans (r_1 h)) (r_2 h) hM hS dX13_answer_27
  · refine lv_bipush (v := (-2)) hx hb dX13_answer_8 (by decide) ?_
    exact ret S _ _ _ _ (-2) ((show ((-2) : Int32).toInt = (-2) by decide).trans (r_1 h)) (r_2 h) hM hS dX13_answer_10

def f_M_rank (S : SS) (v1 : Int) (v2 : Int) : Option (Int × SS) := (if f_M_in S v1 0 2 = 0 then some ((-2), S) else (if f_M_in S v2 0 9 = 0 then some ((-2), S) else w_chk (0 ≤ v1 ∧ v1 < 3) (w_chk (0 ≤ v1 ∧ v1 < 3) (w_lt (si S 209 (v1).toNat v2) (fun S6_z => some (gi S 209 (v1).toNat, S6_z))))))
set_option maxHeartbeats 4000000 in
set_option maxRecDepth 100000 in
theorem g_M_rank (l : Launch) (D : va_G) (kc : Nat → ClassId) (b : Nat) (T S : SS) (x1 : Int32) (v1 : Int) (hx1 : x1.toInt = v1) (x2 : Int32) (v2 : Int) (hx2 : x2.toInt = v2) (hS : rng S) {vr : Int} {Sr : SS} (h : f_M_rank S v1 v2 = some (vr, Sr)) : cI l yX13_rank cX13_rank 4 .int 2 D kc b (jM b kc T) S [.ref (b + 192), .int x1, .int x2] vr Sr := by
  refine g_beg_i (by decide) (Nat.le_of_ble_eq_true rfl) ?_
  intro p e s m args below meth c Q C ret hM ls hl
  obtain ⟨hx, hb, hml, hown, hts, hE, hbs⟩ := id C
  have hl : lv_has ls 4 [(0, .ref (b + 192)), (1, .int x1), (2, .int x2)] := hl
  unfold f_M_rank at h
  refine lv_iload_n hx hb dX13_rank_0 rfl (lv_at hl 1 rfl) ?_
  refine g_i2l (a := v1) hx hb hx1 dX13_rank_1 (fun c1_z => ?_)
  refine lv_lconst (v := 0) hx hb dX13_rank_2 (by decide) ?_
  refine lv_ldc2 (v := 2) hx hb hown (hts _ wd_1368) dX13_rank_3 ?_
  refine g_callI (J := jM b kc T) (m_runS calS_X13_in wd_1221 (g_M_in l D kc b T S (i2l v1) v1 c1_z 0 0 (show (0 : Int64).toInt = 0 by decide) 2 2 (show (2 : Int64).toInt = 2 by decide) hS rfl) C hM hl.1 rfl rfl (Nat.le_of_ble_eq_true rfl) dX13_rank_6 ⟨Nat.le_of_ble_eq_true rfl, Nat.le_of_ble_eq_true rfl⟩ ⟨Nat.le_of_ble_eq_true rfl, Nat.le_of_ble_eq_true rfl⟩) hM (fun z2_z H locs bz2_z hM hS => ?_)
  refine g_if_eq (tgt := 24) hx hb bz2_z h dX13_rank_9 (by decide) (fun h => ?_) (fun h => ?_)
  · refine lv_bipush (v := (-2)) hx hb dX13_rank_24 (by decide) ?_
    exact ret S _ _ _ _ (-2) ((show ((-2) : Int32).toInt = (-2) by decide).trans (r_1 h)) (r_2 h) hM hS dX13_rank_26
  · refine lv_iload_n hx hb dX13_rank_12 rfl (lv_at hl 2 rfl) ?_
    refine g_i2l (a := v2) hx hb hx2 dX13_rank_13 (fun c3_z => ?_)
    refine lv_lconst (v := 0) hx hb dX13_rank_14 (by decide) ?_
    refine lv_ldc2 (v := 9) hx hb hown (hts _ wd_1351) dX13_rank_15 ?_
    refine g_callI (J := jM b kc T) (m_runS calS_X13_in wd_1221 (g_M_in l D kc b T S (i2l v2) v2 c3_z 0 0 (show (0 : Int64).toInt = 0 by decide) 9 9 (show (9 : Int64).toInt = 9 by decide) hS rfl) C hM hl.1 rfl rfl (Nat.le_of_ble_eq_true rfl) dX13_rank_18 ⟨Nat.le_of_ble_eq_true rfl, Nat.le_of_ble_eq_true rfl⟩ ⟨Nat.le_of_ble_eq_true rfl, Nat.le_of_ble_eq_true rfl⟩) hM (fun z4_z H locs bz4_z hM hS => ?_)
    refine g_if_ne (tgt := 27) hx hb bz4_z h dX13_rank_21 (by decide) (fun h => ?_) (fun h => ?_)
    · refine lv_aload_n hx hb dX13_rank_27 rfl (lv_at hl 0 rfl) ?_
      refine m_get fl_X13_102_X13 C hM (i := 192) (by omega) (e_192 b kc T S) (v := .ref (b + 209)) rfl dX13_rank_28 ?_
      refine lv_iload_n hx hb dX13_rank_31 rfl (lv_at hl 1 rfl) ?_
      refine g_iald C hM (j := 209) (by omega) (jK_M b kc T (by omega)) (a_209 b kc) hS hx1 (B := 3) rfl h dX13_rank_32 (fun z5_z bz5_z h => ?_)
      refine lv_istore_n (lv' := [(3, .int z5_z), (0, .ref (b + 192)), (1, .int x1), (2, .int x2)]) hx hb dX13_rank_33 rfl hl (by decide) rfl (fun ls hl => ?_)
      refine lv_aload_n hx hb dX13_rank_34 rfl (lv_at hl 1 rfl) ?_
      refine m_get fl_X13_102_X13 C hM (i := 192) (by omega) (e_192 b kc T S) (v := .ref (b + 209)) rfl dX13_rank_35 ?_
      refine lv_iload_n hx hb dX13_rank_38 rfl (lv_at hl 2 rfl) ?_
      refine lv_iload_n hx hb dX13_rank_39 rfl (lv_at hl 3 rfl) ?_
      refine g_iast C hM (j := 209) (by omega) (jK_M b kc T (by omega)) (a_209 b kc) hS hx1 hx2 (B := 3) rfl h dX13_rank_40 (fun S6_z H locs h hM hS => ?_)
      refine lv_iload_n hx hb dX13_rank_41 rfl (lv_at hl 0 rfl) ?_
      exact ret S6_z _ _ _ _ z5_z (bz5_z.trans (r_1 h)) (r_2 h) hM hS dX13_rank_42
    · refine lv_bipush (v := (-2)) hx hb dX13_rank_24 (by decide) ?_
      exact ret S _ _ _ _ (-2) ((show ((-2) : Int32).toInt = (-2) by decide).trans (r_1 h)) (r_2 h) hM hS dX13_rank_26

def f_M_use_73 (v1 : Int) (kf8_ : SS → Int → Int → Option SS) (S : SS) (v2_ : Int) (v3_ : Int) : Option SS := w_chk (i32 (v3_ + 1)) (kf8_ S v2_ (v3_ + 1))
def f_M_use_70 (v1 : Int) (kf8_ : SS → Int → Int → Option SS) (S : SS) (v2_ : Int) (v3_ : Int) : Option SS := w_chk (i32 (v2_ + 1)) (f_M_use_73 v1 kf8_ S (v2_ + 1) v3_)
def f_M_use_35 (v1 : Int) (kf8_ : SS → Int → Int → Option SS) (S : SS) (v2_ : Int) (v3_ : Int) (vt0_ : Int) (vt1_ : Int) : Option SS := w_chk (vt0_ = 0 ∨ vt0_ = 1) (w_chk (0 ≤ vt1_ ∧ vt1_ < 40) (w_lt (si S 214 (vt1_).toNat vt0_) (fun S2_z => w_chk (0 ≤ v3_ ∧ v3_ < 40) ((if gi S2_z 214 (v3_).toNat = 0 then f_M_use_73 v1 kf8_ S2_z v2_ v3_ else (if 31 ≤ v2_ then f_M_use_70 v1 kf8_ S2_z v2_ v3_ else (if andi (shri v1 v2_) 1 = 1 then w_chk (0 ≤ v3_ ∧ v3_ < 40) (w_lt (si S2_z 214 (v3_).toNat 0) (fun S6_z => f_M_use_70 v1 kf8_ S6_z v2_ v3_)) else f_M_use_70 v1 kf8_ S2_z v2_ v3_)))))))
def f_M_use_8_b (v1 : Int) (kf8_ : SS → Int → Int → Option SS) (S : SS) (v2_ : Int) (v3_ : Int) : Option SS := (if gi S 192 27 ≤ v3_ then some S else w_chk (0 ≤ v3_ ∧ v3_ < 40) ((if gi S 212 (v3_).toNat = 0 then f_M_use_35 v1 kf8_ S v2_ v3_ 1 v3_ else f_M_use_35 v1 kf8_ S v2_ v3_ 0 v3_)))
def f_M_use_8 (v1 : Int) : Nat → SS → Int → Int → Option SS
  | 0 => fun _ _ _ => none
  | n + 1 => f_M_use_8_b v1 (f_M_use_8 v1 n)
def f_M_use (S : SS) (v1 : Int) : Option SS := w_b1 (f_M_judge S) (fun S1_z => f_M_use_8 v1 FU S1_z 0 0)
set_option maxHeartbeats 4000000 in
set_option maxRecDepth 100000 in
theorem g_M_use (l : Launch) (D : va_G) (kc : Nat → ClassId) (b : Nat) (T S : SS) (x1 : Int32) (v1 : Int) (hx1 : x1.toInt = v1) (hS : rng S) {Sr : SS} (h : f_M_use S v1 = some Sr) : cV l yX13_use cX13_use 4 7 D kc b (jM b kc T) S [.ref (b + 192), .int x1] Sr := by
  refine g_beg_v (by decide) (Nat.le_of_ble_eq_true rfl) ?_
  intro p e s m args below meth c Q C ret hM ls hl
  obtain ⟨hx, hb, hml, hown, hts, hE, hbs⟩ := id C
  have hl : lv_has ls 4 [(0, .ref (b + 192)), (1, .int x1)] := hl
  unfold f_M_use at h
  have B73 : ∀ (kf8_ : SS → Int → Int → Option SS) (hkf8_ : ∀ (S : SS) (H : Heap) (locs : List Loc) (ls : Array Slot) (x2_ : Int32) (v2_ : Int) (hx2_ : x2_.toInt = v2_) (x3_ : Int32) (v3_ : Int) (hx3_ : x3_.toInt = v3_), rng S → mS D b s 220 (jM b kc T S) H locs → lv_has ls 4 [(0, .ref (b + 192)), (1, .int x1), (2, .int x2_), (3, .int x3_)] → kf8_ S v2_ v3_ = some Sr → W p l e (mR 7 0 0) s m args below meth c H locs 0 0 Q (F0 m 8 ls [])), ∀ (S : SS) (H : Heap) (locs : List Loc) (ls : Array Slot) (x2_ : Int32) (v2_ : Int) (hx2_ : x2_.toInt = v2_) (x3_ : Int32) (v3_ : Int) (hx3_ : x3_.toInt = v3_), rng S → mS D b s 220 (jM b kc T S) H locs → lv_has ls 4 [(0, .ref (b + 192)), (1, .int x1), (2, .int x2_), (3, .int x3_)] → f_M_use_73 v1 kf8_ S v2_ v3_ = some Sr → W p l e (mR 7 0 0) s m args below meth c H locs 0 0 Q (F0 m 73 ls []) := by
    intro kf8_ hkf8_ S H locs ls x2_ v2_ hx2_ x3_ v3_ hx3_ hS hM hl h
    unfold f_M_use_73 at h
    refine g_iinc (y := 1) hx hb hx3_ (by decide) (by decide) h dX13_use_73 hl (k := 3) rfl (by decide) (fun z1_z ls bz1_z h hl => ?_)
    have hl : lv_has ls 4 [(3, .int z1_z), (0, .ref (b + 192)), (1, .int x1), (2, .int x2_)] := hl
    refine lv_goto (tgt := 8) hx hb dX13_use_76 (by decide) ?_
    exact hkf8_ S _ _ _ x2_ v2_ hx2_ z1_z (v3_ + 1) bz1_z hS hM (lv_sub hl [1, 2, 3, 0] rfl) h
  have B70 : ∀ (kf8_ : SS → Int → Int → Option SS) (hkf8_ : ∀ (S : SS) (H : Heap) (locs : List Loc) (ls : Array Slot) (x2_ : Int32) (v2_ : Int) (hx2_ : x2_.toInt = v2_) (x3_ : Int32) (v3_ : Int) (hx3_ : x3_.toInt = v3_), rng S → mS D b s 220 (jM b kc T S) H locs → lv_has ls 4 [(0, .ref (b + 192)), (1, .int x1), (2, .int x2_), (3, .int x3_)] → kf8_ S v2_ v3_ = some Sr → W p l e (mR 7 0 0) s m args below meth c H locs 0 0 Q (F0 m 8 ls [])), ∀ (S : SS) (H : Heap) (locs : List Loc) (ls : Array Slot) (x2_ : Int32) (v2_ : Int) (hx2_ : x2_.toInt = v2_) (x3_ : Int32) (v3_ : Int) (hx3_ : x3_.toInt = v3_), rng S → mS D b s 220 (jM b kc T S) H locs → lv_has ls 4 [(0, .ref (b + 192)), (1, .int x1), (2, .int x2_), (3, .int x3_)] → f_M_use_70 v1 kf8_ S v2_ v3_ = some Sr → W p l e (mR 7 0 0) s m args below meth c H locs 0 0 Q (F0 m 70 ls []) := by
    intro kf8_ hkf8_ S H locs ls x2_ v2_ hx2_ x3_ v3_ hx3_ hS hM hl h
    unfold f_M_use_70 at h
    refine g_iinc (y := 1) hx hb hx2_ (by decide) (by decide) h dX13_use_70 hl (k := 2) rfl (by decide) (fun z1_z ls bz1_z h hl => ?_)
    have hl : lv_has ls 4 [(2, .int z1_z), (0, .ref (b + 192)), (1, .int x1), (3, .int x3_)] := hl
    exact B73 kf8_ hkf8_ S _ _ _ z1_z (v2_ + 1) bz1_z x3_ v3_ hx3_ hS hM (lv_sub hl [1, 2, 0, 3] rfl) h
  have B35 : ∀ (kf8_ : SS → Int → Int → Option SS) (hkf8_ : ∀ (S : SS) (H : Heap) (locs : List Loc) (ls : Array Slot) (x2_ : Int32) (v2_ : Int) (hx2_ : x2_.toInt = v2_) (x3_ : Int32) (v3_ : Int) (hx3_ : x3_.toInt = v3_), rng S → mS D b s 220 (jM b kc T S) H locs → lv_has ls 4 [(0, .ref (b + 192)), (1, .int x1), (2, .int x2_), (3, .int x3_)] → kf8_ S v2_ v3_ = some Sr → W p l e (mR 7 0 0) s m args below meth c H locs 0 0 Q (F0 m 8 ls [])), ∀ (S : SS) (H : Heap) (locs : List Loc) (ls : Array Slot) (x2_ : Int32) (v2_ : Int) (hx2_ : x2_.toInt = v2_) (x3_ : Int32) (v3_ : Int) (hx3_ : x3_.toInt = v3_) (xt0_ : Int32) (vt0_ : Int) (hxt0_ : xt0_.toInt = vt0_) (xt1_ : Int32) (vt1_ : Int) (hxt1_ : xt1_.toInt = vt1_), rng S → mS D b s 220 (jM b kc T S) H locs → lv_has ls 4 [(0, .ref (b + 192)), (1, .int x1), (2, .int x2_), (3, .int x3_)] → f_M_use_35 v1 kf8_ S v2_ v3_ vt0_ vt1_ = some Sr → W p l e (mR 7 0 0) s m args below meth c H locs 0 0 Q (F0 m 35 ls [.int xt0_, .int xt1_, .ref (b + 214)]) := by
    intro kf8_ hkf8_ S H locs ls x2_ v2_ hx2_ x3_ v3_ hx3_ xt0_ vt0_ hxt0_ xt1_ vt1_ hxt1_ hS hM hl h
    unfold f_M_use_35 at h
    obtain ⟨c1_z, h⟩ := w_chkE h
    refine g_zast C hM (j := 214) (by omega) (jK_M b kc T (by omega)) (a_214 b kc) hS hxt1_ hxt0_ c1_z (B := 40) rfl h dX13_use_35 (fun S2_z H locs h hM hS => ?_)
    refine lv_aload_n hx hb dX13_use_36 rfl (lv_at hl 0 rfl) ?_
    refine m_get fl_X13_117_X13 C hM (i := 192) (by omega) (e_192 b kc T S2_z) (v := .ref (b + 214)) rfl dX13_use_37 ?_
    refine lv_iload_n hx hb dX13_use_40 rfl (lv_at hl 3 rfl) ?_
    refine g_zald C hM (j := 214) (by omega) (jK_M b kc T (by omega)) (a_214 b kc) hS hx3_ (B := 40) rfl h dX13_use_41 (fun z3_z bz3_z h => ?_)
    refine g_if_ne (tgt := 48) hx hb bz3_z h dX13_use_42 (by decide) (fun h => ?_) (fun h => ?_)
    · refine lv_iload_n hx hb dX13_use_48 rfl (lv_at hl 2 rfl) ?_
      refine lv_bipush (v := 31) hx hb dX13_use_49 (by decide) ?_
      refine g_icmp_ge (tgt := 70) hx hb hx2_ (show (31 : Int32).toInt = 31 by decide) h dX13_use_51 (by decide) (fun h => ?_) (fun h => ?_)
      · exact B70 kf8_ hkf8_ S2_z _ _ _ x2_ v2_ hx2_ x3_ v3_ hx3_ hS hM (lv_sub hl [0, 1, 2, 3] rfl) h
      · refine lv_iload_n hx hb dX13_use_54 rfl (lv_at hl 1 rfl) ?_
        refine lv_iload_n hx hb dX13_use_55 rfl (lv_at hl 2 rfl) ?_
        refine g_ishr hx hb hx1 hx2_ dX13_use_56 (fun z4_z bz4_z => ?_)
        refine lv_iconst (v := 1) hx hb dX13_use_57 (by decide) ?_
        refine g_iand hx hb bz4_z (show (1 : Int32).toInt = 1 by decide) dX13_use_58 (fun z5_z bz5_z => ?_)
        refine lv_iconst (v := 1) hx hb dX13_use_59 (by decide) ?_
        refine g_icmp_ne (tgt := 70) hx hb bz5_z (show (1 : Int32).toInt = 1 by decide) h dX13_use_60 (by decide) (fun h => ?_) (fun h => ?_)
        · exact B70 kf8_ hkf8_ S2_z _ _ _ x2_ v2_ hx2_ x3_ v3_ hx3_ hS hM (lv_sub hl [0, 1, 2, 3] rfl) h
        · refine lv_aload_n hx hb dX13_use_63 rfl (lv_at hl 0 rfl) ?_
          refine m_get fl_X13_117_X13 C hM (i := 192) (by omega) (e_192 b kc T S2_z) (v := .ref (b + 214)) rfl dX13_use_64 ?_
          refine lv_iload_n hx hb dX13_use_67 rfl (lv_at hl 3 rfl) ?_
          refine lv_iconst (v := 0) hx hb dX13_use_68 (by decide) ?_
          refine g_zast C hM (j := 214) (by omega) (jK_M b kc T (by omega)) (a_214 b kc) hS hx3_ (show (0 : Int32).toInt = 0 by decide) (by decide) (B := 40) rfl h dX13_use_69 (fun S6_z H locs h hM hS => ?_)
          exact B70 kf8_ hkf8_ S6_z _ _ _ x2_ v2_ hx2_ x3_ v3_ hx3_ hS hM (lv_sub hl [0, 1, 2, 3] rfl) h
    · refine lv_goto (tgt := 73) hx hb dX13_use_45 (by decide) ?_
      exact B73 kf8_ hkf8_ S2_z _ _ _ x2_ v2_ hx2_ x3_ v3_ hx3_ hS hM (lv_sub hl [0, 1, 2, 3] rfl) h
  have B8 : ∀ (n : Nat), ∀ (S : SS) (H : Heap) (locs : List Loc) (ls : Array Slot) (x2_ : Int32) (v2_ : Int) (hx2_ : x2_.toInt = v2_) (x3_ : Int32) (v3_ : Int) (hx3_ : x3_.toInt = v3_), rng S → mS D b s 220 (jM b kc T S) H locs → lv_has ls 4 [(0, .ref (b + 192)), (1, .int x1), (2, .int x2_), (3, .int x3_)] → f_M_use_8 v1 n S v2_ v3_ = some Sr → W p l e (mR 7 0 0) s m args below meth c H locs 0 0 Q (F0 m 8 ls []) := by
    intro n
    induction n with
    | zero => intro S H locs ls x2_ v2_ hx2_ x3_ v3_ hx3_ hS hM hl h; exact absurd (h : none = some _) (fun q => nomatch q)
    | succ n hkf8_ =>
      intro S H locs ls x2_ v2_ hx2_ x3_ v3_ hx3_ hS hM hl h
      have h : f_M_use_8_b v1 (f_M_use_8 v1 n) S v2_ v3_ = some Sr := h
      unfold f_M_use_8_b at h
      refine lv_iload_n hx hb dX13_use_8 rfl (lv_at hl 3 rfl) ?_
      refine lv_aload_n hx hb dX13_use_9 rfl (lv_at hl 0 rfl) ?_
      refine g_get fl_X13_153_X13 C hM (i := 192) (r := 192) (by omega) (e_192 b kc T S) rfl hS dX13_use_10 (fun z1_z bz1_z => ?_)
      refine g_icmp_ge (tgt := 79) hx hb hx3_ bz1_z h dX13_use_13 (by decide) (fun h => ?_) (fun h => ?_)
      · exact ret S _ _ _ _ (Option.some.inj h) hM hS dX13_use_79
      · refine lv_aload_n hx hb dX13_use_16 rfl (lv_at hl 0 rfl) ?_
        refine m_get fl_X13_117_X13 C hM (i := 192) (by omega) (e_192 b kc T S) (v := .ref (b + 214)) rfl dX13_use_17 ?_
        refine lv_iload_n hx hb dX13_use_20 rfl (lv_at hl 3 rfl) ?_
        refine lv_aload_n hx hb dX13_use_21 rfl (lv_at hl 0 rfl) ?_
        refine m_get fl_X13_111_X13 C hM (i := 192) (by omega) (e_192 b kc T S) (v := .ref (b + 212)) rfl dX13_use_22 ?_
        refine lv_iload_n hx hb dX13_use_25 rfl (lv_at hl 3 rfl) ?_
        refine g_iald C hM (j := 212) (by omega) (jK_M b kc T (by omega)) (a_212 b kc) hS hx3_ (B := 40) rfl h dX13_use_26 (fun z2_z bz2_z h => ?_)
        refine g_if_ne (tgt := 34) hx hb bz2_z h dX13_use_27 (by decide) (fun h => ?_) (fun h => ?_)
        · refine lv_iconst (v := 0) hx hb dX13_use_34 (by decide) ?_
          exact B35 (f_M_use_8 v1 n) hkf8_ S _ _ _ x2_ v2_ hx2_ x3_ v3_ hx3_ 0 0 (show (0 : Int32).toInt = 0 by decide) x3_ v3_ hx3_ hS hM (lv_sub hl [0, 1, 2, 3] rfl) h
        · refine lv_iconst (v := 1) hx hb dX13_use_30 (by decide) ?_
          refine lv_goto (tgt := 35) hx hb dX13_use_31 (by decide) ?_
          exact B35 (f_M_use_8 v1 n) hkf8_ S _ _ _ x2_ v2_ hx2_ x3_ v3_ hx3_ 1 1 (show (1 : Int32).toInt = 1 by decide) x3_ v3_ hx3_ hS hM (lv_sub hl [0, 1, 2, 3] rfl) h
  refine lv_aload_n hx hb dX13_use_0 rfl (lv_at hl 0 rfl) ?_
  obtain ⟨S1_z, cS1_z, h⟩ := w_b1E h
  refine g_callV (J := jM b kc T) (m_runV calV_X13_judge wd_1352 (g_M_judge l D kc b T S hS cS1_z) C hM (i := 192) (by omega) (e_192 b kc T S) rfl hl.1 rfl rfl (Nat.le_of_ble_eq_true rfl) dX13_use_1 ⟨Nat.le_of_ble_eq_true rfl, Nat.le_of_ble_eq_true rfl⟩ ⟨Nat.le_of_ble_eq_true rfl, Nat.le_of_ble_eq_true rfl⟩) hM (fun H locs hM hS => ?_)
  refine lv_iconst (v := 0) hx hb dX13_use_4 (by decide) ?_
  refine lv_istore_n (lv' := [(2, .int 0), (0, .ref (b + 192)), (1, .int x1)]) hx hb dX13_use_5 rfl hl (by decide) rfl (fun ls hl => ?_)
  refine lv_iconst (v := 0) hx hb dX13_use_6 (by decide) ?_
  refine lv_istore_n (lv' := [(3, .int 0), (2, .int 0), (0, .ref (b + 192)), (1, .int x1)]) hx hb dX13_use_7 rfl hl (by decide) rfl (fun ls hl => ?_)
  exact B8 FU S1_z _ _ _ 0 0 (show (0 : Int32).toInt = 0 by decide) 0 0 (show (0 : Int32).toInt = 0 by decide) hS hM (lv_sub hl [2, 3, 1, 0] rfl) h

def f_M_innermost_111 (S : SS) (v1 : Int) (v2 : Int) (kf5_ : Int → Int → Option Int) (v3_ : Int) (v4_ : Int) : Option Int := w_chk (i32 (v4_ + 1)) (kf5_ v3_ (v4_ + 1))
def f_M_innermost_108 (S : SS) (v1 : Int) (v2 : Int) (kf5_ : Int → Int → Option Int) (v4_ : Int) : Option Int := f_M_innermost_111 S v1 v2 kf5_ v4_ v4_
def f_M_innermost_54 (S : SS) (v1 : Int) (v2 : Int) (kf5_ : Int → Int → Option Int) (v3_ : Int) (v4_ : Int) (wt0_ : Int64) (wt1_ : Int64) (wt2_ : Int64) : Option Int := w_chk (i64 (wt1_.toInt + wt0_.toInt)) (w_chk (0 ≤ v4_ ∧ v4_ < 41) ((if f_M_in S wt2_.toInt (wt1_.toInt + wt0_.toInt) (gi S 202 (v4_).toNat) = 0 then f_M_innermost_111 S v1 v2 kf5_ v3_ v4_ else (if v3_ = (-1) then f_M_innermost_108 S v1 v2 kf5_ v4_ else w_chk (0 ≤ v4_ ∧ v4_ < 41) (w_chk (0 ≤ v4_ ∧ v4_ < 41) (w_chk (i32 ((gi S 202 (v4_).toNat) - (gi S 201 (v4_).toNat))) (w_chk (0 ≤ v3_ ∧ v3_ < 41) (w_chk (0 ≤ v3_ ∧ v3_ < 41) (w_chk (i32 ((gi S 202 (v3_).toNat) - (gi S 201 (v3_).toNat))) ((if (gi S 202 (v3_).toNat) - (gi S 201 (v3_).toNat) ≤ (gi S 202 (v4_).toNat) - (gi S 201 (v4_).toNat) then f_M_innermost_111 S v1 v2 kf5_ v3_ v4_ else f_M_innermost_108 S v1 v2 kf5_ v4_)))))))))))
def f_M_innermost_5_b (S : SS) (v1 : Int) (v2 : Int) (kf5_ : Int → Int → Option Int) (v3_ : Int) (v4_ : Int) : Option Int := (if gi S 192 27 ≤ v4_ then some v3_ else w_chk (0 ≤ v4_ ∧ v4_ < 40) ((if gi S 214 (v4_).toNat = 0 then f_M_innermost_111 S v1 v2 kf5_ v3_ v4_ else w_chk (0 ≤ v4_ ∧ v4_ < 41) ((if gi S 199 (v4_).toNat = 4 then w_chk (0 ≤ v4_ ∧ v4_ < 41) ((if v2 = 0 then f_M_innermost_54 S v1 v2 kf5_ v3_ v4_ 0 (i2l (gi S 201 (v4_).toNat)) (i2l v1) else f_M_innermost_54 S v1 v2 kf5_ v3_ v4_ 1 (i2l (gi S 201 (v4_).toNat)) (i2l v1))) else f_M_innermost_111 S v1 v2 kf5_ v3_ v4_)))))
def f_M_innermost_5 (S : SS) (v1 : Int) (v2 : Int) : Nat → Int → Int → Option Int
  | 0 => fun _ _ => none
  | n + 1 => f_M_innermost_5_b S v1 v2 (f_M_innermost_5 S v1 v2 n)
def f_M_innermost (S : SS) (v1 : Int) (v2 : Int) : Option Int := f_M_innermost_5 S v1 v2 FU (-1) 0
set_option maxHeartbeats 4000000 in
set_option maxRecDepth 100000 in
theorem g_M_innermost (l : Launch) (D : va_G) (kc : Nat → ClassId) (b : Nat) (T S : SS) (x1 : Int32) (v1 : Int) (hx1 : x1.toInt = v1) (x2 : Int32) (v2 : Int) (hx2 : x2.toInt = v2) (hS : rng S) {vr : Int} (h : f_M_innermost S v1 v2 = some vr) : cI l yX13_innermost cX13_innermost 5 .int 2 D kc b (jM b kc T) S [.ref (b + 192), .int x1, .int x2] vr S := by
  refine g_beg_i (by decide) (Nat.le_of_ble_eq_true rfl) ?_
  intro p e s m args below meth c Q C ret hM ls hl
  obtain ⟨hx, hb, hml, hown, hts, hE, hbs⟩ := id C
  have hl : lv_has ls 5 [(0, .ref (b + 192)), (1, .int x1), (2, .int x2)] := hl
  unfold f_M_innermost at h
  have B111 : ∀ (kf5_ : Int → Int → Option Int) (hkf5_ : ∀ (H : Heap) (locs : List Loc) (ls : Array Slot) (x3_ : Int32) (v3_ : Int) (hx3_ : x3_.toInt = v3_) (x4_ : Int32) (v4_ : Int) (hx4_ : x4_.toInt = v4_), rng S → mS D b s 220 (jM b kc T S) H locs → lv_has ls 5 [(0, .ref (b + 192)), (1, .int x1), (2, .int x2), (3, .int x3_), (4, .int x4_)] → kf5_ v3_ v4_ = some vr → W p l e (mR 2 0 0) s m args below meth c H locs 0 0 Q (F0 m 5 ls [])), ∀ (H : Heap) (locs : List Loc) (ls : Array Slot) (x3_ : Int32) (v3_ : Int) (hx3_ : x3_.toInt = v3_) (x4_ : Int32) (v4_ : Int) (hx4_ : x4_.toInt = v4_), rng S → mS D b s 220 (jM b kc T S) H locs → lv_has ls 5 [(0, .ref (b + 192)), (1, .int x1), (2, .int x2), (3, .int x3_), (4, .int x4_)] → f_M_innermost_111 S v1 v2 kf5_ v3_ v4_ = some vr → W p l e (mR 2 0 0) s m args below meth c H locs 0 0 Q (F0 m 111 ls []) := by
    intro kf5_ hkf5_ H locs ls x3_ v3_ hx3_ x4_ v4_ hx4_ hS hM hl h
    unfold f_M_innermost_111 at h
    refine g_iinc (y := 1) hx hb hx4_ (by decide) (by decide) h dX13_innermost_111 hl (k := 4) rfl (by decide) (fun z1_z ls bz1_z h hl => ?_)
    have hl : lv_has ls 5 [(4, .int z1_z), (0, .ref (b + 192)), (1, .int x1), (2, .int x2), (3, .int x3_)] := hl
    refine lv_goto (tgt := 5) hx hb dX13_innermost_114 (by decide) ?_
    exact hkf5_ _ _ _ x3_ v3_ hx3_ z1_z (v4_ + 1) bz1_z hS hM (lv_sub hl [1, 2, 3, 4, 0] rfl) h
  have B108 : ∀ (kf5_ : Int → Int → Option Int) (hkf5_ : ∀ (H : Heap) (locs : List Loc) (ls : Array Slot) (x3_ : Int32) (v3_ : Int) (hx3_ : x3_.toInt = v3_) (x4_ : Int32) (v4_ : Int) (hx4_ : x4_.toInt = v4_), rng S → mS D b s 220 (jM b kc T S) H locs → lv_has ls 5 [(0, .ref (b + 192)), (1, .int x1), (2, .int x2), (3, .int x3_), (4, .int x4_)] → kf5_ v3_ v4_ = some vr → W p l e (mR 2 0 0) s m args below meth c H locs 0 0 Q (F0 m 5 ls [])), ∀ (H : Heap) (locs : List Loc) (ls : Array Slot) (x4_ : Int32) (v4_ : Int) (hx4_ : x4_.toInt = v4_), rng S → mS D b s 220 (jM b kc T S) H locs → lv_has ls 5 [(0, .ref (b + 192)), (1, .int x1), (2, .int x2), (4, .int x4_)] → f_M_innermost_108 S v1 v2 kf5_ v4_ = some vr → W p l e (mR 2 0 0) s m args below meth c H locs 0 0 Q (F0 m 108 ls []) := by
    intro kf5_ hkf5_ H locs ls x4_ v4_ hx4_ hS hM hl h
    unfold f_M_innermost_108 at h
    refine lv_iload hx hb dX13_innermost_108 (lv_at hl 3 rfl) ?_
    refine lv_istore_n (lv' := [(3, .int x4_), (0, .ref (b + 192)), (1, .int x1), (2, .int x2), (4, .int x4_)]) hx hb dX13_innermost_110 rfl hl (by decide) rfl (fun ls hl => ?_)
    exact B111 kf5_ hkf5_ _ _ _ x4_ v4_ hx4_ x4_ v4_ hx4_ hS hM (lv_sub hl [1, 2, 3, 0, 4] rfl) h
  have B54 : ∀ (kf5_ : Int → Int → Option Int) (hkf5_ : ∀ (H : Heap) (locs : List Loc) (ls : Array Slot) (x3_ : Int32) (v3_ : Int) (hx3_ : x3_.toInt = v3_) (x4_ : Int32) (v4_ : Int) (hx4_ : x4_.toInt = v4_), rng S → mS D b s 220 (jM b kc T S) H locs → lv_has ls 5 [(0, .ref (b + 192)), (1, .int x1), (2, .int x2), (3, .int x3_), (4, .int x4_)] → kf5_ v3_ v4_ = some vr → W p l e (mR 2 0 0) s m args below meth c H locs 0 0 Q (F0 m 5 ls [])), ∀ (H : Heap) (locs : List Loc) (ls : Array Slot) (x3_ : Int32) (v3_ : Int) (hx3_ : x3_.toInt = v3_) (x4_ : Int32) (v4_ : Int) (hx4_ : x4_.toInt = v4_) (wt0_ : Int64) (wt1_ : Int64) (wt2_ : Int64), rng S → mS D b s 220 (jM b kc T S) H locs → lv_has ls 5 [(0, .ref (b + 192)), (1, .int x1), (2, .int x2), (3, .int x3_), (4, .int x4_)] → f_M_innermost_54 S v1 v2 kf5_ v3_ v4_ wt0_ wt1_ wt2_ = some vr → W p l e (mR 2 0 0) s m args below meth c H locs 0 0 Q (F0 m 54 ls [.long wt0_, .long wt1_, .long wt2_]) := by
    intro kf5_ hkf5_ H locs ls x3_ v3_ hx3_ x4_ v4_ hx4_ wt0_ wt1_ wt2_ hS hM hl h
    unfold f_M_innermost_54 at h
    obtain ⟨cz1_z, h⟩ := w_chkE h
    refine g_ladd hx hb (show wt1_.toInt = wt1_.toInt from rfl) (show wt0_.toInt = wt0_.toInt from rfl) cz1_z.1 cz1_z.2 dX13_innermost_54 (fun z1_z bz1_z => ?_)
    refine lv_aload_n hx hb dX13_innermost_55 rfl (lv_at hl 0 rfl) ?_
    refine m_get fl_X13_80_X13 C hM (i := 192) (by omega) (e_192 b kc T S) (v := .ref (b + 202)) rfl dX13_innermost_56 ?_
    refine lv_iload hx hb dX13_innermost_59 (lv_at hl 4 rfl) ?_
    refine g_iald C hM (j := 202) (by omega) (jK_M b kc T (by omega)) (a_202 b kc) hS hx4_ (B := 41) rfl h dX13_innermost_61 (fun z2_z bz2_z h => ?_)
    refine g_i2l (a := gi S 202 (v4_).toNat) hx hb bz2_z dX13_innermost_62 (fun c3_z => ?_)
    refine g_callI (J := jM b kc T) (m_runS calS_X13_in wd_1221 (g_M_in l D kc b T S wt2_ wt2_.toInt (show wt2_.toInt = wt2_.toInt from rfl) z1_z (wt1_.toInt + wt0_.toInt) bz1_z (i2l (gi S 202 (v4_).toNat)) (gi S 202 (v4_).toNat) c3_z hS rfl) C hM hl.1 rfl rfl (Nat.le_of_ble_eq_true rfl) dX13_innermost_63 ⟨Nat.le_of_ble_eq_true rfl, Nat.le_of_ble_eq_true rfl⟩ ⟨Nat.le_of_ble_eq_true rfl, Nat.le_of_ble_eq_true rfl⟩) hM (fun z4_z H locs bz4_z hM hS => ?_)
    refine g_if_ne (tgt := 72) hx hb bz4_z h dX13_innermost_66 (by decide) (fun h => ?_) (fun h => ?_)
    · refine lv_iload_n hx hb dX13_innermost_72 rfl (lv_at hl 3 rfl) ?_
      refine lv_iconst (v := (-1)) hx hb dX13_innermost_73 (by decide) ?_
      refine g_icmp_eq (tgt := 108) hx hb hx3_ (show ((-1) : Int32).toInt = (-1) by decide) h dX13_innermost_74 (by decide) (fun h => ?_) (fun h => ?_)
      · exact B108 kf5_ hkf5_ _ _ _ x4_ v4_ hx4_ hS hM (lv_sub hl [0, 1, 2, 4] rfl) h
      · refine lv_aload_n hx hb dX13_innermost_77 rfl (lv_at hl 0 rfl) ?_
        refine m_get fl_X13_80_X13 C hM (i := 192) (by omega) (e_192 b kc T S) (v := .ref (b + 202)) rfl dX13_innermost_78 ?_
        refine lv_iload hx hb dX13_innermost_81 (lv_at hl 4 rfl) ?_
        refine g_iald C hM (j := 202) (by omega) (jK_M b kc T (by omega)) (a_202 b kc) hS hx4_ (B := 41) rfl h dX13_innermost_83 (fun z5_z bz5_z h => ?_)
        refine lv_aload_n hx hb dX13_innermost_84 rfl (lv_at hl 0 rfl) ?_
        refine m_get fl_X13_77_X13 C hM (i := 192) (by omega) (e_192 b kc T S) (v := .ref (b + 201)) rfl dX13_innermost_85 ?_
        refine lv_iload hx hb dX13_innermost_88 (lv_at hl 4 rfl) ?_
        refine g_iald C hM (j := 201) (by omega) (jK_M b kc T (by omega)) (a_201 b kc) hS hx4_ (B := 41) rfl h dX13_innermost_90 (fun z6_z bz6_z h => ?_)
        refine g_isub hx hb bz5_z bz6_z h dX13_innermost_91 (fun z7_z bz7_z h => ?_)
        refine lv_aload_n hx hb dX13_innermost_92 rfl (lv_at hl 0 rfl) ?_
        refine m_get fl_X13_80_X13 C hM (i := 192) (by omega) (e_192 b kc T S) (v := .ref (b + 202)) rfl dX13_innermost_93 ?_
        refine lv_iload_n hx hb dX13_innermost_96 rfl (lv_at hl 3 rfl) ?_
        refine g_iald C hM (j := 202) (by omega) (jK_M b kc T (by omega)) (a_202 b kc) hS hx3_ (B := 41) rfl h dX13_innermost_97 (fun z8_z bz8_z h => ?_)
        refine lv_aload_n hx hb dX13_innermost_98 rfl (lv_at hl 0 rfl) ?_
        refine m_get fl_X13_77_X13 C hM (i := 192) (by omega) (e_192 b kc T S) (v := .ref (b + 201)) rfl dX13_innermost_99 ?_
        refine lv_iload_n hx hb dX13_innermost_102 rfl (lv_at hl 3 rfl) ?_
        refine g_iald C hM (j := 201) (by omega) (jK_M b kc T (by omega)) (a_201 b kc) hS hx3_ (B := 41) rfl h dX13_innermost_103 (fun z9_z bz9_z h => ?_)
        refine g_isub hx hb bz8_z bz9_z h dX13_innermost_104 (fun z10_z bz10_z h => ?_)
        refine g_icmp_ge (tgt := 111) hx hb bz7_z bz10_z h dX13_innermost_105 (by decide) (fun h => ?_) (fun h => ?_)
        · exact B111 kf5_ hkf5_ _ _ _ x3_ v3_ hx3_ x4_ v4_ hx4_ hS hM (lv_sub hl [0, 1, 2, 3, 4] rfl) h
        · exact B108 kf5_ hkf5_ _ _ _ x4_ v4_ hx4_ hS hM (lv_sub hl [0, 1, 2, 4] rfl) h
    · refine lv_goto (tgt := 111) hx hb dX13_innermost_69 (by decide) ?_
      exact B111 kf5_ hkf5_ _ _ _ x3_ v3_ hx3_ x4_ v4_ hx4_ hS hM (lv_sub hl [0, 1, 2, 3, 4] rfl) h
  have B5 : ∀ (n : Nat), ∀ (H : Heap) (locs : List Loc) (ls : Array Slot) (x3_ : Int32) (v3_ : Int) (hx3_ : x3_.toInt = v3_) (x4_ : Int32) (v4_ : Int) (hx4_ : x4_.toInt = v4_), rng S → mS D b s 220 (jM b kc T S) H locs → lv_has ls 5 [(0, .ref (b + 192)), (1, .int x1), (2, .int x2), (3, .int x3_), (4, .int x4_)] → f_M_innermost_5 S v1 v2 n v3_ v4_ = some vr → W p l e (mR 2 0 0) s m args below meth c H locs 0 0 Q (F0 m 5 ls []) := by
    intro n
    induction n with
    | zero => intro H locs ls x3_ v3_ hx3_ x4_ v4_ hx4_ hS hM hl h; exact absurd (h : none = some _) (fun q => nomatch q)
    | succ n hkf5_ =>
      intro H locs ls x3_ v3_ hx3_ x4_ v4_ hx4_ hS hM hl h
      have h : f_M_innermost_5_b S v1 v2 (f_M_innermost_5 S v1 v2 n) v3_ v4_ = some vr := h
      unfold f_M_innermost_5_b at h
      refine lv_iload hx hb dX13_innermost_5 (lv_at hl 4 rfl) ?_
      refine lv_aload_n hx hb dX13_innermost_7 rfl (lv_at hl 0 rfl) ?_
      refine g_get fl_X13_153_X13 C hM (i := 192) (r := 192) (by omega) (e_192 b kc T S) rfl hS dX13_innermost_8 (fun z1_z bz1_z => ?_)
      refine g_icmp_ge (tgt := 117) hx hb hx4_ bz1_z h dX13_innermost_11 (by decide) (fun h => ?_) (fun h => ?_)
      · refine lv_iload_n hx hb dX13_innermost_117 rfl (lv_at hl 3 rfl) ?_
        exact ret S _ _ _ _ x3_ (hx3_.trans (Option.some.inj h)) rfl hM hS dX13_innermost_118
      · refine lv_aload_n hx hb dX13_innermost_14 rfl (lv_at hl 0 rfl) ?_
        refine m_get fl_X13_117_X13 C hM (i := 192) (by omega) (e_192 b kc T S) (v := .ref (b + 214)) rfl dX13_innermost_15 ?_
        refine lv_iload hx hb dX13_innermost_18 (lv_at hl 4 rfl) ?_
        refine g_zald C hM (j := 214) (by omega) (jK_M b kc T (by omega)) (a_214 b kc) hS hx4_ (B := 40) rfl h dX13_innermost_20 (fun z2_z bz2_z h => ?_)
        refine g_if_eq (tgt := 111) hx hb bz2_z h dX13_innermost_21 (by decide) (fun h => ?_) (fun h => ?_)
        · exact B111 (f_M_innermost_5 S v1 v2 n) hkf5_ _ _ _ x3_ v3_ hx3_ x4_ v4_ hx4_ hS hM (lv_sub hl [0, 1, 2, 3, 4] rfl) h
        · refine lv_aload_n hx hb dX13_innermost_24 rfl (lv_at hl 0 rfl) ?_
          refine m_get fl_X13_70_X13 C hM (i := 192) (by omega) (e_192 b kc T S) (v := .ref (b + 199)) rfl dX13_innermost_25 ?_
          refine lv_iload hx hb dX13_innermost_28 (lv_at hl 4 rfl) ?_
          refine g_iald C hM (j := 199) (by omega) (jK_M b kc T (by omega)) (a_199 b kc) hS hx4_ (B := 41) rfl h dX13_innermost_30 (fun z3_z bz3_z h => ?_)
          refine lv_iconst (v := 4) hx hb dX13_innermost_31 (by decide) ?_
          refine g_icmp_ne (tgt := 111) hx hb bz3_z (show (4 : Int32).toInt = 4 by decide) h dX13_innermost_32 (by decide) (fun h => ?_) (fun h => ?_)
          · exact B111 (f_M_innermost_5 S v1 v2 n) hkf5_ _ _ _ x3_ v3_ hx3_ x4_ v4_ hx4_ hS hM (lv_sub hl [0, 1, 2, 3, 4] rfl) h
          · refine lv_iload_n hx hb dX13_innermost_35 rfl (lv_at hl 1 rfl) ?_
            refine g_i2l (a := v1) hx hb hx1 dX13_innermost_36 (fun c4_z => ?_)
            refine lv_aload_n hx hb dX13_innermost_37 rfl (lv_at hl 0 rfl) ?_
            refine m_get fl_X13_77_X13 C hM (i := 192) (by omega) (e_192 b kc T S) (v := .ref (b + 201)) rfl dX13_innermost_38 ?_
            refine lv_iload hx hb dX13_innermost_41 (lv_at hl 4 rfl) ?_
            refine g_iald C hM (j := 201) (by omega) (jK_M b kc T (by omega)) (a_201 b kc) hS hx4_ (B := 41) rfl h dX13_innermost_43 (fun z5_z bz5_z h => ?_)
            refine g_i2l (a := gi S 201 (v4_).toNat) hx hb bz5_z dX13_innermost_44 (fun c6_z => ?_)
            refine lv_iload_n hx hb dX13_innermost_45 rfl (lv_at hl 2 rfl) ?_
            refine g_if_eq (tgt := 53) hx hb hx2 h dX13_innermost_46 (by decide) (fun h => ?_) (fun h => ?_)
            · refine lv_lconst (v := 0) hx hb dX13_innermost_53 (by decide) ?_
              exact B54 (f_M_innermost_5 S v1 v2 n) hkf5_ _ _ _ x3_ v3_ hx3_ x4_ v4_ hx4_ 0 (i2l (gi S 201 (v4_).toNat)) (i2l v1) hS hM (lv_sub hl [0, 1, 2, 3, 4] rfl) h
            · refine lv_lconst (v := 1) hx hb dX13_innermost_49 (by decide) ?_
              refine lv_goto (tgt := 54) hx hb dX13_innermost_50 (by decide) ?_
              exact B54 (f_M_innermost_5 S v1 v2 n) hkf5_ _ _ _ x3_ v3_ hx3_ x4_ v4_ hx4_ 1 (i2l (gi S 201 (v4_).toNat)) (i2l v1) hS hM (lv_sub hl [0, 1, 2, 3, 4] rfl) h
  refine lv_iconst (v := (-1)) hx hb dX13_innermost_0 (by decide) ?_
  refine lv_istore_n (lv' := [(3, .int (-1)), (0, .ref (b + 192)), (1, .int x1), (2, .int x2)]) hx hb dX13_innermost_1 rfl hl (by decide) rfl (fun ls hl => ?_)
  refine lv_iconst (v := 0) hx hb dX13_innermost_2 (by decide) ?_
  refine lv_istore (lv' := [(4, .int 0), (3, .int (-1)), (0, .ref (b + 192)), (1, .int x1), (2, .int x2)]) hx hb dX13_innermost_3 hl (by decide) rfl (fun ls hl => ?_)
  exact B5 FU _ _ _ (-1) (-1) (show ((-1) : Int32).toInt = (-1) by decide) 0 0 (show (0 : Int32).toInt = 0 by decide) hS hM (lv_sub hl [2, 3, 4, 1, 0] rfl) h

def f_M_moveOf_100 (S : SS) (v1 : Int) (kf4_ : Int → Int → Option Int) (v2_ : Int) (v3_ : Int) : Option Int := w_chk (i32 (v3_ + 1)) (kf4_ v2_ (v3_ + 1))
def f_M_moveOf_98 (S : SS) (v1 : Int) (kf4_ : Int → Int → Option Int) (v3_ : Int) : Option Int := f_M_moveOf_100 S v1 kf4_ v3_ v3_
def f_M_moveOf_4_b (S : SS) (v1 : Int) (kf4_ : Int → Int → Option Int) (v2_ : Int) (v3_ : Int) : Option Int := (if gi S 192 27 ≤ v3_ then some v2_ else w_chk (0 ≤ v3_ ∧ v3_ < 40) ((if gi S 214 (v3_).toNat = 0 then f_M_moveOf_100 S v1 kf4_ v2_ v3_ else w_chk (0 ≤ v3_ ∧ v3_ < 41) ((if gi S 199 (v3_).toNat = 4 then w_chk (0 ≤ v1 ∧ v1 < 41) (w_chk (0 ≤ v3_ ∧ v3_ < 41) ((if gi S 201 (v1).toNat < gi S 201 (v3_).toNat then f_M_moveOf_100 S v1 kf4_ v2_ v3_ else w_chk (0 ≤ v1 ∧ v1 < 41) (w_chk (0 ≤ v3_ ∧ v3_ < 41) ((if gi S 203 (v1).toNat ≤ gi S 202 (v3_).toNat then (if v2_ = (-1) then f_M_moveOf_98 S v1 kf4_ v3_ else w_chk (0 ≤ v3_ ∧ v3_ < 41) (w_chk (0 ≤ v3_ ∧ v3_ < 41) (w_chk (i32 ((gi S 202 (v3_).toNat) - (gi S 201 (v3_).toNat))) (w_chk (0 ≤ v2_ ∧ v2_ < 41) (w_chk (0 ≤ v2_ ∧ v2_ < 41) (w_chk (i32 ((gi S 202 (v2_).toNat) - (gi S 201 (v2_).toNat))) ((if (gi S 202 (v2_).toNat) - (gi S 201 (v2_).toNat) ≤ (gi S 202 (v3_).toNat) - (gi S 201 (v3_).toNat) then f_M_moveOf_100 S v1 kf4_ v2_ v3_ else f_M_moveOf_98 S v1 kf4_ v3_)))))))) else f_M_moveOf_100 S v1 kf4_ v2_ v3_)))))) else f_M_moveOf_100 S v1 kf4_ v2_ v3_)))))
def f_M_moveOf_4 (S : SS) (v1 : Int) : Nat → Int → Int → Option Int
  | 0 => fun _ _ => none
  | n + 1 => f_M_moveOf_4_b S v1 (f_M_moveOf_4 S v1 n)
def f_M_moveOf (S : SS) (v1 : Int) : Option Int := f_M_moveOf_4 S v1 FU (-1) 0
set_option maxHeartbeats 4000000 in
set_option maxRecDepth 100000 in
theorem g_M_moveOf (l : Launch) (D : va_G) (kc : Nat → ClassId) (b : Nat) (T S : SS) (x1 : Int32) (v1 : Int) (hx1 : x1.toInt = v1) (hS : rng S) {vr : Int} (h : f_M_moveOf S v1 = some vr) : cI l yX13_moveOf cX13_moveOf 4 .int 1 D kc b (jM b kc T) S [.ref (b + 192), .int x1] vr S := by
  refine g_beg_i (by decide) (Nat.le_of_ble_eq_true rfl) ?_
  intro p e s m args below meth c Q C ret hM ls hl
  obtain ⟨hx, hb, hml, hown, hts, hE, hbs⟩ := id C
  have hl : lv_has ls 4 [(0, .ref (b + 192)), (1, .int x1)] := hl
  unfold f_M_moveOf at h
  have B100 : ∀ (kf4_ : Int → Int → Option Int) (hkf4_ : ∀ (H : Heap) (locs : List Loc) (ls : Array Slot) (x2_ : Int32) (v2_ : Int) (hx2_ : x2_.toInt = v2_) (x3_ : Int32) (v3_ : Int) (hx3_ : x3_.toInt = v3_), rng S → mS D b s 220 (jM b kc T S) H locs → lv_has ls 4 [(0, .ref (b + 192)), (1, .int x1), (2, .int x2_), (3, .int x3_)] → kf4_ v2_ v3_ = some vr → W p l e (mR 1 0 0) s m args below meth c H locs 0 0 Q (F0 m 4 ls [])), ∀ (H : Heap) (locs : List Loc) (ls : Array Slot) (x2_ : Int32) (v2_ : Int) (hx2_ : x2_.toInt = v2_) (x3_ : Int32) (v3_ : Int) (hx3_ : x3_.toInt = v3_), rng S → mS D b s 220 (jM b kc T S) H locs → lv_has ls 4 [(0, .ref (b + 192)), (1, .int x1), (2, .int x2_), (3, .int x3_)] → f_M_moveOf_100 S v1 kf4_ v2_ v3_ = some vr → W p l e (mR 1 0 0) s m args below meth c H locs 0 0 Q (F0 m 100 ls []) := by
    intro kf4_ hkf4_ H locs ls x2_ v2_ hx2_ x3_ v3_ hx3_ hS hM hl h
    unfold f_M_moveOf_100 at h
    refine g_iinc (y := 1) hx hb hx3_ (by decide) (by decide) h dX13_moveOf_100 hl (k := 3) rfl (by decide) (fun z1_z ls bz1_z h hl => ?_)
    have hl : lv_has ls 4 [(3, .int z1_z), (0, .ref (b + 192)), (1, .int x1), (2, .int x2_)] := hl
    refine lv_goto (tgt := 4) hx hb dX13_moveOf_103 (by decide) ?_
    exact hkf4_ _ _ _ x2_ v2_ hx2_ z1_z (v3_ + 1) bz1_z hS hM (lv_sub hl [1, 2, 3, 0] rfl) h
  have B98 : ∀ (kf4_ : Int → Int → Option Int) (hkf4_ : ∀ (H : Heap) (locs : List Loc) (ls : Array Slot) (x2_ : Int32) (v2_ : Int) (hx2_ : x2_.toInt = v2_) (x3_ : Int32) (v3_ : Int) (hx3_ : x3_.toInt = v3_), rng S → mS D b s 220 (jM b kc T S) H locs → lv_has ls 4 [(0, .ref (b + 192)), (1, .int x1), (2, .int x2_), (3, .int x3_)] → kf4_ v2_ v3_ = some vr → W p l e (mR 1 0 0) s m args below meth c H locs 0 0 Q (F0 m 4 ls [])), ∀ (H : Heap) (locs : List Loc) (ls : Array Slot) (x3_ : Int32) (v3_ : Int) (hx3_ : x3_.toInt = v3_), rng S → mS D b s 220 (jM b kc T S) H locs → lv_has ls 4 [(0, .ref (b + 192)), (1, .int x1), (3, .int x3_)] → f_M_moveOf_98 S v1 kf4_ v3_ = some vr → W p l e (mR 1 0 0) s m args below meth c H locs 0 0 Q (F0 m 98 ls []) := by
    intro kf4_ hkf4_ H locs ls x3_ v3_ hx3_ hS hM hl h
    unfold f_M_moveOf_98 at h
    refine lv_iload_n hx hb dX13_moveOf_98 rfl (lv_at hl 2 rfl) ?_
    refine lv_istore_n (lv' := [(2, .int x3_), (0, .ref (b + 192)), (1, .int x1), (3, .int x3_)]) hx hb dX13_moveOf_99 rfl hl (by decide) rfl (fun ls hl => ?_)
    exact B100 kf4_ hkf4_ _ _ _ x3_ v3_ hx3_ x3_ v3_ hx3_ hS hM (lv_sub hl [1, 2, 0, 3] rfl) h
  have B4 : ∀ (n : Nat), ∀ (H : Heap) (locs : List Loc) (ls : Array Slot) (x2_ : Int32) (v2_ : Int) (hx2_ : x2_.toInt = v2_) (x3_ : Int32) (v3_ : Int) (hx3_ : x3_.toInt = v3_), rng S → mS D b s 220 (jM b kc T S) H locs → lv_has ls 4 [(0, .ref (b + 192)), (1, .int x1), (2, .int x2_), (3, .int x3_)] → f_M_moveOf_4 S v1 n v2_ v3_ = some vr → W p l e (mR 1 0 0) s m args below meth c H locs 0 0 Q (F0 m 4 ls []) := by
    intro n
    induction n with
    | zero => intro H locs ls x2_ v2_ hx2_ x3_ v3_ hx3_ hS hM hl h; exact absurd (h : none = some _) (fun q => nomatch q)
    | succ n hkf4_ =>
      intro H locs ls x2_ v2_ hx2_ x3_ v3_ hx3_ hS hM hl h
      have h : f_M_moveOf_4_b S v1 (f_M_moveOf_4 S v1 n) v2_ v3_ = some vr := h
      unfold f_M_moveOf_4_b at h
      refine lv_iload_n hx hb dX13_moveOf_4 rfl (lv_at hl 3 rfl) ?_
      refine lv_aload_n hx hb dX13_moveOf_5 rfl (lv_at hl 0 rfl) ?_
      refine g_get fl_X13_153_X13 C hM (i := 192) (r := 192) (by omega) (e_192 b kc T S) rfl hS dX13_moveOf_6 (fun z1_z bz1_z => ?_)
      refine g_icmp_ge (tgt := 106) hx hb hx3_ bz1_z h dX13_moveOf_9 (by decide) (fun h => ?_) (fun h => ?_)
      · refine lv_iload_n hx hb dX13_moveOf_106 rfl (lv_at hl 2 rfl) ?_
        exact ret S _ _ _ _ x2_ (hx2_.trans (Option.some.inj h)) rfl hM hS dX13_moveOf_107
      · refine lv_aload_n hx hb dX13_moveOf_12 rfl (lv_at hl 0 rfl) ?_
        refine m_get fl_X13_117_X13 C hM (i := 192) (by omega) (e_192 b kc T S) (v := .ref (b + 214)) rfl dX13_moveOf_13 ?_
        refine lv_iload_n hx hb dX13_moveOf_16 rfl (lv_at hl 3 rfl) ?_
        refine g_zald C hM (j := 214) (by omega) (jK_M b kc T (by omega)) (a_214 b kc) hS hx3_ (B := 40) rfl h dX13_moveOf_17 (fun z2_z bz2_z h => ?_)
        refine g_if_eq (tgt := 100) hx hb bz2_z h dX13_moveOf_18 (by decide) (fun h => ?_) (fun h => ?_)
        · exact B100 (f_M_moveOf_4 S v1 n) hkf4_ _ _ _ x2_ v2_ hx2_ x3_ v3_ hx3_ hS hM (lv_sub hl [0, 1, 2, 3] rfl) h
        · refine lv_aload_n hx hb dX13_moveOf_21 rfl (lv_at hl 0 rfl) ?_
          refine m_get fl_X13_70_X13 C hM (i := 192) (by omega) (e_192 b kc T S) (v := .ref (b + 199)) rfl dX13_moveOf_22 ?_
          refine lv_iload_n hx hb dX13_moveOf_25 rfl (lv_at hl 3 rfl) ?_
          refine g_iald C hM (j := 199) (by omega) (jK_M b kc T (by omega)) (a_199 b kc) hS hx3_ (B := 41) rfl h dX13_moveOf_26 (fun z3_z bz3_z h => ?_)
          refine lv_iconst (v := 4) hx hb dX13_moveOf_27 (by decide) ?_
          refine g_icmp_ne (tgt := 100) hx hb bz3_z (show (4 : Int32).toInt = 4 by decide) h dX13_moveOf_28 (by decide) (fun h => ?_) (fun h => ?_)
          · exact B100 (f_M_moveOf_4 S v1 n) hkf4_ _ _ _ x2_ v2_ hx2_ x3_ v3_ hx3_ hS hM (lv_sub hl [0, 1, 2, 3] rfl) h
          · refine lv_aload_n hx hb dX13_moveOf_31 rfl (lv_at hl 0 rfl) ?_
            refine m_get fl_X13_77_X13 C hM (i := 192) (by omega) (e_192 b kc T S) (v := .ref (b + 201)) rfl dX13_moveOf_32 ?_
            refine lv_iload_n hx hb dX13_moveOf_35 rfl (lv_at hl 1 rfl) ?_
            refine g_iald C hM (j := 201) (by omega) (jK_M b kc T (by omega)) (a_201 b kc) hS hx1 (B := 41) rfl h dX13_moveOf_36 (fun z4_z bz4_z h => ?_)
            refine lv_aload_n hx hb dX13_moveOf_37 rfl (lv_at hl 0 rfl) ?_
            refine m_get fl_X13_77_X13 C hM (i := 192) (by omega) (e_192 b kc T S) (v := .ref (b + 201)) rfl dX13_moveOf_38 ?_
            refine lv_iload_n hx hb dX13_moveOf_41 rfl (lv_at hl 3 rfl) ?_
            refine g_iald C hM (j := 201) (by omega) (jK_M b kc T (by omega)) (a_201 b kc) hS hx3_ (B := 41) rfl h dX13_moveOf_42 (fun z5_z bz5_z h => ?_)
            refine g_icmp_lt (tgt := 100) hx hb bz4_z bz5_z h dX13_moveOf_43 (by decide) (fun h => ?_) (fun h => ?_)
            · exact B100 (f_M_moveOf_4 S v1 n) hkf4_ _ _ _ x2_ v2_ hx2_ x3_ v3_ hx3_ hS hM (lv_sub hl [0, 1, 2, 3] rfl) h
            · refine lv_aload_n hx hb dX13_moveOf_46 rfl (lv_at hl 0 rfl) ?_
              refine m_get fl_X13_83_X13 C hM (i := 192) (by omega) (e_192 b kc T S) (v := .ref (b + 203)) rfl dX13_moveOf_47 ?_
              refine lv_iload_n hx hb dX13_moveOf_50 rfl (lv_at hl 1 rfl) ?_
              refine g_iald C hM (j := 203) (by omega) (jK_M b kc T (by omega)) (a_203 b kc) hS hx1 (B := 41) rfl h dX13_moveOf_51 (fun z6_z bz6_z h => ?_)
              refine lv_aload_n hx hb dX13_moveOf_52 rfl (lv_at hl 0 rfl) ?_
              refine m_get fl_X13_80_X13 C hM (i := 192) (by omega) (e_192 b kc T S) (v := .ref (b + 202)) rfl dX13_moveOf_53 ?_
              refine lv_iload_n hx hb dX13_moveOf_56 rfl (lv_at hl 3 rfl) ?_
              refine g_iald C hM (j := 202) (by omega) (jK_M b kc T (by omega)) (a_202 b kc) hS hx3_ (B := 41) rfl h dX13_moveOf_57 (fun z7_z bz7_z h => ?_)
              refine g_icmp_le (tgt := 64) hx hb bz6_z bz7_z h dX13_moveOf_58 (by decide) (fun h => ?_) (fun h => ?_)
              · refine lv_iload_n hx hb dX13_moveOf_64 rfl (lv_at hl 2 rfl) ?_
                refine lv_iconst (v := (-1)) hx hb dX13_moveOf_65 (by decide) ?_
                refine g_icmp_eq (tgt := 98) hx hb hx2_ (show ((-1) : Int32).toInt = (-1) by decide) h dX13_moveOf_66 (by decide) (fun h => ?_) (fun h => ?_)
                · exact B98 (f_M_moveOf_4 S v1 n) hkf4_ _ _ _ x3_ v3_ hx3_ hS hM (lv_sub hl [0, 1, 3] rfl) h
                · refine lv_aload_n hx hb dX13_moveOf_69 rfl (lv_at hl 0 rfl) ?_
                  refine m_get fl_X13_80_X13 C hM (i := 192) (by omega) (e_192 b kc T S) (v := .ref (b + 202)) rfl dX13_moveOf_70 ?_
                  refine lv_iload_n hx hb dX13_moveOf_73 rfl (lv_at hl 3 rfl) ?_
                  refine g_iald C hM (j := 202) (by omega) (jK_M b kc T (by omega)) (a_202 b kc) hS hx3_ (B := 41) rfl h dX13_moveOf_74 (fun z8_z bz8_z h => ?_)
                  refine lv_aload_n hx hb dX13_moveOf_75 rfl (lv_at hl 0 rfl) ?_
                  refine m_get fl_X13_77_X13 C hM (i := 192) (by omega) (e_192 b kc T S) (v := .ref (b + 201)) rfl dX13_moveOf_76 ?_
                  refine lv_iload_n hx hb dX13_moveOf_79 rfl (lv_at hl 3 rfl) ?_
                  refine g_iald C hM (j := 201) (by omega) (jK_M b kc T (by omega)) (a_201 b kc) hS hx3_ (B := 41) rfl h dX13_moveOf_80 (fun z9_z bz9_z h => ?_)
                  refine g_isub hx hb bz8_z bz9_z h dX13_moveOf_81 (fun z10_z bz10_z h => ?_)
                  refine lv_aload_n hx hb dX13_moveOf_82 rfl (lv_at hl 0 rfl) ?_
                  refine m_get fl_X13_80_X13 C hM (i := 192) (by omega) (e_192 b kc T S) (v := .ref (b + 202)) rfl dX13_moveOf_83 ?_
                  refine lv_iload_n hx hb dX13_moveOf_86 rfl (lv_at hl 2 rfl) ?_
                  refine g_iald C hM (j := 202) (by omega) (jK_M b kc T (by omega)) (a_202 b kc) hS hx2_ (B := 41) rfl h dX13_moveOf_87 (fun z11_z bz11_z h => ?_)
                  refine lv_aload_n hx hb dX13_moveOf_88 rfl (lv_at hl 0 rfl) ?_
                  refine m_get fl_X13_77_X13 C hM (i := 192) (by omega) (e_192 b kc T S) (v := .ref (b + 201)) rfl dX13_moveOf_89 ?_
                  refine lv_iload_n hx hb dX13_moveOf_92 rfl (lv_at hl 2 rfl) ?_
                  refine g_iald C hM (j := 201) (by omega) (jK_M b kc T (by omega)) (a_201 b kc) hS hx2_ (B := 41) rfl h dX13_moveOf_93 (fun z12_z bz12_z h => ?_)
                  refine g_isub hx hb bz11_z bz12_z h dX13_moveOf_94 (fun z13_z bz13_z h => ?_)
                  refine g_icmp_ge (tgt := 100) hx hb bz10_z bz13_z h dX13_moveOf_95 (by decide) (fun h => ?_) (fun h => ?_)
                  · exact B100 (f_M_moveOf_4 S v1 n) hkf4_ _ _ _ x2_ v2_ hx2_ x3_ v3_ hx3_ hS hM (lv_sub hl [0, 1, 2, 3] rfl) h
                  · exact B98 (f_M_moveOf_4 S v1 n) hkf4_ _ _ _ x3_ v3_ hx3_ hS hM (lv_sub hl [0, 1, 3] rfl) h
              · refine lv_goto (tgt := 100) hx hb dX13_moveOf_61 (by decide) ?_
                exact B100 (f_M_moveOf_4 S v1 n) hkf4_ _ _ _ x2_ v2_ hx2_ x3_ v3_ hx3_ hS hM (lv_sub hl [0, 1, 2, 3] rfl) h
  refine lv_iconst (v := (-1)) hx hb dX13_moveOf_0 (by decide) ?_
  refine lv_istore_n (lv' := [(2, .int (-1)), (0, .ref (b + 192)), (1, .int x1)]) hx hb dX13_moveOf_1 rfl hl (by decide) rfl (fun ls hl => ?_)
  refine lv_iconst (v := 0) hx hb dX13_moveOf_2 (by decide) ?_
  refine lv_istore_n (lv' := [(3, .int 0), (2, .int (-1)), (0, .ref (b + 192)), (1, .int x1)]) hx hb dX13_moveOf_3 rfl hl (by decide) rfl (fun ls hl => ?_)
  exact B4 FU _ _ _ (-1) (-1) (show ((-1) : Int32).toInt = (-1) by decide) 0 0 (show (0 : Int32).toInt = 0 by decide) hS hM (lv_sub hl [2, 3, 1, 0] rfl) h

def f_M_put (S : SS) (w1 : Int64) : Option SS := w_chk (0 ≤ (gi S 192 5) ∧ (gi S 192 5) < 320) (w_lt (sl S 195 (gi S 192 5).toNat w1) (fun S2_z => w_chk (i32 ((gi S2_z 192 5) + 1)) (w_lt (si S2_z 192 5 ((gi S2_z 192 5) + 1)) (fun S5_z => some S5_z))))
set_option maxHeartbeats 4000000 in
set_option maxRecDepth 100000 in
theorem g_M_put (l : Launch) (D : va_G) (kc : Nat → ClassId) (b : Nat) (T S : SS) (w1 : Int64) (hS : rng S) {Sr : SS} (h : f_M_put S w1 = some Sr) : cV l yX13_put cX13_put 3 1 D kc b (jM b kc T) S [.ref (b + 192), .long w1] Sr := by
  refine g_beg_v (by decide) (Nat.le_of_ble_eq_true rfl) ?_
  intro p e s m args below meth c Q C ret hM ls hl
  obtain ⟨hx, hb, hml, hown, hts, hE, hbs⟩ := id C
  have hl : lv_has ls 3 [(0, .ref (b + 192)), (1, .long w1)] := hl
  unfold f_M_put at h
  refine lv_aload_n hx hb dX13_put_0 rfl (lv_at hl 0 rfl) ?_
  refine m_get fl_X13_64_X13 C hM (i := 192) (by omega) (e_192 b kc T S) (v := .ref (b + 195)) rfl dX13_put_1 ?_
  refine lv_aload_n hx hb dX13_put_4 rfl (lv_at hl 0 rfl) ?_
  refine g_get fl_X13_260_X13 C hM (i := 192) (r := 192) (by omega) (e_192 b kc T S) rfl hS dX13_put_5 (fun z1_z bz1_z => ?_)
  refine lv_lload_n hx hb dX13_put_8 rfl (lv_at hl 1 rfl) ?_
  refine g_last C hM (j := 195) (by omega) (jK_M b kc T (by omega)) (a_195 b kc) hS bz1_z (B := 320) rfl h dX13_put_9 (fun S2_z H locs h hM hS => ?_)
  refine lv_aload_n hx hb dX13_put_10 rfl (lv_at hl 0 rfl) ?_
  refine lv_dup hx hb dX13_put_11 rfl ?_
  refine g_get fl_X13_260_X13 C hM (i := 192) (r := 192) (by omega) (e_192 b kc T S2_z) rfl hS dX13_put_12 (fun z3_z bz3_z => ?_)
  refine lv_iconst (v := 1) hx hb dX13_put_15 (by decide) ?_
  refine g_iadd hx hb bz3_z (show (1 : Int32).toInt = 1 by decide) h dX13_put_16 (fun z4_z bz4_z h => ?_)
  refine g_put fl_X13_260_X13 C hM (i := 192) (by omega) (e_192 b kc T S2_z) rfl rfl (Nat.le_of_ble_eq_true rfl) (fs1 := [.ref (b + 193), .ref (b + 194), .ref (b + 195), .int (oi (gi S2_z 192 3)), .int (oi (gi S2_z 192 4)), .int z4_z, .ref (b + 196), .ref (b + 197), .int (oi (gi S2_z 192 8)), .int (oi (gi S2_z 192 9)), .int (oi (gi S2_z 192 10)), .int (oi (gi S2_z 192 11)), .int (oi (gi S2_z 192 12)), .int (oi (gi S2_z 192 13)), .int (oi (gi S2_z 192 14)), .int (oi (gi S2_z 192 15)), .ref (b + 198), .ref (b + 199), .ref (b + 200), .ref (b + 201), .ref (b + 202), .ref (b + 203), .ref (b + 204), .ref (b + 205), .ref (b + 206), .ref (b + 207), .ref (b + 208), .int (oi (gi S2_z 192 27)), .ref (b + 209), .ref (b + 210), .ref (b + 211), .ref (b + 212), .ref (b + 213), .ref (b + 214), .ref (b + 215), .int (oi (gi S2_z 192 35)), .int (oi (gi S2_z 192 36)), .int (oi (gi S2_z 192 37)), .int (oi (gi S2_z 192 38)), .ref (b + 216), .ref (b + 217), .ref (b + 218), .ref (b + 219)]) rfl (p_192_5 bz4_z) (rng_si hS (i32_of bz4_z)) h dX13_put_17 (fun S5_z H locs h hM hS => ?_)
  exact ret S5_z _ _ _ _ (Option.some.inj h) hM hS dX13_put_20

def f_M_putWords_2_b (v1 : Int) (kf2_ : SS → Int → Option SS) (S : SS) (v2_ : Int) : Option SS := w_chk (0 ≤ v1 ∧ v1 < 41) ((if gi S 204 (v1).toNat ≤ v2_ then some S else w_chk (i32 (6 * v1)) (w_chk (i32 ((6 * v1) + v2_)) (w_chk (0 ≤ ((6 * v1) + v2_) ∧ ((6 * v1) + v2_) < 246) (w_b1 (f_M_put S (gl S 206 ((6 * v1) + v2_).toNat)) (fun S5_z => w_chk (i32 (v2_ + 1)) (kf2_ S5_z (v2_ + 1))))))))
def f_M_putWords_2 (v1 : Int) : Nat → SS → Int → Option SS
  | 0 => fun _ _ => none
  | n + 1 => f_M_putWords_2_b v1 (f_M_putWords_2 v1 n)
def f_M_putWords (S : SS) (v1 : Int) : Option SS := f_M_putWords_2 v1 FU S 0
set_option maxHeartbeats 4000000 in
set_option maxRecDepth 100000 in
theorem g_M_putWords (l : Launch) (D : va_G) (kc : Nat → ClassId) (b : Nat) (T S : SS) (x1 : Int32) (v1 : Int) (hx1 : x1.toInt = v1) (hS : rng S) {Sr : SS} (h : f_M_putWords S v1 = some Sr) : cV l yX13_putWords cX13_putWords 3 2 D kc b (jM b kc T) S [.ref (b + 192), .int x1] Sr := by
  refine g_beg_v (by decide) (Nat.le_of_ble_eq_true rfl) ?_
  intro p e s m args below meth c Q C ret hM ls hl
  obtain ⟨hx, hb, hml, hown, hts, hE, hbs⟩ := id C
  have hl : lv_has ls 3 [(0, .ref (b + 192)), (1, .int x1)] := hl
  unfold f_M_putWords at h
  have B2 : ∀ (n : Nat), ∀ (S : SS) (H : Heap) (locs : List Loc) (ls : Array Slot) (x2_ : Int32) (v2_ : Int) (hx2_ : x2_.toInt = v2_), rng S → mS D b s 220 (jM b kc T S) H locs → lv_has ls 3 [(0, .ref (b + 192)), (1, .int x1), (2, .int x2_)] → f_M_putWords_2 v1 n S v2_ = some Sr → W p l e (mR 2 0 0) s m args below meth c H locs 0 0 Q (F0 m 2 ls []) := by
    intro n
    induction n with
    | zero => intro S H locs ls x2_ v2_ hx2_ hS hM hl h; exact absurd (h : none = some _) (fun q => nomatch q)
    | succ n hkf2_ =>
      intro S H locs ls x2_ v2_ hx2_ hS hM hl h
      have h : f_M_putWords_2_b v1 (f_M_putWords_2 v1 n) S v2_ = some Sr := h
      unfold f_M_putWords_2_b at h
      refine lv_iload_n hx hb dX13_putWords_2 rfl (lv_at hl 2 rfl) ?_
      refine lv_aload_n hx hb dX13_putWords_3 rfl (lv_at hl 0 rfl) ?_
      refine m_get fl_X13_86_X13 C hM (i := 192) (by omega) (e_192 b kc T S) (v := .ref (b + 204)) rfl dX13_putWords_4 ?_
      refine lv_iload_n hx hb dX13_putWords_7 rfl (lv_at hl 1 rfl) ?_
      refine g_iald C hM (j := 204) (by omega) (jK_M b kc T (by omega)) (a_204 b kc) hS hx1 (B := 41) rfl h dX13_putWords_8 (fun z1_z bz1_z h => ?_)
      refine g_icmp_ge (tgt := 33) hx hb hx2_ bz1_z h dX13_putWords_9 (by decide) (fun h => ?_) (fun h => ?_)
      · exact ret S _ _ _ _ (Option.some.inj h) hM hS dX13_putWords_33
      · refine lv_aload_n hx hb dX13_putWords_12 rfl (lv_at hl 0 rfl) ?_
        refine lv_aload_n hx hb dX13_putWords_13 rfl (lv_at hl 0 rfl) ?_
        refine m_get fl_X13_92_X13 C hM (i := 192) (by omega) (e_192 b kc T S) (v := .ref (b + 206)) rfl dX13_putWords_14 ?_
        refine lv_bipush (v := 6) hx hb dX13_putWords_17 (by decide) ?_
        refine lv_iload_n hx hb dX13_putWords_19 rfl (lv_at hl 1 rfl) ?_
        refine g_imul hx hb (show (6 : Int32).toInt = 6 by decide) hx1 h dX13_putWords_20 (fun z2_z bz2_z h => ?_)
        refine lv_iload_n hx hb dX13_putWords_21 rfl (lv_at hl 2 rfl) ?_
        refine g_iadd hx hb bz2_z hx2_ h dX13_putWords_22 (fun z3_z bz3_z h => ?_)
        refine g_lald C hM (j := 206) (by omega) (jK_M b kc T (by omega)) (a_206 b kc) bz3_z (B := 246) rfl h dX13_putWords_23 (fun h => ?_)
        obtain ⟨S5_z, cS5_z, h⟩ := w_b1E h
        refine g_callV (J := jM b kc T) (m_runV calV_X13_put wd_1396 (g_M_put l D kc b T S (gl S 206 ((6 * v1) + v2_).toNat) hS cS5_z) C hM (i := 192) (by omega) (e_192 b kc T S) rfl hl.1 rfl rfl (Nat.le_of_ble_eq_true rfl) dX13_putWords_24 ⟨Nat.le_of_ble_eq_true rfl, Nat.le_of_ble_eq_true rfl⟩ ⟨Nat.le_of_ble_eq_true rfl, Nat.le_of_ble_eq_true rfl⟩) hM (fun H locs hM hS => ?_)
        refine g_iinc (y := 1) hx hb hx2_ (by decide) (by decide) h dX13_putWords_27 hl (k := 2) rfl (by decide) (fun z7_z ls bz7_z h hl => ?_)
        have hl : lv_has ls 3 [(2, .int z7_z), (0, .ref (b + 192)), (1, .int x1)] := hl
        refine lv_goto (tgt := 2) hx hb dX13_putWords_30 (by decide) ?_
        exact hkf2_ S5_z _ _ _ z7_z (v2_ + 1) bz7_z hS hM (lv_sub hl [1, 2, 0] rfl) h
  refine lv_iconst (v := 0) hx hb dX13_putWords_0 (by decide) ?_
  refine lv_istore_n (lv' := [(2, .int 0), (0, .ref (b + 192)), (1, .int x1)]) hx hb dX13_putWords_1 rfl hl (by decide) rfl (fun ls hl => ?_)
  exact B2 FU S _ _ _ 0 0 (show (0 : Int32).toInt = 0 by decide) hS hM (lv_sub hl [1, 2, 0] rfl) h

def f_M_turnAt_98 (S : SS) (v1 : Int) (v2 : Int) (v3 : Int) (kf6_ : Int → Int → Option Int) (v4_ : Int) (v5_ : Int) : Option Int := w_chk (i32 (v5_ + 1)) (kf6_ v4_ (v5_ + 1))
def f_M_turnAt_94 (S : SS) (v1 : Int) (v2 : Int) (v3 : Int) (kf6_ : Int → Int → Option Int) (v5_ : Int) : Option Int := f_M_turnAt_98 S v1 v2 v3 kf6_ v5_ v5_
def f_M_turnAt_6_b (S : SS) (v1 : Int) (v2 : Int) (v3 : Int) (kf6_ : Int → Int → Option Int) (v4_ : Int) (v5_ : Int) : Option Int := (if gi S 192 27 ≤ v5_ then some v4_ else w_chk (0 ≤ v5_ ∧ v5_ < 40) ((if gi S 214 (v5_).toNat = 0 then f_M_turnAt_98 S v1 v2 v3 kf6_ v4_ v5_ else w_chk (0 ≤ v5_ ∧ v5_ < 41) ((if gi S 199 (v5_).toNat = 3 then w_chk (0 ≤ v5_ ∧ v5_ < 41) ((if gi S 201 (v5_).toNat = v1 then w_chk (0 ≤ v5_ ∧ v5_ < 41) ((if v2 < gi S 203 (v5_).toNat then f_M_turnAt_98 S v1 v2 v3 kf6_ v4_ v5_ else w_b1 (f_M_moveOf S v5_) (fun r6_z => (if r6_z = v3 then (if v4_ = (-1) then f_M_turnAt_94 S v1 v2 v3 kf6_ v5_ else w_chk (0 ≤ v5_ ∧ v5_ < 41) (w_chk (0 ≤ v4_ ∧ v4_ < 41) ((if gi S 203 (v5_).toNat ≤ gi S 203 (v4_).toNat then f_M_turnAt_98 S v1 v2 v3 kf6_ v4_ v5_ else f_M_turnAt_94 S v1 v2 v3 kf6_ v5_)))) else f_M_turnAt_98 S v1 v2 v3 kf6_ v4_ v5_)))) else f_M_turnAt_98 S v1 v2 v3 kf6_ v4_ v5_)) else f_M_turnAt_98 S v1 v2 v3 kf6_ v4_ v5_)))))
def f_M_turnAt_6 (S : SS) (v1 : Int) (v2 : Int) (v3 : Int) : Nat → Int → Int → Option Int
  | 0 => fun _ _ => none
  | n + 1 => f_M_turnAt_6_b S v1 v2 v3 (f_M_turnAt_6 S v1 v2 v3 n)
def f_M_turnAt (S : SS) (v1 : Int) (v2 : Int) (v3 : Int) : Option Int := f_M_turnAt_6 S v1 v2 v3 FU (-1) 0
set_option maxHeartbeats 4000000 in
set_option maxRecDepth 100000 in
theorem g_M_turnAt (l : Launch) (D : va_G) (kc : Nat → ClassId) (b : Nat) (T S : SS) (x1 : Int32) (v1 : Int) (hx1 : x1.toInt = v1) (x2 : Int32) (v2 : Int) (hx2 : x2.toInt = v2) (x3 : Int32) (v3 : Int) (hx3 : x3.toInt = v3) (hS : rng S) {vr : Int} (h : f_M_turnAt S v1 v2 v3 = some vr) : cI l yX13_turnAt cX13_turnAt 6 .int 2 D kc b (jM b kc T) S [.ref (b + 192), .int x1, .int x2, .int x3] vr S := by
  refine g_beg_i (by decide) (Nat.le_of_ble_eq_true rfl) ?_
  intro p e s m args below meth c Q C ret hM ls hl
  obtain ⟨hx, hb, hml, hown, hts, hE, hbs⟩ := id C
  have hl : lv_has ls 6 [(0, .ref (b + 192)), (1, .int x1), (2, .int x2), (3, .int x3)] := hl
  unfold f_M_turnAt at h
  have B98 : ∀ (kf6_ : Int → Int → Option Int) (hkf6_ : ∀ (H : Heap) (locs : List Loc) (ls : Array Slot) (x4_ : Int32) (v4_ : Int) (hx4_ : x4_.toInt = v4_) (x5_ : Int32) (v5_ : Int) (hx5_ : x5_.toInt = v5_), rng S → mS D b s 220 (jM b kc T S) H locs → lv_has ls 6 [(0, .ref (b + 192)), (1, .int x1), (2, .int x2), (3, .int x3), (4, .int x4_), (5, .int x5_)] → kf6_ v4_ v5_ = some vr → W p l e (mR 2 0 0) s m args below meth c H locs 0 0 Q (F0 m 6 ls [])), ∀ (H : Heap) (locs : List Loc) (ls : Array Slot) (x4_ : Int32) (v4_ : Int) (hx4_ : x4_.toInt = v4_) (x5_ : Int32) (v5_ : Int) (hx5_ : x5_.toInt = v5_), rng S → mS D b s 220 (jM b kc T S) H locs → lv_has ls 6 [(0, .ref (b + 192)), (1, .int x1), (2, .int x2), (3, .int x3), (4, .int x4_), (5, .int x5_)] → f_M_turnAt_98 S v1 v2 v3 kf6_ v4_ v5_ = some vr → W p l e (mR 2 0 0) s m args below meth c H locs 0 0 Q (F0 m 98 ls []) := by
    intro kf6_ hkf6_ H locs ls x4_ v4_ hx4_ x5_ v5_ hx5_ hS hM hl h
    unfold f_M_turnAt_98 at h
    refine g_iinc (y := 1) hx hb hx5_ (by decide) (by decide) h dX13_turnAt_98 hl (k := 5) rfl (by decide) (fun z1_z ls bz1_z h hl => ?_)
    have hl : lv_has ls 6 [(5, .int z1_z), (0, .ref (b + 192)), (1, .int x1), (2, .int x2), (3, .int x3), (4, .int x4_)] := hl
    refine lv_goto (tgt := 6) hx hb dX13_turnAt_101 (by decide) ?_
    exact hkf6_ _ _ _ x4_ v4_ hx4_ z1_z (v5_ + 1) bz1_z hS hM (lv_sub hl [1, 2, 3, 4, 5, 0] rfl) h
  have B94 : ∀ (kf6_ : Int → Int → Option Int) (hkf6_ : ∀ (H : Heap) (locs : List Loc) (ls : Array Slot) (x4_ : Int32) (v4_ : Int) (hx4_ : x4_.toInt = v4_) (x5_ : Int32) (v5_ : Int) (hx5_ : x5_.toInt = v5_), rng S → mS D b s 220 (jM b kc T S) H locs → lv_has ls 6 [(0, .ref (b + 192)), (1, .int x1), (2, .int x2), (3, .int x3), (4, .int x4_), (5, .int x5_)] → kf6_ v4_ v5_ = some vr → W p l e (mR 2 0 0) s m args below meth c H locs 0 0 Q (F0 m 6 ls [])), ∀ (H : Heap) (locs : List Loc) (ls : Array Slot) (x5_ : Int32) (v5_ : Int) (hx5_ : x5_.toInt = v5_), rng S → mS D b s 220 (jM b kc T S) H locs → lv_has ls 6 [(0, .ref (b + 192)), (1, .int x1), (2, .int x2), (3, .int x3), (5, .int x5_)] → f_M_turnAt_94 S v1 v2 v3 kf6_ v5_ = some vr → W p l e (mR 2 0 0) s m args below meth c H locs 0 0 Q (F0 m 94 ls []) := by
    intro kf6_ hkf6_ H locs ls x5_ v5_ hx5_ hS hM hl h
    unfold f_M_turnAt_94 at h
    refine lv_iload hx hb dX13_turnAt_94 (lv_at hl 4 rfl) ?_
    refine lv_istore (lv' := [(4, .int x5_), (0, .ref (b + 192)), (1, .int x1), (2, .int x2), (3, .int x3), (5, .int x5_)]) hx hb dX13_turnAt_96 hl (by decide) rfl (fun ls hl => ?_)
    exact B98 kf6_ hkf6_ _ _ _ x5_ v5_ hx5_ x5_ v5_ hx5_ hS hM (lv_sub hl [1, 2, 3, 4, 0, 5] rfl) h
  have B6 : ∀ (n : Nat), ∀ (H : Heap) (locs : List Loc) (ls : Array Slot) (x4_ : Int32) (v4_ : Int) (hx4_ : x4_.toInt = v4_) (x5_ : Int32) (v5_ : Int) (hx5_ : x5_.toInt = v5_), rng S → mS D b s 220 (jM b kc T S) H locs → lv_has ls 6 [(0, .ref (b + 192)), (1, .int x1), (2, .int x2), (3, .int x3), (4, .int x4_), (5, .int x5_)] → f_M_turnAt_6 S v1 v2 v3 n v4_ v5_ = some vr → W p l e (mR 2 0 0) s m args below meth c H locs 0 0 Q (F0 m 6 ls []) := by
    intro n
    induction n with
    | zero => intro H locs ls x4_ v4_ hx4_ x5_ v5_ hx5_ hS hM hl h; exact absurd (h : none = some _) (fun q => nomatch q)
    | succ n hkf6_ =>
      intro H locs ls x4_ v4_ hx4_ x5_ v5_ hx5_ hS hM hl h
      have h : f_M_turnAt_6_b S v1 v2 v3 (f_M_turnAt_6 S v1 v2 v3 n) v4_ v5_ = some vr := h
      unfold f_M_turnAt_6_b at h
      refine lv_iload hx hb dX13_turnAt_6 (lv_at hl 5 rfl) ?_
      refine lv_aload_n hx hb dX13_turnAt_8 rfl (lv_at hl 0 rfl) ?_
      refine g_get fl_X13_153_X13 C hM (i := 192) (r := 192) (by omega) (e_192 b kc T S) rfl hS dX13_turnAt_9 (fun z1_z bz1_z => ?_)
      refine g_icmp_ge (tgt := 104) hx hb hx5_ bz1_z h dX13_turnAt_12 (by decide) (fun h => ?_) (fun h => ?_)
      · refine lv_iload hx hb dX13_turnAt_104 (lv_at hl 4 rfl) ?_
        exact ret S _ _ _ _ x4_ (hx4_.trans (Option.some.inj h)) rfl hM hS dX13_turnAt_106
      · refine lv_aload_n hx hb dX13_turnAt_15 rfl (lv_at hl 0 rfl) ?_
        refine m_get fl_X13_117_X13 C hM (i := 192) (by omega) (e_192 b kc T S) (v := .ref (b + 214)) rfl dX13_turnAt_16 ?_
        refine lv_iload hx hb dX13_turnAt_19 (lv_at hl 5 rfl) ?_
        refine g_zald C hM (j := 214) (by omega) (jK_M b kc T (by omega)) (a_214 b kc) hS hx5_ (B := 40) rfl h dX13_turnAt_21 (fun z2_z bz2_z h => ?_)
        refine g_if_eq (tgt := 98) hx hb bz2_z h dX13_turnAt_22 (by decide) (fun h => ?_) (fun h => ?_)
        · exact B98 (f_M_turnAt_6 S v1 v2 v3 n) hkf6_ _ _ _ x4_ v4_ hx4_ x5_ v5_ hx5_ hS hM (lv_sub hl [0, 1, 2, 3, 4, 5] rfl) h
        · refine lv_aload_n hx hb dX13_turnAt_25 rfl (lv_at hl 0 rfl) ?_
          refine m_get fl_X13_70_X13 C hM (i := 192) (by omega) (e_192 b kc T S) (v := .ref (b + 199)) rfl dX13_turnAt_26 ?_
          refine lv_iload hx hb dX13_turnAt_29 (lv_at hl 5 rfl) ?_
          refine g_iald C hM (j := 199) (by omega) (jK_M b kc T (by omega)) (a_199 b kc) hS hx5_ (B := 41) rfl h dX13_turnAt_31 (fun z3_z bz3_z h => ?_)
          refine lv_iconst (v := 3) hx hb dX13_turnAt_32 (by decide) ?_
          refine g_icmp_ne (tgt := 98) hx hb bz3_z (show (3 : Int32).toInt = 3 by decide) h dX13_turnAt_33 (by decide) (fun h => ?_) (fun h => ?_)
          · exact B98 (f_M_turnAt_6 S v1 v2 v3 n) hkf6_ _ _ _ x4_ v4_ hx4_ x5_ v5_ hx5_ hS hM (lv_sub hl [0, 1, 2, 3, 4, 5] rfl) h
          · refine lv_aload_n hx hb dX13_turnAt_36 rfl (lv_at hl 0 rfl) ?_
            refine m_get fl_X13_77_X13 C hM (i := 192) (by omega) (e_192 b kc T S) (v := .ref (b + 201)) rfl dX13_turnAt_37 ?_
            refine lv_iload hx hb dX13_turnAt_40 (lv_at hl 5 rfl) ?_
            refine g_iald C hM (j := 201) (by omega) (jK_M b kc T (by omega)) (a_201 b kc) hS hx5_ (B := 41) rfl h dX13_turnAt_42 (fun z4_z bz4_z h => ?_)
            refine lv_iload_n hx hb dX13_turnAt_43 rfl (lv_at hl 1 rfl) ?_
            refine g_icmp_ne (tgt := 98) hx hb bz4_z hx1 h dX13_turnAt_44 (by decide) (fun h => ?_) (fun h => ?_)
            · exact B98 (f_M_turnAt_6 S v1 v2 v3 n) hkf6_ _ _ _ x4_ v4_ hx4_ x5_ v5_ hx5_ hS hM (lv_sub hl [0, 1, 2, 3, 4, 5] rfl) h
            · refine lv_aload_n hx hb dX13_turnAt_47 rfl (lv_at hl 0 rfl) ?_
              refine m_get fl_X13_83_X13 C hM (i := 192) (by omega) (e_192 b kc T S) (v := .ref (b + 203)) rfl dX13_turnAt_48 ?_
              refine lv_iload hx hb dX13_turnAt_51 (lv_at hl 5 rfl) ?_
              refine g_iald C hM (j := 203) (by omega) (jK_M b kc T (by omega)) (a_203 b kc) hS hx5_ (B := 41) rfl h dX13_turnAt_53 (fun z5_z bz5_z h => ?_)
              refine lv_iload_n hx hb dX13_turnAt_54 rfl (lv_at hl 2 rfl) ?_
              refine g_icmp_gt (tgt := 98) hx hb bz5_z hx2 h dX13_turnAt_55 (by decide) (fun h => ?_) (fun h => ?_)
              · exact B98 (f_M_turnAt_6 S v1 v2 v3 n) hkf6_ _ _ _ x4_ v4_ hx4_ x5_ v5_ hx5_ hS hM (lv_sub hl [0, 1, 2, 3, 4, 5] rfl) h
              · refine lv_aload_n hx hb dX13_turnAt_58 rfl (lv_at hl 0 rfl) ?_
                refine lv_iload hx hb dX13_turnAt_59 (lv_at hl 5 rfl) ?_
                obtain ⟨r6_z, cr6_z, h⟩ := w_b1E h
                refine g_callI (J := jM b kc T) (m_runV calV_X13_moveOf wd_1412 (g_M_moveOf l D kc b T S x5_ v5_ hx5_ hS cr6_z) C hM (i := 192) (by omega) (e_192 b kc T S) rfl hl.1 rfl rfl (Nat.le_of_ble_eq_true rfl) dX13_turnAt_61 ⟨Nat.le_of_ble_eq_true rfl, Nat.le_of_ble_eq_true rfl⟩ ⟨Nat.le_of_ble_eq_true rfl, Nat.le_of_ble_eq_true rfl⟩) hM (fun z7_z H locs bz7_z hM hS => ?_)
                refine lv_iload_n hx hb dX13_turnAt_64 rfl (lv_at hl 3 rfl) ?_
                refine g_icmp_eq (tgt := 71) hx hb bz7_z hx3 h dX13_turnAt_65 (by decide) (fun h => ?_) (fun h => ?_)
                · refine lv_iload hx hb dX13_turnAt_71 (lv_at hl 4 rfl) ?_
                  refine lv_iconst (v := (-1)) hx hb dX13_turnAt_73 (by decide) ?_
                  refine g_icmp_eq (tgt := 94) hx hb hx4_ (show ((-1) : Int32).toInt = (-1) by decide) h dX13_turnAt_74 (by decide) (fun h => ?_) (fun h => ?_)
                  · exact B94 (f_M_turnAt_6 S v1 v2 v3 n) hkf6_ _ _ _ x5_ v5_ hx5_ hS hM (lv_sub hl [0, 1, 2, 3, 5] rfl) h
                  · refine lv_aload_n hx hb dX13_turnAt_77 rfl (lv_at hl 0 rfl) ?_
                    refine m_get fl_X13_83_X13 C hM (i := 192) (by omega) (e_192 b kc T S) (v := .ref (b + 203)) rfl dX13_turnAt_78 ?_
                    refine lv_iload hx hb dX13_turnAt_81 (lv_at hl 5 rfl) ?_
                    refine g_iald C hM (j := 203) (by omega) (jK_M b kc T (by omega)) (a_203 b kc) hS hx5_ (B := 41) rfl h dX13_turnAt_83 (fun z8_z bz8_z h => ?_)
                    refine lv_aload_n hx hb dX13_turnAt_84 rfl (lv_at hl 0 rfl) ?_
                    refine m_get fl_X13_83_X13 C hM (i := 192) (by omega) (e_192 b kc T S) (v := .ref (b + 203)) rfl dX13_turnAt_85 ?_
                    refine lv_iload hx hb dX13_turnAt_88 (lv_at hl 4 rfl) ?_
                    refine g_iald C hM (j := 203) (by omega) (jK_M b kc T (by omega)) (a_203 b kc) hS hx4_ (B := 41) rfl h dX13_turnAt_90 (fun z9_z bz9_z h => ?_)
                    refine g_icmp_le (tgt := 98) hx hb bz8_z bz9_z h dX13_turnAt_91 (by decide) (fun h => ?_) (fun h => ?_)
                    · exact B98 (f_M_turnAt_6 S v1 v2 v3 n) hkf6_ _ _ _ x4_ v4_ hx4_ x5_ v5_ hx5_ hS hM (lv_sub hl [0, 1, 2, 3, 4, 5] rfl) h
                    · exact B94 (f_M_turnAt_6 S v1 v2 v3 n) hkf6_ _ _ _ x5_ v5_ hx5_ hS hM (lv_sub hl [0, 1, 2, 3, 5] rfl) h
                · refine lv_goto (tgt := 98) hx hb dX13_turnAt_68 (by decide) ?_
                  exact B98 (f_M_turnAt_6 S v1 v2 v3 n) hkf6_ _ _ _ x4_ v4_ hx4_ x5_ v5_ hx5_ hS hM (lv_sub hl [0, 1, 2, 3, 4, 5] rfl) h
  refine lv_iconst (v := (-1)) hx hb dX13_turnAt_0 (by decide) ?_
  refine lv_istore (lv' := [(4, .int (-1)), (0, .ref (b + 192)), (1, .int x1), (2, .int x2), (3, .int x3)]) hx hb dX13_turnAt_1 hl (by decide) rfl (fun ls hl => ?_)
  refine lv_iconst (v := 0) hx hb dX13_turnAt_3 (by decide) ?_
  refine lv_istore (lv' := [(5, .int 0), (4, .int (-1)), (0, .ref (b + 192)), (1, .int x1), (2, .int x2), (3, .int x3)]) hx hb dX13_turnAt_4 hl (by decide) rfl (fun ls hl => ?_)
  exact B6 FU _ _ _ (-1) (-1) (show ((-1) : Int32).toInt = (-1) by decide) 0 0 (show (0 : Int32).toInt = 0 by decide) hS hM (lv_sub hl [2, 3, 4, 5, 1, 0] rfl) h

def f_M_layWord_100 (v1 : Int) (v2 : Int) (kf13_ : SS → Int → Option SS) (S : SS) (v3_ : Int) : Option SS := w_chk (i32 (v3_ + 1)) (kf13_ S (v3_ + 1))
def f_M_layWord_49 (v1 : Int) (v2 : Int) (kf13_ : SS → Int → Option SS) (S : SS) (v3_ : Int) : Option SS := w_chk (0 ≤ v3_ ∧ v3_ < 41) (w_chk (0 ≤ v3_ ∧ v3_ < 41) ((if f_M_in S v1 (gi S 201 (v3_).toNat) (gi S 202 (v3_).toNat) = 0 then f_M_layWord_100 v1 v2 kf13_ S v3_ else w_chk (0 ≤ v3_ ∧ v3_ < 41) ((if gi S 199 (v3_).toNat = 2 then w_chk (0 ≤ v3_ ∧ v3_ < 41) ((if v1 = gi S 201 (v3_).toNat then w_b1 (f_M_putWords S v3_) (fun S9_z => some S9_z) else some S)) else some S)))))
def f_M_layWord_13_b (v1 : Int) (v2 : Int) (kf13_ : SS → Int → Option SS) (S : SS) (v3_ : Int) : Option SS := (if gi S 192 27 ≤ v3_ then w_chk (0 ≤ v1 ∧ v1 < 60) (w_b1 (f_M_put S (gl S 193 (v1).toNat)) (fun S3_z => some S3_z)) else w_chk (0 ≤ v3_ ∧ v3_ < 40) ((if gi S 214 (v3_).toNat = 0 then f_M_layWord_100 v1 v2 kf13_ S v3_ else w_chk (0 ≤ v3_ ∧ v3_ < 41) ((if gi S 199 (v3_).toNat = 0 then f_M_layWord_49 v1 v2 kf13_ S v3_ else w_chk (0 ≤ v3_ ∧ v3_ < 41) ((if gi S 199 (v3_).toNat = 2 then f_M_layWord_49 v1 v2 kf13_ S v3_ else f_M_layWord_100 v1 v2 kf13_ S v3_)))))))
def f_M_layWord_13 (v1 : Int) (v2 : Int) : Nat → SS → Int → Option SS
  | 0 => fun _ _ => none
  | n + 1 => f_M_layWord_13_b v1 v2 (f_M_layWord_13 v1 v2 n)
def f_M_layWord (S : SS) (v1 : Int) (v2 : Int) : Option SS := w_b1 (f_M_innermost S v1 0) (fun r1_z => (if r1_z = v2 then f_M_layWord_13 v1 v2 FU S 0 else some S))
set_option maxHeartbeats 4000000 in
set_option maxRecDepth 100000 in
theorem g_M_layWord (l : Launch) (D : va_G) (kc : Nat → ClassId) (b : Nat) (T S : SS) (x1 : Int32) (v1 : Int) (hx1 : x1.toInt = v1) (x2 : Int32) (v2 : Int) (hx2 : x2.toInt = v2) (hS : rng S) {Sr : SS} (h : f_M_layWord S v1 v2 = some Sr) : cV l yX13_layWord cX13_layWord 4 3 D kc b (jM b kc T) S [.ref (b + 192), .int x1, .int x2] Sr := by
  refine g_beg_v (by decide) (Nat.le_of_ble_eq_true rfl) ?_
  intro p e s m args below meth c Q C ret hM ls hl
  obtain ⟨hx, hb, hml, hown, hts, hE, hbs⟩ := id C
  have hl : lv_has ls 4 [(0, .ref (b + 192)), (1, .int x1), (2, .int x2)] := hl
  unfold f_M_layWord at h
  have B100 : ∀ (kf13_ : SS → Int → Option SS) (hkf13_ : ∀ (S : SS) (H : Heap) (locs : List Loc) (ls : Array Slot) (x3_ : Int32) (v3_ : Int) (hx3_ : x3_.toInt = v3_), rng S → mS D b s 220 (jM b kc T S) H locs → lv_has ls 4 [(0, .ref (b + 192)), (1, .int x1), (3, .int x3_)] → kf13_ S v3_ = some Sr → W p l e (mR 3 0 0) s m args below meth c H locs 0 0 Q (F0 m 13 ls [])), ∀ (S : SS) (H : Heap) (locs : List Loc) (ls : Array Slot) (x3_ : Int32) (v3_ : Int) (hx3_ : x3_.toInt = v3_), rng S → mS D b s 220 (jM b kc T S) H locs → lv_has ls 4 [(0, .ref (b + 192)), (1, .int x1), (3, .int x3_)] → f_M_layWord_100 v1 v2 kf13_ S v3_ = some Sr → W p l e (mR 3 0 0) s m args below meth c H locs 0 0 Q (F0 m 100 ls []) := by
    intro kf13_ hkf13_ S H locs ls x3_ v3_ hx3_ hS hM hl h
    unfold f_M_layWord_100 at h
    refine g_iinc (y := 1) hx hb hx3_ (by decide) (by decide) h dX13_layWord_100 hl (k := 2) rfl (by decide) (fun z1_z ls bz1_z h hl => ?_)
    have hl : lv_has ls 4 [(3, .int z1_z), (0, .ref (b + 192)), (1, .int x1)] := hl
    refine lv_goto (tgt := 13) hx hb dX13_layWord_103 (by decide) ?_
    exact hkf13_ S _ _ _ z1_z (v3_ + 1) bz1_z hS hM (lv_sub hl [1, 2, 0] rfl) h
  have B49 : ∀ (kf13_ : SS → Int → Option SS) (hkf13_ : ∀ (S : SS) (H : Heap) (locs : List Loc) (ls : Array Slot) (x3_ : Int32) (v3_ : Int) (hx3_ : x3_.toInt = v3_), rng S → mS D b s 220 (jM b kc T S) H locs → lv_has ls 4 [(0, .ref (b + 192)), (1, .int x1), (3, .int x3_)] → kf13_ S v3_ = some Sr → W p l e (mR 3 0 0) s m args below meth c H locs 0 0 Q (F0 m 13 ls [])), ∀ (S : SS) (H : Heap) (locs : List Loc) (ls : Array Slot) (x3_ : Int32) (v3_ : Int) (hx3_ : x3_.toInt = v3_), rng S → mS D b s 220 (jM b kc T S) H locs → lv_has ls 4 [(0, .ref (b + 192)), (1, .int x1), (3, .int x3_)] → f_M_layWord_49 v1 v2 kf13_ S v3_ = some Sr → W p l e (mR 3 0 0) s m args below meth c H locs 0 0 Q (F0 m 49 ls []) := by
    intro kf13_ hkf13_ S H locs ls x3_ v3_ hx3_ hS hM hl h
    unfold f_M_layWord_49 at h
    refine lv_iload_n hx hb dX13_layWord_49 rfl (lv_at hl 1 rfl) ?_
    refine g_i2l (a := v1) hx hb hx1 dX13_layWord_50 (fun c1_z => ?_)
    refine lv_aload_n hx hb dX13_layWord_51 rfl (lv_at hl 0 rfl) ?_
    refine m_get fl_X13_77_X13 C hM (i := 192) (by omega) (e_192 b kc T S) (v := .ref (b + 201)) rfl dX13_layWord_52 ?_
    refine lv_iload_n hx hb dX13_layWord_55 rfl (lv_at hl 2 rfl) ?_
    refine g_iald C hM (j := 201) (by omega) (jK_M b kc T (by omega)) (a_201 b kc) hS hx3_ (B := 41) rfl h dX13_layWord_56 (fun z2_z bz2_z h => ?_)
    refine g_i2l (a := gi S 201 (v3_).toNat) hx hb bz2_z dX13_layWord_57 (fun c3_z => ?_)
    refine lv_aload_n hx hb dX13_layWord_58 rfl (lv_at hl 0 rfl) ?_
    refine m_get fl_X13_80_X13 C hM (i := 192) (by omega) (e_192 b kc T S) (v := .ref (b + 202)) rfl dX13_layWord_59 ?_
    refine lv_iload_n hx hb dX13_layWord_62 rfl (lv_at hl 2 rfl) ?_
    refine g_iald C hM (j := 202) (by omega) (jK_M b kc T (by omega)) (a_202 b kc) hS hx3_ (B := 41) rfl h dX13_layWord_63 (fun z4_z bz4_z h => ?_)
    refine g_i2l (a := gi S 202 (v3_).toNat) hx hb bz4_z dX13_layWord_64 (fun c5_z => ?_)
    refine g_callI (J := jM b kc T) (m_runS calS_X13_in wd_1221 (g_M_in l D kc b T S (i2l v1) v1 c1_z (i2l (gi S 201 (v3_).toNat)) (gi S 201 (v3_).toNat) c3_z (i2l (gi S 202 (v3_).toNat)) (gi S 202 (v3_).toNat) c5_z hS rfl) C hM hl.1 rfl rfl (Nat.le_of_ble_eq_true rfl) dX13_layWord_65 ⟨Nat.le_of_ble_eq_true rfl, Nat.le_of_ble_eq_true rfl⟩ ⟨Nat.le_of_ble_eq_true rfl, Nat.le_of_ble_eq_true rfl⟩) hM (fun z6_z H locs bz6_z hM hS => ?_)
    refine g_if_ne (tgt := 74) hx hb bz6_z h dX13_layWord_68 (by decide) (fun h => ?_) (fun h => ?_)
    · refine lv_aload_n hx hb dX13_layWord_74 rfl (lv_at hl 0 rfl) ?_
      refine m_get fl_X13_70_X13 C hM (i := 192) (by omega) (e_192 b kc T S) (v := .ref (b + 199)) rfl dX13_layWord_75 ?_
      refine lv_iload_n hx hb dX13_layWord_78 rfl (lv_at hl 2 rfl) ?_
      refine g_iald C hM (j := 199) (by omega) (jK_M b kc T (by omega)) (a_199 b kc) hS hx3_ (B := 41) rfl h dX13_layWord_79 (fun z7_z bz7_z h => ?_)
      refine lv_iconst (v := 2) hx hb dX13_layWord_80 (by decide) ?_
      refine g_icmp_ne (tgt := 99) hx hb bz7_z (show (2 : Int32).toInt = 2 by decide) h dX13_layWord_81 (by decide) (fun h => ?_) (fun h => ?_)
      · exact ret S _ _ _ _ (Option.some.inj h) hM hS dX13_layWord_99
      · refine lv_iload_n hx hb dX13_layWord_84 rfl (lv_at hl 1 rfl) ?_
        refine lv_aload_n hx hb dX13_layWord_85 rfl (lv_at hl 0 rfl) ?_
        refine m_get fl_X13_77_X13 C hM (i := 192) (by omega) (e_192 b kc T S) (v := .ref (b + 201)) rfl dX13_layWord_86 ?_
        refine lv_iload_n hx hb dX13_layWord_89 rfl (lv_at hl 2 rfl) ?_
        refine g_iald C hM (j := 201) (by omega) (jK_M b kc T (by omega)) (a_201 b kc) hS hx3_ (B := 41) rfl h dX13_layWord_90 (fun z8_z bz8_z h => ?_)
        refine g_icmp_ne (tgt := 99) hx hb hx1 bz8_z h dX13_layWord_91 (by decide) (fun h => ?_) (fun h => ?_)
        · exact ret S _ _ _ _ (Option.some.inj h) hM hS dX13_layWord_99
        · refine lv_aload_n hx hb dX13_layWord_94 rfl (lv_at hl 0 rfl) ?_
          refine lv_iload_n hx hb dX13_layWord_95 rfl (lv_at hl 2 rfl) ?_
          obtain ⟨S9_z, cS9_z, h⟩ := w_b1E h
          refine g_callV (J := jM b kc T) (m_runV calV_X13_putWords wd_1392 (g_M_putWords l D kc b T S x3_ v3_ hx3_ hS cS9_z) C hM (i := 192) (by omega) (e_192 b kc T S) rfl hl.1 rfl rfl (Nat.le_of_ble_eq_true rfl) dX13_layWord_96 ⟨Nat.le_of_ble_eq_true rfl, Nat.le_of_ble_eq_true rfl⟩ ⟨Nat.le_of_ble_eq_true rfl, Nat.le_of_ble_eq_true rfl⟩) hM (fun H locs hM hS => ?_)
          exact ret S9_z _ _ _ _ (Option.some.inj h) hM hS dX13_layWord_99
    · refine lv_goto (tgt := 100) hx hb dX13_layWord_71 (by decide) ?_
      exact B100 kf13_ hkf13_ S _ _ _ x3_ v3_ hx3_ hS hM (lv_sub hl [0, 1, 2] rfl) h
  have B13 : ∀ (n : Nat), ∀ (S : SS) (H : Heap) (locs : List Loc) (ls : Array Slot) (x3_ : Int32) (v3_ : Int) (hx3_ : x3_.toInt = v3_), rng S → mS D b s 220 (jM b kc T S) H locs → lv_has ls 4 [(0, .ref (b + 192)), (1, .int x1), (3, .int x3_)] → f_M_layWord_13 v1 v2 n S v3_ = some Sr → W p l e (mR 3 0 0) s m args below meth c H locs 0 0 Q (F0 m 13 ls []) := by
    intro n
    induction n with
    | zero => intro S H locs ls x3_ v3_ hx3_ hS hM hl h; exact absurd (h : none = some _) (fun q => nomatch q)
    | succ n hkf13_ =>
      intro S H locs ls x3_ v3_ hx3_ hS hM hl h
      have h : f_M_layWord_13_b v1 v2 (f_M_layWord_13 v1 v2 n) S v3_ = some Sr := h
      unfold f_M_layWord_13_b at h
      refine lv_iload_n hx hb dX13_layWord_13 rfl (lv_at hl 2 rfl) ?_
      refine lv_aload_n hx hb dX13_layWord_14 rfl (lv_at hl 0 rfl) ?_
      refine g_get fl_X13_153_X13 C hM (i := 192) (r := 192) (by omega) (e_192 b kc T S) rfl hS dX13_layWord_15 (fun z1_z bz1_z => ?_)
      refine g_icmp_ge (tgt := 106) hx hb hx3_ bz1_z h dX13_layWord_18 (by decide) (fun h => ?_) (fun h => ?_)
      · refine lv_aload_n hx hb dX13_layWord_106 rfl (lv_at hl 0 rfl) ?_
        refine lv_aload_n hx hb dX13_layWord_107 rfl (lv_at hl 0 rfl) ?_
        refine m_get fl_X13_58_X13 C hM (i := 192) (by omega) (e_192 b kc T S) (v := .ref (b + 193)) rfl dX13_layWord_108 ?_
        refine lv_iload_n hx hb dX13_layWord_111 rfl (lv_at hl 1 rfl) ?_
        refine g_lald C hM (j := 193) (by omega) (jK_M b kc T (by omega)) (a_193 b kc) hx1 (B := 60) rfl h dX13_layWord_112 (fun h => ?_)
        obtain ⟨S3_z, cS3_z, h⟩ := w_b1E h
        refine g_callV (J := jM b kc T) (m_runV calV_X13_put wd_1396 (g_M_put l D kc b T S (gl S 193 (v1).toNat) hS cS3_z) C hM (i := 192) (by omega) (e_192 b kc T S) rfl hl.1 rfl rfl (Nat.le_of_ble_eq_true rfl) dX13_layWord_113 ⟨Nat.le_of_ble_eq_true rfl, Nat.le_of_ble_eq_true rfl⟩ ⟨Nat.le_of_ble_eq_true rfl, Nat.le_of_ble_eq_true rfl⟩) hM (fun H locs hM hS => ?_)
        exact ret S3_z _ _ _ _ (Option.some.inj h) hM hS dX13_layWord_116
      · refine lv_aload_n hx hb dX13_layWord_21 rfl (lv_at hl 0 rfl) ?_
        refine m_get fl_X13_117_X13 C hM (i := 192) (by omega) (e_192 b kc T S) (v := .ref (b + 214)) rfl dX13_layWord_22 ?_
        refine lv_iload_n hx hb dX13_layWord_25 rfl (lv_at hl 2 rfl) ?_
        refine g_zald C hM (j := 214) (by omega) (jK_M b kc T (by omega)) (a_214 b kc) hS hx3_ (B := 40) rfl h dX13_layWord_26 (fun z5_z bz5_z h => ?_)
        refine g_if_eq (tgt := 100) hx hb bz5_z h dX13_layWord_27 (by decide) (fun h => ?_) (fun h => ?_)
        · exact B100 (f_M_layWord_13 v1 v2 n) hkf13_ S _ _ _ x3_ v3_ hx3_ hS hM (lv_sub hl [0, 1, 2] rfl) h
        · refine lv_aload_n hx hb dX13_layWord_30 rfl (lv_at hl 0 rfl) ?_
          refine m_get fl_X13_70_X13 C hM (i := 192) (by omega) (e_192 b kc T S) (v := .ref (b + 199)) rfl dX13_layWord_31 ?_
          refine lv_iload_n hx hb dX13_layWord_34 rfl (lv_at hl 2 rfl) ?_
          refine g_iald C hM (j := 199) (by omega) (jK_M b kc T (by omega)) (a_199 b kc) hS hx3_ (B := 41) rfl h dX13_layWord_35 (fun z6_z bz6_z h => ?_)
          refine g_if_eq (tgt := 49) hx hb bz6_z h dX13_layWord_36 (by decide) (fun h => ?_) (fun h => ?_)
          · exact B49 (f_M_layWord_13 v1 v2 n) hkf13_ S _ _ _ x3_ v3_ hx3_ hS hM (lv_sub hl [0, 1, 2] rfl) h
          · refine lv_aload_n hx hb dX13_layWord_39 rfl (lv_at hl 0 rfl) ?_
            refine m_get fl_X13_70_X13 C hM (i := 192) (by omega) (e_192 b kc T S) (v := .ref (b + 199)) rfl dX13_layWord_40 ?_
            refine lv_iload_n hx hb dX13_layWord_43 rfl (lv_at hl 2 rfl) ?_
            refine g_iald C hM (j := 199) (by omega) (jK_M b kc T (by omega)) (a_199 b kc) hS hx3_ (B := 41) rfl h dX13_layWord_44 (fun z7_z bz7_z h => ?_)
            refine lv_iconst (v := 2) hx hb dX13_layWord_45 (by decide) ?_
            refine g_icmp_ne (tgt := 100) hx hb bz7_z (show (2 : Int32).toInt = 2 by decide) h dX13_layWord_46 (by decide) (fun h => ?_) (fun h => ?_)
            · exact B100 (f_M_layWord_13 v1 v2 n) hkf13_ S _ _ _ x3_ v3_ hx3_ hS hM (lv_sub hl [0, 1, 2] rfl) h
            · exact B49 (f_M_layWord_13 v1 v2 n) hkf13_ S _ _ _ x3_ v3_ hx3_ hS hM (lv_sub hl [0, 1, 2] rfl) h
  refine lv_aload_n hx hb dX13_layWord_0 rfl (lv_at hl 0 rfl) ?_
  refine lv_iload_n hx hb dX13_layWord_1 rfl (lv_at hl 1 rfl) ?_
  refine lv_iconst (v := 0) hx hb dX13_layWord_2 (by decide) ?_
  obtain ⟨r1_z, cr1_z, h⟩ := w_b1E h
  refine g_callI (J := jM b kc T) (m_runV calV_X13_innermost wd_1404 (g_M_innermost l D kc b T S x1 v1 hx1 0 0 (show (0 : Int32).toInt = 0 by decide) hS cr1_z) C hM (i := 192) (by omega) (e_192 b kc T S) rfl hl.1 rfl rfl (Nat.le_of_ble_eq_true rfl) dX13_layWord_3 ⟨Nat.le_of_ble_eq_true rfl, Nat.le_of_ble_eq_true rfl⟩ ⟨Nat.le_of_ble_eq_true rfl, Nat.le_of_ble_eq_true rfl⟩) hM (fun z2_z H locs bz2_z hM hS => ?_)
  refine lv_iload_n hx hb dX13_layWord_6 rfl (lv_at hl 2 rfl) ?_
  refine g_icmp_eq (tgt := 11) hx hb bz2_z hx2 h dX13_layWord_7 (by decide) (fun h => ?_) (fun h => ?_)
  · refine lv_iconst (v := 0) hx hb dX13_layWord_11 (by decide) ?_
    refine lv_istore_n (lv' := [(3, .int 0), (0, .ref (b + 192)), (1, .int x1), (2, .int x2)]) hx hb dX13_layWord_12 rfl hl (by decide) rfl (fun ls hl => ?_)
    exact B13 FU S _ _ _ 0 0 (show (0 : Int32).toInt = 0 by decide) hS hM (lv_sub hl [1, 2, 0] rfl) h
  · exact ret S _ _ _ _ (Option.some.inj h) hM hS dX13_layWord_10
