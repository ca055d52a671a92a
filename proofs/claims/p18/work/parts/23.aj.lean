def f_coder (S : SS) (i0 : Nat) : Int := 0
set_option maxHeartbeats 4000000 in
set_option maxRecDepth 100000 in
theorem g_coder (l : Launch) (D : va_G) (kc : Nat → ClassId) (b : Nat) (J : SS → Nat → va_E) (S : SS) (i0 : Nat) (hi0 : i0 < 13) (hS : rng S) {vr : Int} (h : f_coder S i0 = vr) : cI l yJ0_coder_7d493 cJ0_coder_7d493 1 .byte 1 D kc b (J) S [.ref (kc (100 + i0))] vr S := by
  refine g_beg_b (by decide) (Nat.le_of_ble_eq_true rfl) ?_
  intro p e s m args below meth c Q C ret hM ls hl
  obtain ⟨hx, hb, hml, hown, hts, hE, hbs⟩ := id C
  have hl : lv_has ls 1 [(0, .ref (kc (100 + i0)))] := hl
  unfold f_coder at h
  refine g_compact C hM wd_502 dJ0_coder_7d493_0 ?_
  refine lv_if_eq (tgt := 13) hx hb dJ0_coder_7d493_3 (by decide) (fun h => absurd h (by decide)) (fun _ => ?_)
  refine lv_aload_n hx hb dJ0_coder_7d493_6 rfl (lv_at hl 0 rfl) ?_
  refine g_stcoder C hM hi0 wd_1485 dJ0_coder_7d493_7 ?_
  refine lv_goto (tgt := 14) hx hb dJ0_coder_7d493_10 (by decide) ?_
  exact ret S _ _ _ _ 0 ((show (0 : Int32).toInt = 0 by decide).trans h) (rfl) rfl hM hS dJ0_coder_7d493_14

def f_isLatin1 (S : SS) (i0 : Nat) : Int := 1
set_option maxHeartbeats 4000000 in
set_option maxRecDepth 100000 in
theorem g_isLatin1 (l : Launch) (D : va_G) (kc : Nat → ClassId) (b : Nat) (J : SS → Nat → va_E) (S : SS) (i0 : Nat) (hi0 : i0 < 13) (hS : rng S) {vr : Int} (h : f_isLatin1 S i0 = vr) : cI l yJ0_isLatin1_aae02 cJ0_isLatin1_aae02 1 .boolean 1 D kc b (J) S [.ref (kc (100 + i0))] vr S := by
  refine g_beg_z (by decide) (Nat.le_of_ble_eq_true rfl) ?_
  intro p e s m args below meth c Q C ret hM ls hl
  obtain ⟨hx, hb, hml, hown, hts, hE, hbs⟩ := id C
  have hl : lv_has ls 1 [(0, .ref (kc (100 + i0)))] := hl
  unfold f_isLatin1 at h
  refine g_compact C hM wd_502 dJ0_isLatin1_aae02_0 ?_
  refine lv_if_eq (tgt := 17) hx hb dJ0_isLatin1_aae02_3 (by decide) (fun h => absurd h (by decide)) (fun _ => ?_)
  refine lv_aload_n hx hb dJ0_isLatin1_aae02_6 rfl (lv_at hl 0 rfl) ?_
  refine g_stcoder C hM hi0 wd_1485 dJ0_isLatin1_aae02_7 ?_
  refine lv_if_ne (tgt := 17) hx hb dJ0_isLatin1_aae02_10 (by decide) (fun h => absurd (by decide) h) (fun _ => ?_)
  refine lv_iconst (v := 1) hx hb dJ0_isLatin1_aae02_13 (by decide) ?_
  refine lv_goto (tgt := 18) hx hb dJ0_isLatin1_aae02_14 (by decide) ?_
  exact ret S _ _ _ _ 1 ((show (1 : Int32).toInt = 1 by decide).trans h) (by rw [← h]; exact (by decide)) rfl hM hS dJ0_isLatin1_aae02_18

def f_length (S : SS) (i0 : Nat) : Int := shri (stl i0) (f_coder S i0)
set_option maxHeartbeats 4000000 in
set_option maxRecDepth 100000 in
theorem g_length (l : Launch) (D : va_G) (kc : Nat → ClassId) (b : Nat) (J : SS → Nat → va_E) (S : SS) (i0 : Nat) (hi0 : i0 < 13) (hS : rng S) {vr : Int} (h : f_length S i0 = vr) : cI l yJ0_length_8abf5 cJ0_length_8abf5 1 .int 2 D kc b (J) S [.ref (kc (100 + i0))] vr S := by
  refine g_beg_i (by decide) (Nat.le_of_ble_eq_true rfl) ?_
  intro p e s m args below meth c Q C ret hM ls hl
  obtain ⟨hx, hb, hml, hown, hts, hE, hbs⟩ := id C
  have hl : lv_has ls 1 [(0, .ref (kc (100 + i0)))] := hl
  unfold f_length at h
  refine lv_aload_n hx hb dJ0_length_8abf5_0 rfl (lv_at hl 0 rfl) ?_
  refine g_stvalue C hM hi0 wd_1486 dJ0_length_8abf5_1 ?_
  refine g_stlen C hM hi0 dJ0_length_8abf5_4 (fun z1_z bz1_z => ?_)
  refine lv_aload_n hx hb dJ0_length_8abf5_5 rfl (lv_at hl 0 rfl) ?_
  refine g_callI (J := J) (m_runVK calV_J0_coder_7d493 wd_508 (g_coder l D kc b J S i0 hi0 hS rfl) C hM (st_O C hi0) hl.1 rfl rfl (Nat.le_of_ble_eq_true rfl) dJ0_length_8abf5_6 ⟨Nat.le_of_ble_eq_true rfl, Nat.le_of_ble_eq_true rfl⟩ ⟨Nat.le_of_ble_eq_true rfl, Nat.le_of_ble_eq_true rfl⟩) hM (fun z2_z H locs bz2_z hM hS => ?_)
  refine g_ishr hx hb bz1_z bz2_z dJ0_length_8abf5_9 (fun z3_z bz3_z => ?_)
  exact ret S _ _ _ _ z3_z (bz3_z.trans h) rfl hM hS dJ0_length_8abf5_10

def f_preCheck_9 (S : SS) (v0 : Int) (v1 : Int) : Option Int := none
def f_preCheck (S : SS) (v0 : Int) (v1 : Int) : Option Int := (if v0 < 0 then f_preCheck_9 S v0 v1  else (if v0 < v1 then some v0 else f_preCheck_9 S v0 v1 ))
set_option maxHeartbeats 4000000 in
set_option maxRecDepth 100000 in
theorem g_preCheck (l : Launch) (D : va_G) (kc : Nat → ClassId) (b : Nat) (J : SS → Nat → va_E) (S : SS) (x0 : Int32) (v0 : Int) (hx0 : x0.toInt = v0) (x1 : Int32) (v1 : Int) (hx1 : x1.toInt = v1) (o2 : Option Nat) (hS : rng S) {vr : Int} (h : f_preCheck S v0 v1 = some vr) : cI l yJ3_checkIndex_8e157 cJ3_checkIndex_8e157 3 .int 1 D kc b (J) S [.int x0, .int x1, va_rf o2] vr S := by
  refine g_beg_i (by decide) (by cases o2 <;> exact Nat.le_of_ble_eq_true rfl) ?_
  intro p e s m args below meth c Q C ret hM ls hl
  obtain ⟨hx, hb, hml, hown, hts, hE, hbs⟩ := id C
  have hl : lv_has ls 3 [(0, .int x0), (1, .int x1), (2, va_rf o2)] := hl
  unfold f_preCheck at h
  have B9 : ∀ (H : Heap) (locs : List Loc) (ls : Array Slot), rng S → mS D b s 220 (J S) H locs → lv_has ls 3 [(0, .int x0), (1, .int x1), (2, va_rf o2)] → f_preCheck_9 S v0 v1 = some vr → W p l e (mR 1 0 0) s m args below meth c H locs 0 0 Q (F0 m 9 ls []) := by
    intro H locs ls hS hM hl h
    unfold f_preCheck_9 at h
    exact absurd (h : none = some _) (fun q => nomatch q)
  refine lv_iload_n hx hb dJ3_checkIndex_8e157_0 rfl (lv_at hl 0 rfl) ?_
  refine g_if_lt (tgt := 9) hx hb hx0 h dJ3_checkIndex_8e157_1 (by decide) (fun h => ?_) (fun h => ?_)
  · exact B9 _ _ _ hS hM (lv_sub hl [0, 1, 2] rfl) h
  · refine lv_iload_n hx hb dJ3_checkIndex_8e157_4 rfl (lv_at hl 0 rfl) ?_
    refine lv_iload_n hx hb dJ3_checkIndex_8e157_5 rfl (lv_at hl 1 rfl) ?_
    refine g_icmp_lt (tgt := 16) hx hb hx0 hx1 h dJ3_checkIndex_8e157_6 (by decide) (fun h => ?_) (fun h => ?_)
    · refine lv_iload_n hx hb dJ3_checkIndex_8e157_16 rfl (lv_at hl 0 rfl) ?_
      exact ret S _ _ _ _ x0 (hx0.trans (Option.some.inj h)) rfl hM hS dJ3_checkIndex_8e157_17
    · exact B9 _ _ _ hS hM (lv_sub hl [0, 1, 2] rfl) h

def f_checkIndex (S : SS) (v0 : Int) (v1 : Int) : Option Unit := w_b1 (f_preCheck S v0 v1) (fun r2_z => some ())
set_option maxHeartbeats 4000000 in
set_option maxRecDepth 100000 in
theorem g_checkIndex (l : Launch) (D : va_G) (kc : Nat → ClassId) (b : Nat) (J : SS → Nat → va_E) (S : SS) (x0 : Int32) (v0 : Int) (hx0 : x0.toInt = v0) (x1 : Int32) (v1 : Int) (hx1 : x1.toInt = v1) (hS : rng S)  (h : f_checkIndex S v0 v1 = some ()) : cV l yJ0_checkIndex_df160 cJ0_checkIndex_df160 2 2 D kc b (J) S [.int x0, .int x1] S := by
  refine g_beg_v (by decide) (Nat.le_of_ble_eq_true rfl) ?_
  intro p e s m args below meth c Q C ret hM ls hl
  obtain ⟨hx, hb, hml, hown, hts, hE, hbs⟩ := id C
  have hl : lv_has ls 2 [(0, .int x0), (1, .int x1)] := hl
  unfold f_checkIndex at h
  refine lv_iload_n hx hb dJ0_checkIndex_df160_0 rfl (lv_at hl 0 rfl) ?_
  refine lv_iload_n hx hb dJ0_checkIndex_df160_1 rfl (lv_at hl 1 rfl) ?_
  refine g_former C hM wd_545 dJ0_checkIndex_df160_2 (fun o1_z => ?_)
  obtain ⟨r2_z, cr2_z, h⟩ := w_b1E h
  refine g_callI (J := J) (m_runS calS_J3_checkIndex_8e157 wd_748 (g_preCheck l D kc b J S x0 v0 hx0 x1 v1 hx1 o1_z hS cr2_z) C hM hl.1 rfl rfl (Nat.le_of_ble_eq_true rfl) dJ0_checkIndex_df160_5 ⟨Nat.le_of_ble_eq_true rfl, Nat.le_of_ble_eq_true rfl⟩ ⟨Nat.le_of_ble_eq_true rfl, Nat.le_of_ble_eq_true rfl⟩) hM (fun z3_z H locs bz3_z hM hS => ?_)
  refine lv_pop hx hb dJ0_checkIndex_df160_8 rfl ?_
  exact ret S _ _ _ _ rfl hM hS dJ0_checkIndex_df160_9

def f_l1charAt (S : SS) (i0 : Nat) (v1 : Int) : Option Int := w_b1 (f_checkIndex S v1 (stl i0)) (fun u2_z => w_chk (0 ≤ v1 ∧ v1 < stl i0) (w_chk (0 ≤ (toc (andi (stc i0 (v1).toNat) 255)) ∧ (toc (andi (stc i0 (v1).toNat) 255)) < 65536) (some (toc (andi (stc i0 (v1).toNat) 255)))))
set_option maxHeartbeats 4000000 in
set_option maxRecDepth 100000 in
theorem g_l1charAt (l : Launch) (D : va_G) (kc : Nat → ClassId) (b : Nat) (J : SS → Nat → va_E) (S : SS) (i0 : Nat) (hi0 : i0 < 13) (x1 : Int32) (v1 : Int) (hx1 : x1.toInt = v1) (hS : rng S) {vr : Int} (h : f_l1charAt S i0 v1 = some vr) : cI l yJ1_charAt_3b067 cJ1_charAt_3b067 2 .char 3 D kc b (J) S [.ref (kc (200 + i0)), .int x1] vr S := by
  refine g_beg_c (by decide) (Nat.le_of_ble_eq_true rfl) ?_
  intro p e s m args below meth c Q C ret hM ls hl
  obtain ⟨hx, hb, hml, hown, hts, hE, hbs⟩ := id C
  have hl : lv_has ls 2 [(0, .ref (kc (200 + i0))), (1, .int x1)] := hl
  unfold f_l1charAt at h
  refine lv_iload_n hx hb dJ1_charAt_3b067_0 rfl (lv_at hl 1 rfl) ?_
  refine lv_aload_n hx hb dJ1_charAt_3b067_1 rfl (lv_at hl 0 rfl) ?_
  refine g_stlen C hM hi0 dJ1_charAt_3b067_2 (fun z1_z bz1_z => ?_)
  obtain ⟨u2_z, cu2_z, h⟩ := w_b1E h
  refine g_callV (J := J) (m_runS calS_J0_checkIndex_df160 wd_745 (g_checkIndex l D kc b J S x1 v1 hx1 z1_z (stl i0) bz1_z hS cu2_z) C hM hl.1 rfl rfl (Nat.le_of_ble_eq_true rfl) dJ1_charAt_3b067_3 ⟨Nat.le_of_ble_eq_true rfl, Nat.le_of_ble_eq_true rfl⟩ ⟨Nat.le_of_ble_eq_true rfl, Nat.le_of_ble_eq_true rfl⟩) hM (fun H locs hM hS => ?_)
  refine lv_aload_n hx hb dJ1_charAt_3b067_6 rfl (lv_at hl 0 rfl) ?_
  refine lv_iload_n hx hb dJ1_charAt_3b067_7 rfl (lv_at hl 1 rfl) ?_
  refine g_stld C hM hi0 hx1 h dJ1_charAt_3b067_8 (fun z4_z bz4_z h => ?_)
  refine lv_sipush (v := 255) hx hb dJ1_charAt_3b067_9 (by decide) ?_
  refine g_iand hx hb bz4_z (show (255 : Int32).toInt = 255 by decide) dJ1_charAt_3b067_12 (fun z5_z bz5_z => ?_)
  refine g_i2c hx hb bz5_z dJ1_charAt_3b067_13 (fun z6_z bz6_z => ?_)
  obtain ⟨c7_z, h⟩ := w_chkE h
  exact ret S _ _ _ _ z6_z (bz6_z.trans (Option.some.inj h)) (c_nar bz6_z c7_z) rfl hM hS dJ1_charAt_3b067_14

def f_charAt (S : SS) (i0 : Nat) (v1 : Int) : Option Int := (if f_isLatin1 S i0 = 0 then none else w_b1 (f_l1charAt S i0 v1) (fun r2_z => w_chk (0 ≤ r2_z ∧ r2_z < 65536) (some r2_z)))
set_option maxHeartbeats 4000000 in
set_option maxRecDepth 100000 in
theorem g_charAt (l : Launch) (D : va_G) (kc : Nat → ClassId) (b : Nat) (J : SS → Nat → va_E) (S : SS) (i0 : Nat) (hi0 : i0 < 13) (x1 : Int32) (v1 : Int) (hx1 : x1.toInt = v1) (hS : rng S) {vr : Int} (h : f_charAt S i0 v1 = some vr) : cI l yJ0_charAt_5068e cJ0_charAt_5068e 2 .char 4 D kc b (J) S [.ref (kc (100 + i0)), .int x1] vr S := by
  refine g_beg_c (by decide) (Nat.le_of_ble_eq_true rfl) ?_
  intro p e s m args below meth c Q C ret hM ls hl
  obtain ⟨hx, hb, hml, hown, hts, hE, hbs⟩ := id C
  have hl : lv_has ls 2 [(0, .ref (kc (100 + i0))), (1, .int x1)] := hl
  unfold f_charAt at h
  refine lv_aload_n hx hb dJ0_charAt_5068e_0 rfl (lv_at hl 0 rfl) ?_
  refine g_callI (J := J) (m_runVK calV_J0_isLatin1_aae02 wd_498 (g_isLatin1 l D kc b J S i0 hi0 hS rfl) C hM (st_O C hi0) hl.1 rfl rfl (Nat.le_of_ble_eq_true rfl) dJ0_charAt_5068e_1 ⟨Nat.le_of_ble_eq_true rfl, Nat.le_of_ble_eq_true rfl⟩ ⟨Nat.le_of_ble_eq_true rfl, Nat.le_of_ble_eq_true rfl⟩) hM (fun z1_z H locs bz1_z hM hS => ?_)
  refine g_if_eq (tgt := 16) hx hb bz1_z h dJ0_charAt_5068e_4 (by decide) (fun h => ?_) (fun h => ?_)
  · exact absurd (h : none = some _) (fun q => nomatch q)
  · refine lv_aload_n hx hb dJ0_charAt_5068e_7 rfl (lv_at hl 0 rfl) ?_
    refine g_stvalue C hM hi0 wd_1486 dJ0_charAt_5068e_8 ?_
    refine lv_iload_n hx hb dJ0_charAt_5068e_11 rfl (lv_at hl 1 rfl) ?_
    obtain ⟨r2_z, cr2_z, h⟩ := w_b1E h
    refine g_callI (J := J) (m_runS calS_J1_charAt_3b067 wd_742 (g_l1charAt l D kc b J S i0 hi0 x1 v1 hx1 hS cr2_z) C hM hl.1 rfl rfl (Nat.le_of_ble_eq_true rfl) dJ0_charAt_5068e_12 ⟨Nat.le_of_ble_eq_true rfl, Nat.le_of_ble_eq_true rfl⟩ ⟨Nat.le_of_ble_eq_true rfl, Nat.le_of_ble_eq_true rfl⟩) hM (fun z3_z H locs bz3_z hM hS => ?_)
    obtain ⟨c4_z, h⟩ := w_chkE h
    exact ret S _ _ _ _ z3_z (bz3_z.trans (Option.some.inj h)) (c_nar bz3_z c4_z) rfl hM hS dJ0_charAt_5068e_15

def f_canEncode (S : SS) (v0 : Int) : Int := (if v0 < 0 then 0 else (if 255 < v0 then 0 else 1))
set_option maxHeartbeats 4000000 in
set_option maxRecDepth 100000 in
theorem g_canEncode (l : Launch) (D : va_G) (kc : Nat → ClassId) (b : Nat) (J : SS → Nat → va_E) (S : SS) (x0 : Int32) (v0 : Int) (hx0 : x0.toInt = v0) (hS : rng S) {vr : Int} (h : f_canEncode S v0 = vr) : cI l yJ1_canEncode_9a6ad cJ1_canEncode_9a6ad 1 .boolean 1 D kc b (J) S [.int x0] vr S := by
  refine g_beg_z (by decide) (Nat.le_of_ble_eq_true rfl) ?_
  intro p e s m args below meth c Q C ret hM ls hl
  obtain ⟨hx, hb, hml, hown, hts, hE, hbs⟩ := id C
  have hl : lv_has ls 1 [(0, .int x0)] := hl
  unfold f_canEncode at h
  refine lv_iload_n hx hb dJ1_canEncode_9a6ad_0 rfl (lv_at hl 0 rfl) ?_
  refine g_if_lt (tgt := 15) hx hb hx0 h dJ1_canEncode_9a6ad_1 (by decide) (fun h => ?_) (fun h => ?_)
  · refine lv_iconst (v := 0) hx hb dJ1_canEncode_9a6ad_15 (by decide) ?_
    exact ret S _ _ _ _ 0 ((show (0 : Int32).toInt = 0 by decide).trans h) (by rw [← h]; exact (by decide)) rfl hM hS dJ1_canEncode_9a6ad_16
  · refine lv_iload_n hx hb dJ1_canEncode_9a6ad_4 rfl (lv_at hl 0 rfl) ?_
    refine lv_sipush (v := 255) hx hb dJ1_canEncode_9a6ad_5 (by decide) ?_
    refine g_icmp_gt (tgt := 15) hx hb hx0 (show (255 : Int32).toInt = 255 by decide) h dJ1_canEncode_9a6ad_8 (by decide) (fun h => ?_) (fun h => ?_)
    · refine lv_iconst (v := 0) hx hb dJ1_canEncode_9a6ad_15 (by decide) ?_
      exact ret S _ _ _ _ 0 ((show (0 : Int32).toInt = 0 by decide).trans h) (by rw [← h]; exact (by decide)) rfl hM hS dJ1_canEncode_9a6ad_16
    · refine lv_iconst (v := 1) hx hb dJ1_canEncode_9a6ad_11 (by decide) ?_
      refine lv_goto (tgt := 16) hx hb dJ1_canEncode_9a6ad_12 (by decide) ?_
      exact ret S _ _ _ _ 1 ((show (1 : Int32).toInt = 1 by decide).trans h) (by rw [← h]; exact (by decide)) rfl hM hS dJ1_canEncode_9a6ad_16

def f_indexOfChar_7_b (S : SS) (i0 : Nat) (v1 : Int) (v2 : Int) (v3 : Int) (kf7_ : Int → Int → Option Int) (v4_ : Int) (v5_ : Int) : Option Int := (if v3 ≤ v5_ then some (-1) else w_chk (0 ≤ v5_ ∧ v5_ < stl i0) ((if stc i0 (v5_).toNat = v4_ then some v5_ else w_chk (i32 (v5_ + 1)) (kf7_ v4_ (v5_ + 1)))))
def f_indexOfChar_7 (S : SS) (i0 : Nat) (v1 : Int) (v2 : Int) (v3 : Int) : Nat → Int → Int → Option Int
  | 0 => fun _ _ => none
  | n + 1 => f_indexOfChar_7_b S i0 v1 v2 v3 (f_indexOfChar_7 S i0 v1 v2 v3 n)
def f_indexOfChar (S : SS) (i0 : Nat) (v1 : Int) (v2 : Int) (v3 : Int) : Option Int := f_indexOfChar_7 S i0 v1 v2 v3 FU (tob v1) v2
set_option maxHeartbeats 4000000 in
set_option maxRecDepth 100000 in
theorem g_indexOfChar (l : Launch) (D : va_G) (kc : Nat → ClassId) (b : Nat) (J : SS → Nat → va_E) (S : SS) (i0 : Nat) (hi0 : i0 < 13) (x1 : Int32) (v1 : Int) (hx1 : x1.toInt = v1) (x2 : Int32) (v2 : Int) (hx2 : x2.toInt = v2) (x3 : Int32) (v3 : Int) (hx3 : x3.toInt = v3) (hS : rng S) {vr : Int} (h : f_indexOfChar S i0 v1 v2 v3 = some vr) : cI l yJ1_indexOfChar_4cfef cJ1_indexOfChar_4cfef 6 .int 1 D kc b (J) S [.ref (kc (200 + i0)), .int x1, .int x2, .int x3] vr S := by
  refine g_beg_i (by decide) (Nat.le_of_ble_eq_true rfl) ?_
  intro p e s m args below meth c Q C ret hM ls hl
  obtain ⟨hx, hb, hml, hown, hts, hE, hbs⟩ := id C
  have hl : lv_has ls 6 [(0, .ref (kc (200 + i0))), (1, .int x1), (2, .int x2), (3, .int x3)] := hl
  unfold f_indexOfChar at h
  have B7 : ∀ (n : Nat), ∀ (H : Heap) (locs : List Loc) (ls : Array Slot) (x4_ : Int32) (v4_ : Int) (hx4_ : x4_.toInt = v4_) (x5_ : Int32) (v5_ : Int) (hx5_ : x5_.toInt = v5_), rng S → mS D b s 220 (J S) H locs → lv_has ls 6 [(0, .ref (kc (200 + i0))), (3, .int x3), (4, .int x4_), (5, .int x5_)] → f_indexOfChar_7 S i0 v1 v2 v3 n v4_ v5_ = some vr → W p l e (mR 1 0 0) s m args below meth c H locs 0 0 Q (F0 m 7 ls []) := by
    intro n
    induction n with
    | zero => intro H locs ls x4_ v4_ hx4_ x5_ v5_ hx5_ hS hM hl h; exact absurd (h : none = some _) (fun q => nomatch q)
    | succ n hkf7_ =>
      intro H locs ls x4_ v4_ hx4_ x5_ v5_ hx5_ hS hM hl h
      have h : f_indexOfChar_7_b S i0 v1 v2 v3 (f_indexOfChar_7 S i0 v1 v2 v3 n) v4_ v5_ = some vr := h
      unfold f_indexOfChar_7_b at h
      refine lv_iload hx hb dJ1_indexOfChar_4cfef_7 (lv_at hl 3 rfl) ?_
      refine lv_iload_n hx hb dJ1_indexOfChar_4cfef_9 rfl (lv_at hl 1 rfl) ?_
      refine g_icmp_ge (tgt := 31) hx hb hx5_ hx3 h dJ1_indexOfChar_4cfef_10 (by decide) (fun h => ?_) (fun h => ?_)
      · refine lv_iconst (v := (-1)) hx hb dJ1_indexOfChar_4cfef_31 (by decide) ?_
        exact ret S _ _ _ _ (-1) ((show ((-1) : Int32).toInt = (-1) by decide).trans (Option.some.inj h)) rfl hM hS dJ1_indexOfChar_4cfef_32
      · refine lv_aload_n hx hb dJ1_indexOfChar_4cfef_13 rfl (lv_at hl 0 rfl) ?_
        refine lv_iload hx hb dJ1_indexOfChar_4cfef_14 (lv_at hl 3 rfl) ?_
        refine g_stld C hM hi0 hx5_ h dJ1_indexOfChar_4cfef_16 (fun z1_z bz1_z h => ?_)
        refine lv_iload hx hb dJ1_indexOfChar_4cfef_17 (lv_at hl 2 rfl) ?_
        refine g_icmp_ne (tgt := 25) hx hb bz1_z hx4_ h dJ1_indexOfChar_4cfef_19 (by decide) (fun h => ?_) (fun h => ?_)
        · refine g_iinc (y := 1) hx hb hx5_ (by decide) (by decide) h dJ1_indexOfChar_4cfef_25 hl (k := 3) rfl (by decide) (fun z2_z ls bz2_z h hl => ?_)
          have hl : lv_has ls 6 [(5, .int z2_z), (0, .ref (kc (200 + i0))), (3, .int x3), (4, .int x4_)] := hl
          refine lv_goto (tgt := 7) hx hb dJ1_indexOfChar_4cfef_28 (by decide) ?_
          exact hkf7_ _ _ _ x4_ v4_ hx4_ z2_z (v5_ + 1) bz2_z hS hM (lv_sub hl [1, 2, 3, 0] rfl) h
        · refine lv_iload hx hb dJ1_indexOfChar_4cfef_22 (lv_at hl 3 rfl) ?_
          exact ret S _ _ _ _ x5_ (hx5_.trans (Option.some.inj h)) rfl hM hS dJ1_indexOfChar_4cfef_24
  refine lv_iload_n hx hb dJ1_indexOfChar_4cfef_0 rfl (lv_at hl 1 rfl) ?_
  refine g_i2b hx hb hx1 dJ1_indexOfChar_4cfef_1 (fun z1_z bz1_z => ?_)
  refine lv_istore (lv' := [(4, .int z1_z), (0, .ref (kc (200 + i0))), (1, .int x1), (2, .int x2), (3, .int x3)]) hx hb dJ1_indexOfChar_4cfef_2 hl (by decide) rfl (fun ls hl => ?_)
  refine lv_iload_n hx hb dJ1_indexOfChar_4cfef_4 rfl (lv_at hl 3 rfl) ?_
  refine lv_istore (lv' := [(5, .int x2), (4, .int z1_z), (0, .ref (kc (200 + i0))), (1, .int x1), (2, .int x2), (3, .int x3)]) hx hb dJ1_indexOfChar_4cfef_5 hl (by decide) rfl (fun ls hl => ?_)
  exact B7 FU _ _ _ z1_z (tob v1) bz1_z x2 v2 hx2 hS hM (lv_sub hl [2, 5, 1, 0] rfl) h

def f_l1indexOf (S : SS) (i0 : Nat) (v1 : Int) (v2 : Int) (v3 : Int) : Option Int := (if f_canEncode S v1 = 0 then some (-1) else (if max v2 0 < min v3 (stl i0) then w_b1 (f_indexOfChar S i0 v1 (max v2 0) (min v3 (stl i0))) (fun r5_z => some r5_z) else some (-1)))
set_option maxHeartbeats 4000000 in
set_option maxRecDepth 100000 in
theorem g_l1indexOf (l : Launch) (D : va_G) (kc : Nat → ClassId) (b : Nat) (J : SS → Nat → va_E) (S : SS) (i0 : Nat) (hi0 : i0 < 13) (x1 : Int32) (v1 : Int) (hx1 : x1.toInt = v1) (x2 : Int32) (v2 : Int) (hx2 : x2.toInt = v2) (x3 : Int32) (v3 : Int) (hx3 : x3.toInt = v3) (hS : rng S) {vr : Int} (h : f_l1indexOf S i0 v1 v2 v3 = some vr) : cI l yJ1_indexOf_4cfef cJ1_indexOf_4cfef 4 .int 2 D kc b (J) S [.ref (kc (200 + i0)), .int x1, .int x2, .int x3] vr S := by
  refine g_beg_i (by decide) (Nat.le_of_ble_eq_true rfl) ?_
  intro p e s m args below meth c Q C ret hM ls hl
  obtain ⟨hx, hb, hml, hown, hts, hE, hbs⟩ := id C
  have hl : lv_has ls 4 [(0, .ref (kc (200 + i0))), (1, .int x1), (2, .int x2), (3, .int x3)] := hl
  unfold f_l1indexOf at h
  refine lv_iload_n hx hb dJ1_indexOf_4cfef_0 rfl (lv_at hl 1 rfl) ?_
  refine g_callI (J := J) (m_runS calS_J1_canEncode_9a6ad wd_515 (g_canEncode l D kc b J S x1 v1 hx1 hS rfl) C hM hl.1 rfl rfl (Nat.le_of_ble_eq_true rfl) dJ1_indexOf_4cfef_1 ⟨Nat.le_of_ble_eq_true rfl, Nat.le_of_ble_eq_true rfl⟩ ⟨Nat.le_of_ble_eq_true rfl, Nat.le_of_ble_eq_true rfl⟩) hM (fun z1_z H locs bz1_z hM hS => ?_)
  refine g_if_ne (tgt := 9) hx hb bz1_z h dJ1_indexOf_4cfef_4 (by decide) (fun h => ?_) (fun h => ?_)
  · refine lv_iload_n hx hb dJ1_indexOf_4cfef_9 rfl (lv_at hl 2 rfl) ?_
    refine lv_iconst (v := 0) hx hb dJ1_indexOf_4cfef_10 (by decide) ?_
    refine g_mmax hx hb (hml.trans hl.1.symm) hown (hts _ wd_518) (hts _ wd_519) (hts _ wd_91) (hts _ wd_520) (Nat.le_of_ble_eq_true rfl) (Nat.le_of_ble_eq_true rfl) (Nat.le_of_ble_eq_true rfl) (Nat.le_of_ble_eq_true rfl) hx2 (show (0 : Int32).toInt = 0 by decide) dJ1_indexOf_4cfef_11 (fun z2_z bz2_z => ?_)
    refine lv_istore_n (lv' := [(2, .int z2_z), (0, .ref (kc (200 + i0))), (1, .int x1), (3, .int x3)]) hx hb dJ1_indexOf_4cfef_14 rfl hl (by decide) rfl (fun ls hl => ?_)
    refine lv_iload_n hx hb dJ1_indexOf_4cfef_15 rfl (lv_at hl 3 rfl) ?_
    refine lv_aload_n hx hb dJ1_indexOf_4cfef_16 rfl (lv_at hl 1 rfl) ?_
    refine g_stlen C hM hi0 dJ1_indexOf_4cfef_17 (fun z3_z bz3_z => ?_)
    refine g_mmin hx hb (hml.trans hl.1.symm) hown (hts _ wd_521) (hts _ wd_522) (hts _ wd_91) (hts _ wd_523) (Nat.le_of_ble_eq_true rfl) (Nat.le_of_ble_eq_true rfl) (Nat.le_of_ble_eq_true rfl) (Nat.le_of_ble_eq_true rfl) hx3 bz3_z dJ1_indexOf_4cfef_18 (fun z4_z bz4_z => ?_)
    refine lv_istore_n (lv' := [(3, .int z4_z), (2, .int z2_z), (0, .ref (kc (200 + i0))), (1, .int x1)]) hx hb dJ1_indexOf_4cfef_21 rfl hl (by decide) rfl (fun ls hl => ?_)
    refine lv_iload_n hx hb dJ1_indexOf_4cfef_22 rfl (lv_at hl 1 rfl) ?_
    refine lv_iload_n hx hb dJ1_indexOf_4cfef_23 rfl (lv_at hl 0 rfl) ?_
    refine g_icmp_lt (tgt := 29) hx hb bz2_z bz4_z h dJ1_indexOf_4cfef_24 (by decide) (fun h => ?_) (fun h => ?_)
    · refine lv_aload_n hx hb dJ1_indexOf_4cfef_29 rfl (lv_at hl 2 rfl) ?_
      refine lv_iload_n hx hb dJ1_indexOf_4cfef_30 rfl (lv_at hl 3 rfl) ?_
      refine lv_iload_n hx hb dJ1_indexOf_4cfef_31 rfl (lv_at hl 1 rfl) ?_
      refine lv_iload_n hx hb dJ1_indexOf_4cfef_32 rfl (lv_at hl 0 rfl) ?_
      obtain ⟨r5_z, cr5_z, h⟩ := w_b1E h
      refine g_callI (J := J) (m_runS calS_J1_indexOfChar_4cfef wd_524 (g_indexOfChar l D kc b J S i0 hi0 x1 v1 hx1 z2_z (max v2 0) bz2_z z4_z (min v3 (stl i0)) bz4_z hS cr5_z) C hM hl.1 rfl rfl (Nat.le_of_ble_eq_true rfl) dJ1_indexOf_4cfef_33 ⟨Nat.le_of_ble_eq_true rfl, Nat.le_of_ble_eq_true rfl⟩ ⟨Nat.le_of_ble_eq_true rfl, Nat.le_of_ble_eq_true rfl⟩) hM (fun z6_z H locs bz6_z hM hS => ?_)
      exact ret S _ _ _ _ z6_z (bz6_z.trans (Option.some.inj h)) rfl hM hS dJ1_indexOf_4cfef_36
    · refine lv_iconst (v := (-1)) hx hb dJ1_indexOf_4cfef_27 (by decide) ?_
      exact ret S _ _ _ _ (-1) ((show ((-1) : Int32).toInt = (-1) by decide).trans (Option.some.inj h)) rfl hM hS dJ1_indexOf_4cfef_28
  · refine lv_iconst (v := (-1)) hx hb dJ1_indexOf_4cfef_7 (by decide) ?_
    exact ret S _ _ _ _ (-1) ((show ((-1) : Int32).toInt = (-1) by decide).trans (Option.some.inj h)) rfl hM hS dJ1_indexOf_4cfef_8

def f_indexOf2 (S : SS) (i0 : Nat) (v1 : Int) (v2 : Int) : Option Int := (if f_isLatin1 S i0 = 0 then none else w_b1 (f_l1indexOf S i0 v1 v2 (f_length S i0)) (fun r3_z => some r3_z))
set_option maxHeartbeats 4000000 in
set_option maxRecDepth 100000 in
theorem g_indexOf2 (l : Launch) (D : va_G) (kc : Nat → ClassId) (b : Nat) (J : SS → Nat → va_E) (S : SS) (i0 : Nat) (hi0 : i0 < 13) (x1 : Int32) (v1 : Int) (hx1 : x1.toInt = v1) (x2 : Int32) (v2 : Int) (hx2 : x2.toInt = v2) (hS : rng S) {vr : Int} (h : f_indexOf2 S i0 v1 v2 = some vr) : cI l yJ0_indexOf_7cf53 cJ0_indexOf_7cf53 3 .int 3 D kc b (J) S [.ref (kc (100 + i0)), .int x1, .int x2] vr S := by
  refine g_beg_i (by decide) (Nat.le_of_ble_eq_true rfl) ?_
  intro p e s m args below meth c Q C ret hM ls hl
  obtain ⟨hx, hb, hml, hown, hts, hE, hbs⟩ := id C
  have hl : lv_has ls 3 [(0, .ref (kc (100 + i0))), (1, .int x1), (2, .int x2)] := hl
  unfold f_indexOf2 at h
  refine lv_aload_n hx hb dJ0_indexOf_7cf53_0 rfl (lv_at hl 0 rfl) ?_
  refine g_callI (J := J) (m_runVK calV_J0_isLatin1_aae02 wd_498 (g_isLatin1 l D kc b J S i0 hi0 hS rfl) C hM (st_O C hi0) hl.1 rfl rfl (Nat.le_of_ble_eq_true rfl) dJ0_indexOf_7cf53_1 ⟨Nat.le_of_ble_eq_true rfl, Nat.le_of_ble_eq_true rfl⟩ ⟨Nat.le_of_ble_eq_true rfl, Nat.le_of_ble_eq_true rfl⟩) hM (fun z1_z H locs bz1_z hM hS => ?_)
  refine g_if_eq (tgt := 23) hx hb bz1_z h dJ0_indexOf_7cf53_4 (by decide) (fun h => ?_) (fun h => ?_)
  · exact absurd (h : none = some _) (fun q => nomatch q)
  · refine lv_aload_n hx hb dJ0_indexOf_7cf53_7 rfl (lv_at hl 0 rfl) ?_
    refine g_stvalue C hM hi0 wd_1486 dJ0_indexOf_7cf53_8 ?_
    refine lv_iload_n hx hb dJ0_indexOf_7cf53_11 rfl (lv_at hl 1 rfl) ?_
    refine lv_iload_n hx hb dJ0_indexOf_7cf53_12 rfl (lv_at hl 2 rfl) ?_
    refine lv_aload_n hx hb dJ0_indexOf_7cf53_13 rfl (lv_at hl 0 rfl) ?_
    refine g_callI (J := J) (m_runVK calV_J0_length_8abf5 wd_504 (g_length l D kc b J S i0 hi0 hS rfl) C hM (st_O C hi0) hl.1 rfl rfl (Nat.le_of_ble_eq_true rfl) dJ0_indexOf_7cf53_14 ⟨Nat.le_of_ble_eq_true rfl, Nat.le_of_ble_eq_true rfl⟩ ⟨Nat.le_of_ble_eq_true rfl, Nat.le_of_ble_eq_true rfl⟩) hM (fun z2_z H locs bz2_z hM hS => ?_)
    obtain ⟨r3_z, cr3_z, h⟩ := w_b1E h
    refine g_callI (J := J) (m_runS calS_J1_indexOf_4cfef wd_512 (g_l1indexOf l D kc b J S i0 hi0 x1 v1 hx1 x2 v2 hx2 z2_z (f_length S i0) bz2_z hS cr3_z) C hM hl.1 rfl rfl (Nat.le_of_ble_eq_true rfl) dJ0_indexOf_7cf53_17 ⟨Nat.le_of_ble_eq_true rfl, Nat.le_of_ble_eq_true rfl⟩ ⟨Nat.le_of_ble_eq_true rfl, Nat.le_of_ble_eq_true rfl⟩) hM (fun z4_z H locs bz4_z hM hS => ?_)
    refine lv_goto (tgt := 36) hx hb dJ0_indexOf_7cf53_20 (by decide) ?_
    exact ret S _ _ _ _ z4_z (bz4_z.trans (Option.some.inj h)) rfl hM hS dJ0_indexOf_7cf53_36

def f_indexOf (S : SS) (i0 : Nat) (v1 : Int) : Option Int := w_b1 (f_indexOf2 S i0 v1 0) (fun r1_z => some r1_z)
set_option maxHeartbeats 4000000 in
set_option maxRecDepth 100000 in
theorem g_indexOf (l : Launch) (D : va_G) (kc : Nat → ClassId) (b : Nat) (J : SS → Nat → va_E) (S : SS) (i0 : Nat) (hi0 : i0 < 13) (x1 : Int32) (v1 : Int) (hx1 : x1.toInt = v1) (hS : rng S) {vr : Int} (h : f_indexOf S i0 v1 = some vr) : cI l yJ0_indexOf_0f7a4 cJ0_indexOf_0f7a4 2 .int 4 D kc b (J) S [.ref (kc (100 + i0)), .int x1] vr S := by
  refine g_beg_i (by decide) (Nat.le_of_ble_eq_true rfl) ?_
  intro p e s m args below meth c Q C ret hM ls hl
  obtain ⟨hx, hb, hml, hown, hts, hE, hbs⟩ := id C
  have hl : lv_has ls 2 [(0, .ref (kc (100 + i0))), (1, .int x1)] := hl
  unfold f_indexOf at h
  refine lv_aload_n hx hb dJ0_indexOf_0f7a4_0 rfl (lv_at hl 0 rfl) ?_
  refine lv_iload_n hx hb dJ0_indexOf_0f7a4_1 rfl (lv_at hl 1 rfl) ?_
  refine lv_iconst (v := 0) hx hb dJ0_indexOf_0f7a4_2 (by decide) ?_
  obtain ⟨r1_z, cr1_z, h⟩ := w_b1E h
  refine g_callI (J := J) (m_runVK calV_J0_indexOf_7cf53 wd_494 (g_indexOf2 l D kc b J S i0 hi0 x1 v1 hx1 0 0 (show (0 : Int32).toInt = 0 by decide) hS cr1_z) C hM (st_O C hi0) hl.1 rfl rfl (Nat.le_of_ble_eq_true rfl) dJ0_indexOf_0f7a4_3 ⟨Nat.le_of_ble_eq_true rfl, Nat.le_of_ble_eq_true rfl⟩ ⟨Nat.le_of_ble_eq_true rfl, Nat.le_of_ble_eq_true rfl⟩) hM (fun z2_z H locs bz2_z hM hS => ?_)
  exact ret S _ _ _ _ z2_z (bz2_z.trans (Option.some.inj h)) rfl hM hS dJ0_indexOf_0f7a4_6

def f_bitCount (S : SS) (v0 : Int) : Option Int := w_chk (i32 (v0 - (andi (ushri v0 1) 1431655765))) (w_chk (i32 ((andi (v0 - (andi (ushri v0 1) 1431655765)) 858993459) + (andi (ushri (v0 - (andi (ushri v0 1) 1431655765)) 2) 858993459))) (w_chk (i32 (((andi (v0 - (andi (ushri v0 1) 1431655765)) 858993459) + (andi (ushri (v0 - (andi (ushri v0 1) 1431655765)) 2) 858993459)) + (ushri ((andi (v0 - (andi (ushri v0 1) 1431655765)) 858993459) + (andi (ushri (v0 - (andi (ushri v0 1) 1431655765)) 2) 858993459)) 4))) (w_chk (i32 ((andi (((andi (v0 - (andi (ushri v0 1) 1431655765)) 858993459) + (andi (ushri (v0 - (andi (ushri v0 1) 1431655765)) 2) 858993459)) + (ushri ((andi (v0 - (andi (ushri v0 1) 1431655765)) 858993459) + (andi (ushri (v0 - (andi (ushri v0 1) 1431655765)) 2) 858993459)) 4)) 252645135) + (ushri (andi (((andi (v0 - (andi (ushri v0 1) 1431655765)) 858993459) + (andi (ushri (v0 - (andi (ushri v0 1) 1431655765)) 2) 858993459)) + (ushri ((andi (v0 - (andi (ushri v0 1) 1431655765)) 858993459) + (andi (ushri (v0 - (andi (ushri v0 1) 1431655765)) 2) 858993459)) 4)) 252645135) 8))) (w_chk (i32 (((andi (((andi (v0 - (andi (ushri v0 1) 1431655765)) 858993459) + (andi (ushri (v0 - (andi (ushri v0 1) 1431655765)) 2) 858993459)) + (ushri ((andi (v0 - (andi (ushri v0 1) 1431655765)) 858993459) + (andi (ushri (v0 - (andi (ushri v0 1) 1431655765)) 2) 858993459)) 4)) 252645135) + (ushri (andi (((andi (v0 - (andi (ushri v0 1) 1431655765)) 858993459) + (andi (ushri (v0 - (andi (ushri v0 1) 1431655765)) 2) 858993459)) + (ushri ((andi (v0 - (andi (ushri v0 1) 1431655765)) 858993459) + (andi (ushri (v0 - (andi (ushri v0 1) 1431655765)) 2) 858993459)) 4)) 252645135) 8)) + (ushri ((andi (((andi (v0 - (andi (ushri v0 1) 1431655765)) 858993459) + (andi (ushri (v0 - (andi (ushri v0 1) 1431655765)) 2) 858993459)) + (ushri ((andi (v0 - (andi (ushri v0 1) 1431655765)) 858993459) + (andi (ushri (v0 - (andi (ushri v0 1) 1431655765)) 2) 858993459)) 4)) 252645135) + (ushri (andi (((andi (v0 - (andi (ushri v0 1) 1431655765)) 858993459) + (andi (ushri (v0 - (andi (ushri v0 1) 1431655765)) 2) 858993459)) + (ushri ((andi (v0 - (andi (ushri v0 1) 1431655765)) 858993459) + (andi (ushri (v0 - (andi (ushri v0 1) 1431655765)) 2) 858993459)) 4)) 252645135) 8)) 16))) (some (andi (((andi (((andi (v0 - (andi (ushri v0 1) 1431655765)) 858993459) + (andi (ushri (v0 - (andi (ushri v0 1) 1431655765)) 2) 858993459)) + (ushri ((andi (v0 - (andi (ushri v0 1) 1431655765)) 858993459) + (andi (ushri (v0 - (andi (ushri v0 1) 1431655765)) 2) 858993459)) 4)) 252645135) + (ushri (andi (((andi (v0 - (andi (ushri v0 1) 1431655765)) 858993459) + (andi (ushri (v0 - (andi (ushri v0 1) 1431655765)) 2) 858993459)) + (ushri ((andi (v0 - (andi (ushri v0 1) 1431655765)) 858993459) + (andi (ushri (v0 - (andi (ushri v0 1) 1431655765)) 2) 858993459)) 4)) 252645135) 8)) + (ushri ((andi (((andi (v0 - (andi (ushri v0 1) 1431655765)) 858993459) + (andi (ushri (v0 - (andi (ushri v0 1) 1431655765)) 2) 858993459)) + (ushri ((andi (v0 - (andi (ushri v0 1) 1431655765)) 858993459) + (andi (ushri (v0 - (andi (ushri v0 1) 1431655765)) 2) 858993459)) 4)) 252645135) + (ushri (andi (((andi (v0 - (andi (ushri v0 1) 1431655765)) 858993459) + (andi (ushri (v0 - (andi (ushri v0 1) 1431655765)) 2) 858993459)) + (ushri ((andi (v0 - (andi (ushri v0 1) 1431655765)) 858993459) + (andi (ushri (v0 - (andi (ushri v0 1) 1431655765)) 2) 858993459)) 4)) 252645135) 8)) 16)) 63))))))
set_option maxHeartbeats 4000000 in
set_option maxRecDepth 100000 in
theorem g_bitCount (l : Launch) (D : va_G) (kc : Nat → ClassId) (b : Nat) (J : SS → Nat → va_E) (S : SS) (x0 : Int32) (v0 : Int) (hx0 : x0.toInt = v0) (hS : rng S) {vr : Int} (h : f_bitCount S v0 = some vr) : cI l yJ6_bitCount_0f7a4 cJ6_bitCount_0f7a4 1 .int 1 D kc b (J) S [.int x0] vr S := by
  refine g_beg_i (by decide) (Nat.le_of_ble_eq_true rfl) ?_
  intro p e s m args below meth c Q C ret hM ls hl
  obtain ⟨hx, hb, hml, hown, hts, hE, hbs⟩ := id C
  have hl : lv_has ls 1 [(0, .int x0)] := hl
  unfold f_bitCount at h
  refine lv_iload_n hx hb dJ6_bitCount_0f7a4_0 rfl (lv_at hl 0 rfl) ?_
  refine lv_iload_n hx hb dJ6_bitCount_0f7a4_1 rfl (lv_at hl 0 rfl) ?_
  refine lv_iconst (v := 1) hx hb dJ6_bitCount_0f7a4_2 (by decide) ?_
  refine g_iushr hx hb hx0 (show (1 : Int32).toInt = 1 by decide) dJ6_bitCount_0f7a4_3 (fun z1_z bz1_z => ?_)
  refine lv_ldcw (v := 1431655765) hx hb hown (hts _ wd_908) dJ6_bitCount_0f7a4_4 ?_
  refine g_iand hx hb bz1_z (show (1431655765 : Int32).toInt = 1431655765 by decide) dJ6_bitCount_0f7a4_7 (fun z2_z bz2_z => ?_)
  refine g_isub hx hb hx0 bz2_z h dJ6_bitCount_0f7a4_8 (fun z3_z bz3_z h => ?_)
  refine lv_istore_n (lv' := [(0, .int z3_z)]) hx hb dJ6_bitCount_0f7a4_9 rfl hl (by decide) rfl (fun ls hl => ?_)
  refine lv_iload_n hx hb dJ6_bitCount_0f7a4_10 rfl (lv_at hl 0 rfl) ?_
  refine lv_ldcw (v := 858993459) hx hb hown (hts _ wd_909) dJ6_bitCount_0f7a4_11 ?_
  refine g_iand hx hb bz3_z (show (858993459 : Int32).toInt = 858993459 by decide) dJ6_bitCount_0f7a4_14 (fun z4_z bz4_z => ?_)
  refine lv_iload_n hx hb dJ6_bitCount_0f7a4_15 rfl (lv_at hl 0 rfl) ?_
  refine lv_iconst (v := 2) hx hb dJ6_bitCount_0f7a4_16 (by decide) ?_
  refine g_iushr hx hb bz3_z (show (2 : Int32).toInt = 2 by decide) dJ6_bitCount_0f7a4_17 (fun z5_z bz5_z => ?_)
  refine lv_ldcw (v := 858993459) hx hb hown (hts _ wd_909) dJ6_bitCount_0f7a4_18 ?_
  refine g_iand hx hb bz5_z (show (858993459 : Int32).toInt = 858993459 by decide) dJ6_bitCount_0f7a4_21 (fun z6_z bz6_z => ?_)
  refine g_iadd hx hb bz4_z bz6_z h dJ6_bitCount_0f7a4_22 (fun z7_z bz7_z h => ?_)
  refine lv_istore_n (lv' := [(0, .int z7_z)]) hx hb dJ6_bitCount_0f7a4_23 rfl hl (by decide) rfl (fun ls hl => ?_)
  refine lv_iload_n hx hb dJ6_bitCount_0f7a4_24 rfl (lv_at hl 0 rfl) ?_
  refine lv_iload_n hx hb dJ6_bitCount_0f7a4_25 rfl (lv_at hl 0 rfl) ?_
  refine lv_iconst (v := 4) hx hb dJ6_bitCount_0f7a4_26 (by decide) ?_
  refine g_iushr hx hb bz7_z (show (4 : Int32).toInt = 4 by decide) dJ6_bitCount_0f7a4_27 (fun z8_z bz8_z => ?_)
  refine g_iadd hx hb bz7_z bz8_z h dJ6_bitCount_0f7a4_28 (fun z9_z bz9_z h => ?_)
  refine lv_ldcw (v := 252645135) hx hb hown (hts _ wd_910) dJ6_bitCount_0f7a4_29 ?_
  refine g_iand hx hb bz9_z (show (252645135 : Int32).toInt = 252645135 by decide) dJ6_bitCount_0f7a4_32 (fun z10_z bz10_z => ?_)
  refine lv_istore_n (lv' := [(0, .int z10_z)]) hx hb dJ6_bitCount_0f7a4_33 rfl hl (by decide) rfl (fun ls hl => ?_)
  refine lv_iload_n hx hb dJ6_bitCount_0f7a4_34 rfl (lv_at hl 0 rfl) ?_
  refine lv_iload_n hx hb dJ6_bitCount_0f7a4_35 rfl (lv_at hl 0 rfl) ?_
  refine lv_bipush (v := 8) hx hb dJ6_bitCount_0f7a4_36 (by decide) ?_
  refine g_iushr hx hb bz10_z (show (8 : Int32).toInt = 8 by decide) dJ6_bitCount_0f7a4_38 (fun z11_z bz11_z => ?_)
  refine g_iadd hx hb bz10_z bz11_z h dJ6_bitCount_0f7a4_39 (fun z12_z bz12_z h => ?_)
  refine lv_istore_n (lv' := [(0, .int z12_z)]) hx hb dJ6_bitCount_0f7a4_40 rfl hl (by decide) rfl (fun ls hl => ?_)
  refine lv_iload_n hx hb dJ6_bitCount_0f7a4_41 rfl (lv_at hl 0 rfl) ?_
  refine lv_iload_n hx hb dJ6_bitCount_0f7a4_42 rfl (lv_at hl 0 rfl) ?_
  refine lv_bipush (v := 16) hx hb dJ6_bitCount_0f7a4_43 (by decide) ?_
  refine g_iushr hx hb bz12_z (show (16 : Int32).toInt = 16 by decide) dJ6_bitCount_0f7a4_45 (fun z13_z bz13_z => ?_)
  refine g_iadd hx hb bz12_z bz13_z h dJ6_bitCount_0f7a4_46 (fun z14_z bz14_z h => ?_)
  refine lv_istore_n (lv' := [(0, .int z14_z)]) hx hb dJ6_bitCount_0f7a4_47 rfl hl (by decide) rfl (fun ls hl => ?_)
  refine lv_iload_n hx hb dJ6_bitCount_0f7a4_48 rfl (lv_at hl 0 rfl) ?_
  refine lv_bipush (v := 63) hx hb dJ6_bitCount_0f7a4_49 (by decide) ?_
  refine g_iand hx hb bz14_z (show (63 : Int32).toInt = 63 by decide) dJ6_bitCount_0f7a4_51 (fun z15_z bz15_z => ?_)
  exact ret S _ _ _ _ z15_z (bz15_z.trans (Option.some.inj h)) rfl hM hS dJ6_bitCount_0f7a4_52
