def f_Setter_takenAt (S : SS) (v1 : Int) : Option (Option Nat) := (if v1 < 0 then some none else (if gi S 178 2 ≤ v1 then some none else (if v1 < 40 then w_chk (0 ≤ v1 ∧ v1 < 40) (w_lt (gq S 179 (v1).toNat) (fun o3_z => some o3_z)) else some none)))
set_option maxHeartbeats 4000000 in
set_option maxRecDepth 100000 in
theorem g_Setter_takenAt (l : Launch) (D : va_G) (kc : Nat → ClassId) (b : Nat) (T S : SS) (x1 : Int32) (v1 : Int) (hx1 : x1.toInt = v1) (hS : rng S) {vr : Option Nat} (h : f_Setter_takenAt S v1 = some vr) : cQ l yX7_takenAt cX7_takenAt 2 (.object "MarkedProof$Mark") 1 D kc b (jX b kc T) S [.ref (b + 178), .int x1] (om b vr) S := by
  refine g_beg_q (by decide) (Nat.le_of_ble_eq_true rfl) ?_
  intro p e s m args below meth c Q C ret hM ls hl
  obtain ⟨hx, hb, hml, hown, hts, hE, hbs⟩ := id C
  have hl : lv_has ls 2 [(0, .ref (b + 178)), (1, .int x1)] := hl
  unfold f_Setter_takenAt at h
  refine lv_iload_n hx hb dX7_takenAt_0 rfl (lv_at hl 1 rfl) ?_
  refine g_if_lt (tgt := 21) hx hb hx1 h dX7_takenAt_1 (by decide) (fun h => ?_) (fun h => ?_)
  · refine lv_null hx hb dX7_takenAt_21 ?_
    refine lv_goto (tgt := 31) hx hb dX7_takenAt_22 (by decide) ?_
    exact ret S _ _ _ _ (om b none) (by rw [(Option.some.inj h)]) rfl hM hS dX7_takenAt_31
  · refine lv_iload_n hx hb dX7_takenAt_4 rfl (lv_at hl 1 rfl) ?_
    refine lv_aload_n hx hb dX7_takenAt_5 rfl (lv_at hl 0 rfl) ?_
    refine g_get fl_X7_21_X7 C hM (i := 178) (r := 178) (by omega) (e_178 b kc T S) rfl hS dX7_takenAt_6 (fun z1_z bz1_z => ?_)
    refine g_icmp_ge (tgt := 21) hx hb hx1 bz1_z h dX7_takenAt_9 (by decide) (fun h => ?_) (fun h => ?_)
    · refine lv_null hx hb dX7_takenAt_21 ?_
      refine lv_goto (tgt := 31) hx hb dX7_takenAt_22 (by decide) ?_
      exact ret S _ _ _ _ (om b none) (by rw [(Option.some.inj h)]) rfl hM hS dX7_takenAt_31
    · refine lv_iload_n hx hb dX7_takenAt_12 rfl (lv_at hl 1 rfl) ?_
      refine lv_aload_n hx hb dX7_takenAt_13 rfl (lv_at hl 0 rfl) ?_
      refine m_get fl_X7_11_X7 C hM (i := 178) (by omega) (e_178 b kc T S) (v := .ref (b + 179)) rfl dX7_takenAt_14 ?_
      refine m_alen C hM (j := 179) (by omega) 4 (e_179 b kc T S) rfl (v := 40) rfl dX7_takenAt_17 ?_
      refine g_icmp_lt (tgt := 25) hx hb hx1 (show (40 : Int32).toInt = 40 by decide) h dX7_takenAt_18 (by decide) (fun h => ?_) (fun h => ?_)
      · refine lv_aload_n hx hb dX7_takenAt_25 rfl (lv_at hl 0 rfl) ?_
        refine m_get fl_X7_11_X7 C hM (i := 178) (by omega) (e_178 b kc T S) (v := .ref (b + 179)) rfl dX7_takenAt_26 ?_
        refine lv_iload_n hx hb dX7_takenAt_29 rfl (lv_at hl 1 rfl) ?_
        refine g_aald C hM (j := 179) (by omega) (jK_X b kc T (by omega)) (a_179 b kc) hx1 (B := 40) rfl h dX7_takenAt_30 (fun o3_z h => ?_)
        exact ret S _ _ _ _ (om b o3_z) (by rw [(Option.some.inj h)]) rfl hM hS dX7_takenAt_31
      · refine lv_null hx hb dX7_takenAt_21 ?_
        refine lv_goto (tgt := 31) hx hb dX7_takenAt_22 (by decide) ?_
        exact ret S _ _ _ _ (om b none) (by rw [(Option.some.inj h)]) rfl hM hS dX7_takenAt_31

def f_Setter_isOpen (S : SS) (v1 : Int) : Option Int := (if v1 < 0 then some 0 else (if 40 ≤ v1 then some 0 else w_chk (0 ≤ v1 ∧ v1 < 40) ((if gi S 180 (v1).toNat = 0 then some 0 else some 1))))
set_option maxHeartbeats 4000000 in
set_option maxRecDepth 100000 in
theorem g_Setter_isOpen (l : Launch) (D : va_G) (kc : Nat → ClassId) (b : Nat) (T S : SS) (x1 : Int32) (v1 : Int) (hx1 : x1.toInt = v1) (hS : rng S) {vr : Int} (h : f_Setter_isOpen S v1 = some vr) : cI l yX7_isOpen cX7_isOpen 2 .boolean 1 D kc b (jX b kc T) S [.ref (b + 178), .int x1] vr S := by
  refine g_beg_z (by decide) (Nat.le_of_ble_eq_true rfl) ?_
  intro p e s m args below meth c Q C ret hM ls hl
  obtain ⟨hx, hb, hml, hown, hts, hE, hbs⟩ := id C
  have hl : lv_has ls 2 [(0, .ref (b + 178)), (1, .int x1)] := hl
  unfold f_Setter_isOpen at h
  refine lv_iload_n hx hb dX7_isOpen_0 rfl (lv_at hl 1 rfl) ?_
  refine g_if_lt (tgt := 26) hx hb hx1 h dX7_isOpen_1 (by decide) (fun h => ?_) (fun h => ?_)
  · refine lv_iconst (v := 0) hx hb dX7_isOpen_26 (by decide) ?_
    exact ret S _ _ _ _ 0 ((show (0 : Int32).toInt = 0 by decide).trans (Option.some.inj h)) (by rw [← (Option.some.inj h)]; exact (by decide)) rfl hM hS dX7_isOpen_27
  · refine lv_iload_n hx hb dX7_isOpen_4 rfl (lv_at hl 1 rfl) ?_
    refine lv_aload_n hx hb dX7_isOpen_5 rfl (lv_at hl 0 rfl) ?_
    refine m_get fl_X7_17_X7 C hM (i := 178) (by omega) (e_178 b kc T S) (v := .ref (b + 180)) rfl dX7_isOpen_6 ?_
    refine m_alen C hM (j := 180) (by omega) 3 (e_180 b kc T S) rfl (v := 40) rfl dX7_isOpen_9 ?_
    refine g_icmp_ge (tgt := 26) hx hb hx1 (show (40 : Int32).toInt = 40 by decide) h dX7_isOpen_10 (by decide) (fun h => ?_) (fun h => ?_)
    · refine lv_iconst (v := 0) hx hb dX7_isOpen_26 (by decide) ?_
      exact ret S _ _ _ _ 0 ((show (0 : Int32).toInt = 0 by decide).trans (Option.some.inj h)) (by rw [← (Option.some.inj h)]; exact (by decide)) rfl hM hS dX7_isOpen_27
    · refine lv_aload_n hx hb dX7_isOpen_13 rfl (lv_at hl 0 rfl) ?_
      refine m_get fl_X7_17_X7 C hM (i := 178) (by omega) (e_178 b kc T S) (v := .ref (b + 180)) rfl dX7_isOpen_14 ?_
      refine lv_iload_n hx hb dX7_isOpen_17 rfl (lv_at hl 1 rfl) ?_
      refine g_zald C hM (j := 180) (by omega) (jK_X b kc T (by omega)) (a_180 b kc) hS hx1 (B := 40) rfl h dX7_isOpen_18 (fun z1_z bz1_z h => ?_)
      refine g_if_eq (tgt := 26) hx hb bz1_z h dX7_isOpen_19 (by decide) (fun h => ?_) (fun h => ?_)
      · refine lv_iconst (v := 0) hx hb dX7_isOpen_26 (by decide) ?_
        exact ret S _ _ _ _ 0 ((show (0 : Int32).toInt = 0 by decide).trans (Option.some.inj h)) (by rw [← (Option.some.inj h)]; exact (by decide)) rfl hM hS dX7_isOpen_27
      · refine lv_iconst (v := 1) hx hb dX7_isOpen_22 (by decide) ?_
        refine lv_goto (tgt := 27) hx hb dX7_isOpen_23 (by decide) ?_
        exact ret S _ _ _ _ 1 ((show (1 : Int32).toInt = 1 by decide).trans (Option.some.inj h)) (by rw [← (Option.some.inj h)]; exact (by decide)) rfl hM hS dX7_isOpen_27

def f_Setter_mind (S : SS) (v1 : Int) (v2 : Int) : Option SS := (if v1 < 0 then some S else (if 40 ≤ v1 then some S else w_chk (v2 = 0 ∨ v2 = 1) (w_chk (0 ≤ v1 ∧ v1 < 40) (w_lt (si S 180 (v1).toNat v2) (fun S2_z => some S2_z)))))
set_option maxHeartbeats 4000000 in
set_option maxRecDepth 100000 in
theorem g_Setter_mind (l : Launch) (D : va_G) (kc : Nat → ClassId) (b : Nat) (T S : SS) (x1 : Int32) (v1 : Int) (hx1 : x1.toInt = v1) (x2 : Int32) (v2 : Int) (hx2 : x2.toInt = v2) (hS : rng S) {Sr : SS} (h : f_Setter_mind S v1 v2 = some Sr) : cV l yX7_mind cX7_mind 3 1 D kc b (jX b kc T) S [.ref (b + 178), .int x1, .int x2] Sr := by
  refine g_beg_v (by decide) (Nat.le_of_ble_eq_true rfl) ?_
  intro p e s m args below meth c Q C ret hM ls hl
  obtain ⟨hx, hb, hml, hown, hts, hE, hbs⟩ := id C
  have hl : lv_has ls 3 [(0, .ref (b + 178)), (1, .int x1), (2, .int x2)] := hl
  unfold f_Setter_mind at h
  refine lv_iload_n hx hb dX7_mind_0 rfl (lv_at hl 1 rfl) ?_
  refine g_if_lt (tgt := 20) hx hb hx1 h dX7_mind_1 (by decide) (fun h => ?_) (fun h => ?_)
  · exact ret S _ _ _ _ (Option.some.inj h) hM hS dX7_mind_20
  · refine lv_iload_n hx hb dX7_mind_4 rfl (lv_at hl 1 rfl) ?_
    refine lv_aload_n hx hb dX7_mind_5 rfl (lv_at hl 0 rfl) ?_
    refine m_get fl_X7_17_X7 C hM (i := 178) (by omega) (e_178 b kc T S) (v := .ref (b + 180)) rfl dX7_mind_6 ?_
    refine m_alen C hM (j := 180) (by omega) 3 (e_180 b kc T S) rfl (v := 40) rfl dX7_mind_9 ?_
    refine g_icmp_ge (tgt := 20) hx hb hx1 (show (40 : Int32).toInt = 40 by decide) h dX7_mind_10 (by decide) (fun h => ?_) (fun h => ?_)
    · exact ret S _ _ _ _ (Option.some.inj h) hM hS dX7_mind_20
    · refine lv_aload_n hx hb dX7_mind_13 rfl (lv_at hl 0 rfl) ?_
      refine m_get fl_X7_17_X7 C hM (i := 178) (by omega) (e_178 b kc T S) (v := .ref (b + 180)) rfl dX7_mind_14 ?_
      refine lv_iload_n hx hb dX7_mind_17 rfl (lv_at hl 1 rfl) ?_
      refine lv_iload_n hx hb dX7_mind_18 rfl (lv_at hl 2 rfl) ?_
      obtain ⟨c1_z, h⟩ := w_chkE h
      refine g_zast C hM (j := 180) (by omega) (jK_X b kc T (by omega)) (a_180 b kc) hS hx1 hx2 c1_z (B := 40) rfl h dX7_mind_19 (fun S2_z H locs h hM hS => ?_)
      exact ret S2_z _ _ _ _ (Option.some.inj h) hM hS dX7_mind_20

def f_Setter_outermostAt_95 (S : SS) (v1 : Int) (kf7_ : Int → Int → Int → Option Int) (v2_ : Int) (v3_ : Int) (v4_ : Int) : Option Int := w_chk (i32 (v4_ + 1)) (kf7_ v2_ v3_ (v4_ + 1))
def f_Setter_outermostAt_86 (S : SS) (v1 : Int) (kf7_ : Int → Int → Int → Option Int) (v4_ : Int) (j5_ : Nat) : Option Int := f_Setter_outermostAt_95 S v1 kf7_ v4_ (gi S (14 + 4 * j5_) 5) v4_
def f_Setter_outermostAt_7_b (S : SS) (v1 : Int) (kf7_ : Int → Int → Int → Option Int) (v2_ : Int) (v3_ : Int) (v4_ : Int) : Option Int := (if gi S 178 2 ≤ v4_ then some v2_ else w_b1 (f_Setter_takenAt S v4_) (fun o2_z => w_on o2_z (f_Setter_outermostAt_95 S v1 kf7_ v2_ v3_ v4_) (fun j4_z => w_chk (j4_z < 40) (w_b1 (f_Setter_isOpen S v4_) (fun r5_z => (if r5_z = 0 then (if gi S (14 + 4 * j4_z) 2 = 1 then f_Setter_outermostAt_95 S v1 kf7_ v2_ v3_ v4_ else (if gi S (14 + 4 * j4_z) 4 = v1 then (if v3_ < gi S (14 + 4 * j4_z) 5 then f_Setter_outermostAt_86 S v1 kf7_ v4_ j4_z else (if gi S (14 + 4 * j4_z) 5 = v3_ then (if gi S (14 + 4 * j4_z) 2 = 4 then f_Setter_outermostAt_86 S v1 kf7_ v4_ j4_z else f_Setter_outermostAt_95 S v1 kf7_ v2_ v3_ v4_) else f_Setter_outermostAt_95 S v1 kf7_ v2_ v3_ v4_)) else f_Setter_outermostAt_95 S v1 kf7_ v2_ v3_ v4_)) else f_Setter_outermostAt_95 S v1 kf7_ v2_ v3_ v4_))))))
def f_Setter_outermostAt_7 (S : SS) (v1 : Int) : Nat → Int → Int → Int → Option Int
  | 0 => fun _ _ _ => none
  | n + 1 => f_Setter_outermostAt_7_b S v1 (f_Setter_outermostAt_7 S v1 n)
def f_Setter_outermostAt (S : SS) (v1 : Int) : Option Int := f_Setter_outermostAt_7 S v1 FU (-1) (-1) 0
set_option maxHeartbeats 4000000 in
set_option maxRecDepth 100000 in
theorem g_Setter_outermostAt (l : Launch) (D : va_G) (kc : Nat → ClassId) (b : Nat) (T S : SS) (x1 : Int32) (v1 : Int) (hx1 : x1.toInt = v1) (hS : rng S) {vr : Int} (h : f_Setter_outermostAt S v1 = some vr) : cI l yX7_outermostAt cX7_outermostAt 6 .int 2 D kc b (jX b kc T) S [.ref (b + 178), .int x1] vr S := by
  refine g_beg_i (by decide) (Nat.le_of_ble_eq_true rfl) ?_
  intro p e s m args below meth c Q C ret hM ls hl
  obtain ⟨hx, hb, hml, hown, hts, hE, hbs⟩ := id C
  have hl : lv_has ls 6 [(0, .ref (b + 178)), (1, .int x1)] := hl
  unfold f_Setter_outermostAt at h
  have B95 : ∀ (kf7_ : Int → Int → Int → Option Int) (hkf7_ : ∀ (H : Heap) (locs : List Loc) (ls : Array Slot) (x2_ : Int32) (v2_ : Int) (hx2_ : x2_.toInt = v2_) (x3_ : Int32) (v3_ : Int) (hx3_ : x3_.toInt = v3_) (x4_ : Int32) (v4_ : Int) (hx4_ : x4_.toInt = v4_), rng S → mS D b s 220 (jX b kc T S) H locs → lv_has ls 6 [(0, .ref (b + 178)), (1, .int x1), (2, .int x2_), (3, .int x3_), (4, .int x4_)] → kf7_ v2_ v3_ v4_ = some vr → W p l e (mR 2 0 0) s m args below meth c H locs 0 0 Q (F0 m 7 ls [])), ∀ (H : Heap) (locs : List Loc) (ls : Array Slot) (x2_ : Int32) (v2_ : Int) (hx2_ : x2_.toInt = v2_) (x3_ : Int32) (v3_ : Int) (hx3_ : x3_.toInt = v3_) (x4_ : Int32) (v4_ : Int) (hx4_ : x4_.toInt = v4_), rng S → mS D b s 220 (jX b kc T S) H locs → lv_has ls 6 [(0, .ref (b + 178)), (1, .int x1), (2, .int x2_), (3, .int x3_), (4, .int x4_)] → f_Setter_outermostAt_95 S v1 kf7_ v2_ v3_ v4_ = some vr → W p l e (mR 2 0 0) s m args below meth c H locs 0 0 Q (F0 m 95 ls []) := by
    intro kf7_ hkf7_ H locs ls x2_ v2_ hx2_ x3_ v3_ hx3_ x4_ v4_ hx4_ hS hM hl h
    unfold f_Setter_outermostAt_95 at h
    refine g_iinc (y := 1) hx hb hx4_ (by decide) (by decide) h dX7_outermostAt_95 hl (k := 4) rfl (by decide) (fun z1_z ls bz1_z h hl => ?_)
    have hl : lv_has ls 6 [(4, .int z1_z), (0, .ref (b + 178)), (1, .int x1), (2, .int x2_), (3, .int x3_)] := hl
    refine lv_goto (tgt := 7) hx hb dX7_outermostAt_98 (by decide) ?_
    exact hkf7_ _ _ _ x2_ v2_ hx2_ x3_ v3_ hx3_ z1_z (v4_ + 1) bz1_z hS hM (lv_sub hl [1, 2, 3, 4, 0] rfl) h
  have B86 : ∀ (kf7_ : Int → Int → Int → Option Int) (hkf7_ : ∀ (H : Heap) (locs : List Loc) (ls : Array Slot) (x2_ : Int32) (v2_ : Int) (hx2_ : x2_.toInt = v2_) (x3_ : Int32) (v3_ : Int) (hx3_ : x3_.toInt = v3_) (x4_ : Int32) (v4_ : Int) (hx4_ : x4_.toInt = v4_), rng S → mS D b s 220 (jX b kc T S) H locs → lv_has ls 6 [(0, .ref (b + 178)), (1, .int x1), (2, .int x2_), (3, .int x3_), (4, .int x4_)] → kf7_ v2_ v3_ v4_ = some vr → W p l e (mR 2 0 0) s m args below meth c H locs 0 0 Q (F0 m 7 ls [])), ∀ (H : Heap) (locs : List Loc) (ls : Array Slot) (x4_ : Int32) (v4_ : Int) (hx4_ : x4_.toInt = v4_) (j5_ : Nat) (hj5_ : j5_ < 40), rng S → mS D b s 220 (jX b kc T S) H locs → lv_has ls 6 [(0, .ref (b + 178)), (1, .int x1), (4, .int x4_), (5, .ref (b + (14 + 4 * j5_)))] → f_Setter_outermostAt_86 S v1 kf7_ v4_ j5_ = some vr → W p l e (mR 2 0 0) s m args below meth c H locs 0 0 Q (F0 m 86 ls []) := by
    intro kf7_ hkf7_ H locs ls x4_ v4_ hx4_ j5_ hj5_ hS hM hl h
    unfold f_Setter_outermostAt_86 at h
    refine lv_iload hx hb dX7_outermostAt_86 (lv_at hl 2 rfl) ?_
    refine lv_istore_n (lv' := [(2, .int x4_), (0, .ref (b + 178)), (1, .int x1), (4, .int x4_), (5, .ref (b + (14 + 4 * j5_)))]) hx hb dX7_outermostAt_88 rfl hl (by decide) rfl (fun ls hl => ?_)
    refine lv_aload hx hb dX7_outermostAt_89 (lv_at hl 4 rfl) ?_
    refine g_getN fl_X7_92_X3 C hM (i := 14 + 4 * j5_) (r := 14 + 4 * j5_) (by omega) (e_mk b kc T S hj5_) rfl hS dX7_outermostAt_91 (fun z1_z bz1_z => ?_)
    refine lv_istore_n (lv' := [(3, .int z1_z), (2, .int x4_), (0, .ref (b + 178)), (1, .int x1), (4, .int x4_), (5, .ref (b + (14 + 4 * j5_)))]) hx hb dX7_outermostAt_94 rfl hl (by decide) rfl (fun ls hl => ?_)
    exact B95 kf7_ hkf7_ _ _ _ x4_ v4_ hx4_ z1_z (gi S (14 + 4 * j5_) 5) bz1_z x4_ v4_ hx4_ hS hM (lv_sub hl [2, 3, 1, 0, 4] rfl) h
  have B7 : ∀ (n : Nat), ∀ (H : Heap) (locs : List Loc) (ls : Array Slot) (x2_ : Int32) (v2_ : Int) (hx2_ : x2_.toInt = v2_) (x3_ : Int32) (v3_ : Int) (hx3_ : x3_.toInt = v3_) (x4_ : Int32) (v4_ : Int) (hx4_ : x4_.toInt = v4_), rng S → mS D b s 220 (jX b kc T S) H locs → lv_has ls 6 [(0, .ref (b + 178)), (1, .int x1), (2, .int x2_), (3, .int x3_), (4, .int x4_)] → f_Setter_outermostAt_7 S v1 n v2_ v3_ v4_ = some vr → W p l e (mR 2 0 0) s m args below meth c H locs 0 0 Q (F0 m 7 ls []) := by
    intro n
    induction n with
    | zero => intro H locs ls x2_ v2_ hx2_ x3_ v3_ hx3_ x4_ v4_ hx4_ hS hM hl h; exact absurd (h : none = some _) (fun q => nomatch q)
    | succ n hkf7_ =>
      intro H locs ls x2_ v2_ hx2_ x3_ v3_ hx3_ x4_ v4_ hx4_ hS hM hl h
      have h : f_Setter_outermostAt_7_b S v1 (f_Setter_outermostAt_7 S v1 n) v2_ v3_ v4_ = some vr := h
      unfold f_Setter_outermostAt_7_b at h
      refine lv_iload hx hb dX7_outermostAt_7 (lv_at hl 4 rfl) ?_
      refine lv_aload_n hx hb dX7_outermostAt_9 rfl (lv_at hl 0 rfl) ?_
      refine g_get fl_X7_21_X7 C hM (i := 178) (r := 178) (by omega) (e_178 b kc T S) rfl hS dX7_outermostAt_10 (fun z1_z bz1_z => ?_)
      refine g_icmp_ge (tgt := 101) hx hb hx4_ bz1_z h dX7_outermostAt_13 (by decide) (fun h => ?_) (fun h => ?_)
      · refine lv_iload_n hx hb dX7_outermostAt_101 rfl (lv_at hl 2 rfl) ?_
        exact ret S _ _ _ _ x2_ (hx2_.trans (Option.some.inj h)) rfl hM hS dX7_outermostAt_102
      · refine lv_aload_n hx hb dX7_outermostAt_16 rfl (lv_at hl 0 rfl) ?_
        refine lv_iload hx hb dX7_outermostAt_17 (lv_at hl 4 rfl) ?_
        obtain ⟨o2_z, co2_z, h⟩ := w_b1E h
        refine g_callQ (J := jX b kc T) (m_runV calV_X7_takenAt wd_668 (g_Setter_takenAt l D kc b T S x4_ v4_ hx4_ hS co2_z) C hM (i := 178) (by omega) (e_178 b kc T S) rfl hl.1 rfl rfl (Nat.le_of_ble_eq_true rfl) dX7_outermostAt_19 ⟨Nat.le_of_ble_eq_true rfl, Nat.le_of_ble_eq_true rfl⟩ ⟨Nat.le_of_ble_eq_true rfl, Nat.le_of_ble_eq_true rfl⟩) hM (fun z3_z H locs bz3_z hM hS => ?_)
        subst bz3_z
        refine lv_astoreq (lv' := [(5, va_rf (om b o2_z)), (0, .ref (b + 178)), (1, .int x1), (2, .int x2_), (3, .int x3_), (4, .int x4_)]) hx hb dX7_outermostAt_22 hl (by decide) rfl (fun ls hl => ?_)
        refine lv_aloadq hx hb dX7_outermostAt_24 (lv_at hl 0 rfl) ?_
        cases o2_z with
        | none =>
          replace h := w_onN h
          have hl : lv_has ls 6 [(5, .null), (0, .ref (b + 178)), (1, .int x1), (2, .int x2_), (3, .int x3_), (4, .int x4_)] := hl
          refine lv_ifnullN (tgt := 95) hx hb dX7_outermostAt_26 (by decide) ?_
          exact B95 (f_Setter_outermostAt_7 S v1 n) hkf7_ _ _ _ x2_ v2_ hx2_ x3_ v3_ hx3_ x4_ v4_ hx4_ hS hM (lv_sub hl [1, 2, 3, 4, 5] rfl) h
        | some j4_z =>
          obtain ⟨hj4_z, h⟩ := w_chkE (w_onS h)
          have hl : lv_has ls 6 [(5, .ref (b + (14 + 4 * j4_z))), (0, .ref (b + 178)), (1, .int x1), (2, .int x2_), (3, .int x3_), (4, .int x4_)] := hl
          refine lv_ifnull hx hb dX7_outermostAt_26 ?_
          refine lv_aload_n hx hb dX7_outermostAt_29 rfl (lv_at hl 1 rfl) ?_
          refine lv_iload hx hb dX7_outermostAt_30 (lv_at hl 5 rfl) ?_
          obtain ⟨r5_z, cr5_z, h⟩ := w_b1E h
          refine g_callI (J := jX b kc T) (m_runV calV_X7_isOpen wd_672 (g_Setter_isOpen l D kc b T S x4_ v4_ hx4_ hS cr5_z) C hM (i := 178) (by omega) (e_178 b kc T S) rfl hl.1 rfl rfl (Nat.le_of_ble_eq_true rfl) dX7_outermostAt_32 ⟨Nat.le_of_ble_eq_true rfl, Nat.le_of_ble_eq_true rfl⟩ ⟨Nat.le_of_ble_eq_true rfl, Nat.le_of_ble_eq_true rfl⟩) hM (fun z6_z H locs bz6_z hM hS => ?_)
          refine g_if_ne (tgt := 95) hx hb bz6_z h dX7_outermostAt_35 (by decide) (fun h => ?_) (fun h => ?_)
          · exact B95 (f_Setter_outermostAt_7 S v1 n) hkf7_ _ _ _ x2_ v2_ hx2_ x3_ v3_ hx3_ x4_ v4_ hx4_ hS hM (lv_sub hl [1, 2, 3, 4, 5] rfl) h
          · refine lv_aload hx hb dX7_outermostAt_38 (lv_at hl 0 rfl) ?_
            refine g_getN fl_X7_75_X3 C hM (i := 14 + 4 * j4_z) (r := 14 + 4 * j4_z) (by omega) (e_mk b kc T S hj4_z) rfl hS dX7_outermostAt_40 (fun z7_z bz7_z => ?_)
            refine lv_iconst (v := 1) hx hb dX7_outermostAt_43 (by decide) ?_
            refine g_icmp_eq (tgt := 95) hx hb bz7_z (show (1 : Int32).toInt = 1 by decide) h dX7_outermostAt_44 (by decide) (fun h => ?_) (fun h => ?_)
            · exact B95 (f_Setter_outermostAt_7 S v1 n) hkf7_ _ _ _ x2_ v2_ hx2_ x3_ v3_ hx3_ x4_ v4_ hx4_ hS hM (lv_sub hl [1, 2, 3, 4, 5] rfl) h
            · refine lv_aload hx hb dX7_outermostAt_47 (lv_at hl 0 rfl) ?_
              refine g_getN fl_X7_89_X3 C hM (i := 14 + 4 * j4_z) (r := 14 + 4 * j4_z) (by omega) (e_mk b kc T S hj4_z) rfl hS dX7_outermostAt_49 (fun z8_z bz8_z => ?_)
              refine lv_iload_n hx hb dX7_outermostAt_52 rfl (lv_at hl 2 rfl) ?_
              refine g_icmp_eq (tgt := 59) hx hb bz8_z hx1 h dX7_outermostAt_53 (by decide) (fun h => ?_) (fun h => ?_)
              · refine lv_aload hx hb dX7_outermostAt_59 (lv_at hl 0 rfl) ?_
                refine g_getN fl_X7_92_X3 C hM (i := 14 + 4 * j4_z) (r := 14 + 4 * j4_z) (by omega) (e_mk b kc T S hj4_z) rfl hS dX7_outermostAt_61 (fun z9_z bz9_z => ?_)
                refine lv_iload_n hx hb dX7_outermostAt_64 rfl (lv_at hl 4 rfl) ?_
                refine g_icmp_gt (tgt := 86) hx hb bz9_z hx3_ h dX7_outermostAt_65 (by decide) (fun h => ?_) (fun h => ?_)
                · exact B86 (f_Setter_outermostAt_7 S v1 n) hkf7_ _ _ _ x4_ v4_ hx4_ j4_z hj4_z hS hM (lv_sub hl [1, 2, 5, 0] rfl) h
                · refine lv_aload hx hb dX7_outermostAt_68 (lv_at hl 0 rfl) ?_
                  refine g_getN fl_X7_92_X3 C hM (i := 14 + 4 * j4_z) (r := 14 + 4 * j4_z) (by omega) (e_mk b kc T S hj4_z) rfl hS dX7_outermostAt_70 (fun z10_z bz10_z => ?_)
                  refine lv_iload_n hx hb dX7_outermostAt_73 rfl (lv_at hl 4 rfl) ?_
                  refine g_icmp_ne (tgt := 95) hx hb bz10_z hx3_ h dX7_outermostAt_74 (by decide) (fun h => ?_) (fun h => ?_)
                  · exact B95 (f_Setter_outermostAt_7 S v1 n) hkf7_ _ _ _ x2_ v2_ hx2_ x3_ v3_ hx3_ x4_ v4_ hx4_ hS hM (lv_sub hl [1, 2, 3, 4, 5] rfl) h
                  · refine lv_aload hx hb dX7_outermostAt_77 (lv_at hl 0 rfl) ?_
                    refine g_getN fl_X7_75_X3 C hM (i := 14 + 4 * j4_z) (r := 14 + 4 * j4_z) (by omega) (e_mk b kc T S hj4_z) rfl hS dX7_outermostAt_79 (fun z11_z bz11_z => ?_)
                    refine lv_iconst (v := 4) hx hb dX7_outermostAt_82 (by decide) ?_
                    refine g_icmp_ne (tgt := 95) hx hb bz11_z (show (4 : Int32).toInt = 4 by decide) h dX7_outermostAt_83 (by decide) (fun h => ?_) (fun h => ?_)
                    · exact B95 (f_Setter_outermostAt_7 S v1 n) hkf7_ _ _ _ x2_ v2_ hx2_ x3_ v3_ hx3_ x4_ v4_ hx4_ hS hM (lv_sub hl [1, 2, 3, 4, 5] rfl) h
                    · exact B86 (f_Setter_outermostAt_7 S v1 n) hkf7_ _ _ _ x4_ v4_ hx4_ j4_z hj4_z hS hM (lv_sub hl [1, 2, 5, 0] rfl) h
              · refine lv_goto (tgt := 95) hx hb dX7_outermostAt_56 (by decide) ?_
                exact B95 (f_Setter_outermostAt_7 S v1 n) hkf7_ _ _ _ x2_ v2_ hx2_ x3_ v3_ hx3_ x4_ v4_ hx4_ hS hM (lv_sub hl [1, 2, 3, 4, 5] rfl) h
  refine lv_iconst (v := (-1)) hx hb dX7_outermostAt_0 (by decide) ?_
  refine lv_istore_n (lv' := [(2, .int (-1)), (0, .ref (b + 178)), (1, .int x1)]) hx hb dX7_outermostAt_1 rfl hl (by decide) rfl (fun ls hl => ?_)
  refine lv_iconst (v := (-1)) hx hb dX7_outermostAt_2 (by decide) ?_
  refine lv_istore_n (lv' := [(3, .int (-1)), (2, .int (-1)), (0, .ref (b + 178)), (1, .int x1)]) hx hb dX7_outermostAt_3 rfl hl (by decide) rfl (fun ls hl => ?_)
  refine lv_iconst (v := 0) hx hb dX7_outermostAt_4 (by decide) ?_
  refine lv_istore (lv' := [(4, .int 0), (3, .int (-1)), (2, .int (-1)), (0, .ref (b + 178)), (1, .int x1)]) hx hb dX7_outermostAt_5 hl (by decide) rfl (fun ls hl => ?_)
  exact B7 FU _ _ _ (-1) (-1) (show ((-1) : Int32).toInt = (-1) by decide) (-1) (-1) (show ((-1) : Int32).toInt = (-1) by decide) 0 0 (show (0 : Int32).toInt = 0 by decide) hS hM (lv_sub hl [3, 4, 2, 1, 0] rfl) h

def f_Setter_takeDone_101 (v2 : Int) (kf7_ : SS → Int → Option SS) (S : SS) (v3_ : Int) : Option SS := w_chk (i32 (v3_ + 1)) (kf7_ S (v3_ + 1))
def f_Setter_takeDone_35 (v2 : Int) (kf7_ : SS → Int → Option SS) (S : SS) (v3_ : Int) (vt0_ : Int) : Option SS := w_b1 (f_Pile_doneNumber S v3_) (fun r1_z => w_b1 (f_Pile_find S r1_z) (fun o3_z => (if vt0_ = 0 then w_on o3_z (f_Setter_takeDone_101 v2 kf7_ S v3_) (fun j5_z => w_chk (j5_z < 40) ((if 40 ≤ gi S 178 2 then f_Setter_takeDone_101 v2 kf7_ S v3_ else w_chk (0 ≤ (gi S 178 2) ∧ (gi S 178 2) < 40) (w_lt (sq S 179 (gi S 178 2).toNat (some j5_z)) (fun S8_z => w_chk (0 ≤ (gi S8_z 178 2) ∧ (gi S8_z 178 2) < 40) (w_lt (si S8_z 180 (gi S8_z 178 2).toNat 0) (fun S10_z => w_chk (i32 ((gi S10_z 178 2) + 1)) (w_lt (si S10_z 178 2 ((gi S10_z 178 2) + 1)) (fun S13_z => f_Setter_takeDone_101 v2 kf7_ S13_z v3_))))))))) else f_Setter_takeDone_101 v2 kf7_ S v3_)))
def f_Setter_takeDone_34 (v2 : Int) (kf7_ : SS → Int → Option SS) (S : SS) (v3_ : Int) : Option SS := f_Setter_takeDone_35 v2 kf7_ S v3_ 0
def f_Setter_takeDone_7_b (v2 : Int) (kf7_ : SS → Int → Option SS) (S : SS) (v3_ : Int) : Option SS := (if gi S 10 5 ≤ v3_ then some S else (if 8 ≤ v3_ then f_Setter_takeDone_34 v2 kf7_ S v3_ else (if andi (shri v2 v3_) 1 = 1 then f_Setter_takeDone_35 v2 kf7_ S v3_ 1 else f_Setter_takeDone_34 v2 kf7_ S v3_)))
def f_Setter_takeDone_7 (v2 : Int) : Nat → SS → Int → Option SS
  | 0 => fun _ _ => none
  | n + 1 => f_Setter_takeDone_7_b v2 (f_Setter_takeDone_7 v2 n)
def f_Setter_takeDone (S : SS) (v2 : Int) : Option SS := w_lt (si S 178 2 0) (fun S1_z => f_Setter_takeDone_7 v2 FU S1_z 0)
set_option maxHeartbeats 4000000 in
set_option maxRecDepth 100000 in
theorem g_Setter_takeDone (l : Launch) (D : va_G) (kc : Nat → ClassId) (b : Nat) (T S : SS) (x2 : Int32) (v2 : Int) (hx2 : x2.toInt = v2) (hS : rng S) {Sr : SS} (h : f_Setter_takeDone S v2 = some Sr) : cV l yX7_takeDone cX7_takeDone 6 3 D kc b (jX b kc T) S [.ref (b + 178), .ref (b + 10), .int x2] Sr := by
  refine g_beg_v (by decide) (Nat.le_of_ble_eq_true rfl) ?_
  intro p e s m args below meth c Q C ret hM ls hl
  obtain ⟨hx, hb, hml, hown, hts, hE, hbs⟩ := id C
  have hl : lv_has ls 6 [(0, .ref (b + 178)), (1, .ref (b + 10)), (2, .int x2)] := hl
  unfold f_Setter_takeDone at h
  have B101 : ∀ (kf7_ : SS → Int → Option SS) (hkf7_ : ∀ (S : SS) (H : Heap) (locs : List Loc) (ls : Array Slot) (x3_ : Int32) (v3_ : Int) (hx3_ : x3_.toInt = v3_), rng S → mS D b s 220 (jX b kc T S) H locs → lv_has ls 6 [(0, .ref (b + 178)), (1, .ref (b + 10)), (2, .int x2), (3, .int x3_)] → kf7_ S v3_ = some Sr → W p l e (mR 3 0 0) s m args below meth c H locs 0 0 Q (F0 m 7 ls [])), ∀ (S : SS) (H : Heap) (locs : List Loc) (ls : Array Slot) (x3_ : Int32) (v3_ : Int) (hx3_ : x3_.toInt = v3_), rng S → mS D b s 220 (jX b kc T S) H locs → lv_has ls 6 [(0, .ref (b + 178)), (1, .ref (b + 10)), (2, .int x2), (3, .int x3_)] → f_Setter_takeDone_101 v2 kf7_ S v3_ = some Sr → W p l e (mR 3 0 0) s m args below meth c H locs 0 0 Q (F0 m 101 ls []) := by
    intro kf7_ hkf7_ S H locs ls x3_ v3_ hx3_ hS hM hl h
    unfold f_Setter_takeDone_101 at h
    refine g_iinc (y := 1) hx hb hx3_ (by decide) (by decide) h dX7_takeDone_101 hl (k := 3) rfl (by decide) (fun z1_z ls bz1_z h hl => ?_)
    have hl : lv_has ls 6 [(3, .int z1_z), (0, .ref (b + 178)), (1, .ref (b + 10)), (2, .int x2)] := hl
    refine lv_goto (tgt := 7) hx hb dX7_takeDone_104 (by decide) ?_
    exact hkf7_ S _ _ _ z1_z (v3_ + 1) bz1_z hS hM (lv_sub hl [1, 2, 3, 0] rfl) h
  have B35 : ∀ (kf7_ : SS → Int → Option SS) (hkf7_ : ∀ (S : SS) (H : Heap) (locs : List Loc) (ls : Array Slot) (x3_ : Int32) (v3_ : Int) (hx3_ : x3_.toInt = v3_), rng S → mS D b s 220 (jX b kc T S) H locs → lv_has ls 6 [(0, .ref (b + 178)), (1, .ref (b + 10)), (2, .int x2), (3, .int x3_)] → kf7_ S v3_ = some Sr → W p l e (mR 3 0 0) s m args below meth c H locs 0 0 Q (F0 m 7 ls [])), ∀ (S : SS) (H : Heap) (locs : List Loc) (ls : Array Slot) (x3_ : Int32) (v3_ : Int) (hx3_ : x3_.toInt = v3_) (xt0_ : Int32) (vt0_ : Int) (hxt0_ : xt0_.toInt = vt0_), rng S → mS D b s 220 (jX b kc T S) H locs → lv_has ls 6 [(0, .ref (b + 178)), (1, .ref (b + 10)), (2, .int x2), (3, .int x3_)] → f_Setter_takeDone_35 v2 kf7_ S v3_ vt0_ = some Sr → W p l e (mR 3 0 0) s m args below meth c H locs 0 0 Q (F0 m 35 ls [.int xt0_]) := by
    intro kf7_ hkf7_ S H locs ls x3_ v3_ hx3_ xt0_ vt0_ hxt0_ hS hM hl h
    unfold f_Setter_takeDone_35 at h
    refine lv_istore (lv' := [(4, .int xt0_), (0, .ref (b + 178)), (1, .ref (b + 10)), (2, .int x2), (3, .int x3_)]) hx hb dX7_takeDone_35 hl (by decide) rfl (fun ls hl => ?_)
    refine lv_aload_n hx hb dX7_takeDone_37 rfl (lv_at hl 2 rfl) ?_
    refine lv_aload_n hx hb dX7_takeDone_38 rfl (lv_at hl 2 rfl) ?_
    refine lv_iload_n hx hb dX7_takeDone_39 rfl (lv_at hl 4 rfl) ?_
    obtain ⟨r1_z, cr1_z, h⟩ := w_b1E h
    refine g_callI (J := jX b kc T) (m_runV calV_X5_doneNumber wd_654 (g_Pile_doneNumber l D kc b T S x3_ v3_ hx3_ hS cr1_z) C hM (i := 10) (by omega) (e_10 b kc T S) rfl hl.1 rfl rfl (Nat.le_of_ble_eq_true rfl) dX7_takeDone_40 ⟨Nat.le_of_ble_eq_true rfl, Nat.le_of_ble_eq_true rfl⟩ ⟨Nat.le_of_ble_eq_true rfl, Nat.le_of_ble_eq_true rfl⟩) hM (fun z2_z H locs bz2_z hM hS => ?_)
    obtain ⟨o3_z, co3_z, h⟩ := w_b1E h
    refine g_callQ (J := jX b kc T) (m_runV calV_X5_find wd_658 (g_Pile_find l D kc b T S z2_z r1_z bz2_z hS co3_z) C hM (i := 10) (by omega) (e_10 b kc T S) rfl hl.1 rfl rfl (Nat.le_of_ble_eq_true rfl) dX7_takeDone_43 ⟨Nat.le_of_ble_eq_true rfl, Nat.le_of_ble_eq_true rfl⟩ ⟨Nat.le_of_ble_eq_true rfl, Nat.le_of_ble_eq_true rfl⟩) hM (fun z4_z H locs bz4_z hM hS => ?_)
    subst bz4_z
    refine lv_astoreq (lv' := [(5, va_rf (om b o3_z)), (4, .int xt0_), (0, .ref (b + 178)), (1, .ref (b + 10)), (2, .int x2), (3, .int x3_)]) hx hb dX7_takeDone_46 hl (by decide) rfl (fun ls hl => ?_)
    refine lv_iload hx hb dX7_takeDone_48 (lv_at hl 1 rfl) ?_
    refine g_if_ne (tgt := 101) hx hb hxt0_ h dX7_takeDone_50 (by decide) (fun h => ?_) (fun h => ?_)
    · exact B101 kf7_ hkf7_ S _ _ _ x3_ v3_ hx3_ hS hM (lv_sub hl [2, 3, 4, 5] rfl) h
    · refine lv_aloadq hx hb dX7_takeDone_53 (lv_at hl 0 rfl) ?_
      cases o3_z with
      | none =>
        replace h := w_onN h
        have hl : lv_has ls 6 [(5, .null), (4, .int xt0_), (0, .ref (b + 178)), (1, .ref (b + 10)), (2, .int x2), (3, .int x3_)] := hl
        refine lv_ifnullN (tgt := 101) hx hb dX7_takeDone_55 (by decide) ?_
        exact B101 kf7_ hkf7_ S _ _ _ x3_ v3_ hx3_ hS hM (lv_sub hl [2, 3, 4, 5] rfl) h
      | some j5_z =>
        obtain ⟨hj5_z, h⟩ := w_chkE (w_onS h)
        have hl : lv_has ls 6 [(5, .ref (b + (14 + 4 * j5_z))), (4, .int xt0_), (0, .ref (b + 178)), (1, .ref (b + 10)), (2, .int x2), (3, .int x3_)] := hl
        refine lv_ifnull hx hb dX7_takeDone_55 ?_
        refine lv_aload_n hx hb dX7_takeDone_58 rfl (lv_at hl 2 rfl) ?_
        refine g_get fl_X7_21_X7 C hM (i := 178) (r := 178) (by omega) (e_178 b kc T S) rfl hS dX7_takeDone_59 (fun z6_z bz6_z => ?_)
        refine lv_aload_n hx hb dX7_takeDone_62 rfl (lv_at hl 2 rfl) ?_
        refine m_get fl_X7_11_X7 C hM (i := 178) (by omega) (e_178 b kc T S) (v := .ref (b + 179)) rfl dX7_takeDone_63 ?_
        refine m_alen C hM (j := 179) (by omega) 4 (e_179 b kc T S) rfl (v := 40) rfl dX7_takeDone_66 ?_
        refine g_icmp_ge (tgt := 101) hx hb bz6_z (show (40 : Int32).toInt = 40 by decide) h dX7_takeDone_67 (by decide) (fun h => ?_) (fun h => ?_)
        · exact B101 kf7_ hkf7_ S _ _ _ x3_ v3_ hx3_ hS hM (lv_sub hl [2, 3, 4, 5] rfl) h
        · refine lv_aload_n hx hb dX7_takeDone_70 rfl (lv_at hl 2 rfl) ?_
          refine m_get fl_X7_11_X7 C hM (i := 178) (by omega) (e_178 b kc T S) (v := .ref (b + 179)) rfl dX7_takeDone_71 ?_
          refine lv_aload_n hx hb dX7_takeDone_74 rfl (lv_at hl 2 rfl) ?_
          refine g_get fl_X7_21_X7 C hM (i := 178) (r := 178) (by omega) (e_178 b kc T S) rfl hS dX7_takeDone_75 (fun z7_z bz7_z => ?_)
          refine lv_aload hx hb dX7_takeDone_78 (lv_at hl 0 rfl) ?_
          refine g_aast C hM (j := 179) (by omega) (jK_X b kc T (by omega)) (a_179 b kc) hS (v := j5_z) (by omega) (e_mk b kc T S hj5_z) bz7_z (B := 40) rfl h dX7_takeDone_80 (fun S8_z H locs h hM hS => ?_)
          refine lv_aload_n hx hb dX7_takeDone_81 rfl (lv_at hl 2 rfl) ?_
          refine m_get fl_X7_17_X7 C hM (i := 178) (by omega) (e_178 b kc T S8_z) (v := .ref (b + 180)) rfl dX7_takeDone_82 ?_
          refine lv_aload_n hx hb dX7_takeDone_85 rfl (lv_at hl 2 rfl) ?_
          refine g_get fl_X7_21_X7 C hM (i := 178) (r := 178) (by omega) (e_178 b kc T S8_z) rfl hS dX7_takeDone_86 (fun z9_z bz9_z => ?_)
          refine lv_iconst (v := 0) hx hb dX7_takeDone_89 (by decide) ?_
          refine g_zast C hM (j := 180) (by omega) (jK_X b kc T (by omega)) (a_180 b kc) hS bz9_z (show (0 : Int32).toInt = 0 by decide) (by decide) (B := 40) rfl h dX7_takeDone_90 (fun S10_z H locs h hM hS => ?_)
          refine lv_aload_n hx hb dX7_takeDone_91 rfl (lv_at hl 2 rfl) ?_
          refine lv_dup hx hb dX7_takeDone_92 rfl ?_
          refine g_get fl_X7_21_X7 C hM (i := 178) (r := 178) (by omega) (e_178 b kc T S10_z) rfl hS dX7_takeDone_93 (fun z11_z bz11_z => ?_)
          refine lv_iconst (v := 1) hx hb dX7_takeDone_96 (by decide) ?_
          refine g_iadd hx hb bz11_z (show (1 : Int32).toInt = 1 by decide) h dX7_takeDone_97 (fun z12_z bz12_z h => ?_)
          refine g_put fl_X7_21_X7 C hM (i := 178) (by omega) (e_178 b kc T S10_z) rfl rfl (Nat.le_of_ble_eq_true rfl) (fs1 := [.ref (b + 179), .ref (b + 180), .int z12_z, va_rf (os b (gq S10_z 178 3)), va_rf (os b (gq S10_z 178 4))]) rfl (p_178_2 bz12_z) (rng_si hS (i32_of bz12_z)) h dX7_takeDone_98 (fun S13_z H locs h hM hS => ?_)
          exact B101 kf7_ hkf7_ S13_z _ _ _ x3_ v3_ hx3_ hS hM (lv_sub hl [2, 3, 4, 5] rfl) h
  have B34 : ∀ (kf7_ : SS → Int → Option SS) (hkf7_ : ∀ (S : SS) (H : Heap) (locs : List Loc) (ls : Array Slot) (x3_ : Int32) (v3_ : Int) (hx3_ : x3_.toInt = v3_), rng S → mS D b s 220 (jX b kc T S) H locs → lv_has ls 6 [(0, .ref (b + 178)), (1, .ref (b + 10)), (2, .int x2), (3, .int x3_)] → kf7_ S v3_ = some Sr → W p l e (mR 3 0 0) s m args below meth c H locs 0 0 Q (F0 m 7 ls [])), ∀ (S : SS) (H : Heap) (locs : List Loc) (ls : Array Slot) (x3_ : Int32) (v3_ : Int) (hx3_ : x3_.toInt = v3_), rng S → mS D b s 220 (jX b kc T S) H locs → lv_has ls 6 [(0, .ref (b + 178)), (1, .ref (b + 10)), (2, .int x2), (3, .int x3_)] → f_Setter_takeDone_34 v2 kf7_ S v3_ = some Sr → W p l e (mR 3 0 0) s m args below meth c H locs 0 0 Q (F0 m 34 ls []) := by
    intro kf7_ hkf7_ S H locs ls x3_ v3_ hx3_ hS hM hl h
    unfold f_Setter_takeDone_34 at h
    refine lv_iconst (v := 0) hx hb dX7_takeDone_34 (by decide) ?_
    exact B35 kf7_ hkf7_ S _ _ _ x3_ v3_ hx3_ 0 0 (show (0 : Int32).toInt = 0 by decide) hS hM (lv_sub hl [0, 1, 2, 3] rfl) h
  have B7 : ∀ (n : Nat), ∀ (S : SS) (H : Heap) (locs : List Loc) (ls : Array Slot) (x3_ : Int32) (v3_ : Int) (hx3_ : x3_.toInt = v3_), rng S → mS D b s 220 (jX b kc T S) H locs → lv_has ls 6 [(0, .ref (b + 178)), (1, .ref (b + 10)), (2, .int x2), (3, .int x3_)] → f_Setter_takeDone_7 v2 n S v3_ = some Sr → W p l e (mR 3 0 0) s m args below meth c H locs 0 0 Q (F0 m 7 ls []) := by
    intro n
    induction n with
    | zero => intro S H locs ls x3_ v3_ hx3_ hS hM hl h; exact absurd (h : none = some _) (fun q => nomatch q)
    | succ n hkf7_ =>
      intro S H locs ls x3_ v3_ hx3_ hS hM hl h
      have h : f_Setter_takeDone_7_b v2 (f_Setter_takeDone_7 v2 n) S v3_ = some Sr := h
      unfold f_Setter_takeDone_7_b at h
      refine lv_iload_n hx hb dX7_takeDone_7 rfl (lv_at hl 3 rfl) ?_
      refine lv_aload_n hx hb dX7_takeDone_8 rfl (lv_at hl 1 rfl) ?_
      refine g_getN fl_X7_25_X5 C hM (i := 10) (r := 10) (by omega) (e_10 b kc T S) rfl hS dX7_takeDone_9 (fun z1_z bz1_z => ?_)
      refine g_icmp_ge (tgt := 107) hx hb hx3_ bz1_z h dX7_takeDone_12 (by decide) (fun h => ?_) (fun h => ?_)
      · exact ret S _ _ _ _ (Option.some.inj h) hM hS dX7_takeDone_107
      · refine lv_iload_n hx hb dX7_takeDone_15 rfl (lv_at hl 3 rfl) ?_
        refine lv_bipush (v := 8) hx hb dX7_takeDone_16 (by decide) ?_
        refine g_icmp_ge (tgt := 34) hx hb hx3_ (show (8 : Int32).toInt = 8 by decide) h dX7_takeDone_18 (by decide) (fun h => ?_) (fun h => ?_)
        · exact B34 (f_Setter_takeDone_7 v2 n) hkf7_ S _ _ _ x3_ v3_ hx3_ hS hM (lv_sub hl [0, 1, 2, 3] rfl) h
        · refine lv_iload_n hx hb dX7_takeDone_21 rfl (lv_at hl 2 rfl) ?_
          refine lv_iload_n hx hb dX7_takeDone_22 rfl (lv_at hl 3 rfl) ?_
          refine g_ishr hx hb hx2 hx3_ dX7_takeDone_23 (fun z2_z bz2_z => ?_)
          refine lv_iconst (v := 1) hx hb dX7_takeDone_24 (by decide) ?_
          refine g_iand hx hb bz2_z (show (1 : Int32).toInt = 1 by decide) dX7_takeDone_25 (fun z3_z bz3_z => ?_)
          refine lv_iconst (v := 1) hx hb dX7_takeDone_26 (by decide) ?_
          refine g_icmp_ne (tgt := 34) hx hb bz3_z (show (1 : Int32).toInt = 1 by decide) h dX7_takeDone_27 (by decide) (fun h => ?_) (fun h => ?_)
          · exact B34 (f_Setter_takeDone_7 v2 n) hkf7_ S _ _ _ x3_ v3_ hx3_ hS hM (lv_sub hl [0, 1, 2, 3] rfl) h
          · refine lv_iconst (v := 1) hx hb dX7_takeDone_30 (by decide) ?_
            refine lv_goto (tgt := 35) hx hb dX7_takeDone_31 (by decide) ?_
            exact B35 (f_Setter_takeDone_7 v2 n) hkf7_ S _ _ _ x3_ v3_ hx3_ 1 1 (show (1 : Int32).toInt = 1 by decide) hS hM (lv_sub hl [0, 1, 2, 3] rfl) h
  refine lv_aload_n hx hb dX7_takeDone_0 rfl (lv_at hl 0 rfl) ?_
  refine lv_iconst (v := 0) hx hb dX7_takeDone_1 (by decide) ?_
  refine g_put fl_X7_21_X7 C hM (i := 178) (by omega) (e_178 b kc T S) rfl rfl (Nat.le_of_ble_eq_true rfl) (fs1 := [.ref (b + 179), .ref (b + 180), .int 0, va_rf (os b (gq S 178 3)), va_rf (os b (gq S 178 4))]) rfl (p_178_2 (show (0 : Int32).toInt = 0 by decide)) (rng_si hS (i32_of (show (0 : Int32).toInt = 0 by decide))) h dX7_takeDone_2 (fun S1_z H locs h hM hS => ?_)
  refine lv_iconst (v := 0) hx hb dX7_takeDone_5 (by decide) ?_
  refine lv_istore_n (lv' := [(3, .int 0), (0, .ref (b + 178)), (1, .ref (b + 10)), (2, .int x2)]) hx hb dX7_takeDone_6 rfl hl (by decide) rfl (fun ls hl => ?_)
  exact B7 FU S1_z _ _ _ 0 0 (show (0 : Int32).toInt = 0 by decide) hS hM (lv_sub hl [1, 2, 3, 0] rfl) h

def f_Ruler_fillRow_174 (v1 : Int) (w2 : Int64) (q3 : Nat) (v4 : Int) (v5 : Int) (kf101_ : SS → Int → Int → Int → Int → Option (Int × SS)) (S : SS) (v8_ : Int) (v10_ : Int) (v11_ : Int) (v12_ : Int) : Option (Int × SS) := w_chk (0 ≤ v11_ ∧ v11_ < 301) (w_chk (i32 (v11_ + 1)) (kf101_ S v8_ v12_ (min v10_ (gi S 182 (v11_).toNat)) (v11_ + 1)))
def f_Ruler_fillRow_101_b (v1 : Int) (w2 : Int64) (q3 : Nat) (v4 : Int) (v5 : Int) (kf101_ : SS → Int → Int → Int → Int → Option (Int × SS)) (S : SS) (v8_ : Int) (v9_ : Int) (v10_ : Int) (v11_ : Int) : Option (Int × SS) := (if v8_ < v11_ then some (v10_, S) else w_chk (0 ≤ v11_ ∧ v11_ < 301) (w_chk (i32 (v4 + v11_)) (w_chk (i32 ((v4 + v11_) - 1)) (w_b1 (f_Sheet_wordAt S q3 ((v4 + v11_) - 1)) (fun w4_z => (if w4_z = w2 then w_chk (0 ≤ v11_ ∧ v11_ < 301) (w_lt (si S 182 (v11_).toNat v9_) (fun S12_z => f_Ruler_fillRow_174 v1 w2 q3 v4 v5 kf101_ S12_z v8_ v10_ v11_ (gi S 182 (v11_).toNat))) else w_chk (i32 (v11_ - 1)) (w_chk (0 ≤ (v11_ - 1) ∧ (v11_ - 1) < 301) (w_chk (i32 (1 + (min v9_ (min (gi S 182 (v11_).toNat) (gi S 182 (v11_ - 1).toNat))))) (w_chk (0 ≤ v11_ ∧ v11_ < 301) (w_lt (si S 182 (v11_).toNat (1 + (min v9_ (min (gi S 182 (v11_).toNat) (gi S 182 (v11_ - 1).toNat))))) (fun S11_z => f_Ruler_fillRow_174 v1 w2 q3 v4 v5 kf101_ S11_z v8_ v10_ v11_ (gi S 182 (v11_).toNat))))))))))))
def f_Ruler_fillRow_101 (v1 : Int) (w2 : Int64) (q3 : Nat) (v4 : Int) (v5 : Int) : Nat → SS → Int → Int → Int → Int → Option (Int × SS)
  | 0 => fun _ _ _ _ _ => none
  | n + 1 => f_Ruler_fillRow_101_b v1 w2 q3 v4 v5 (f_Ruler_fillRow_101 v1 w2 q3 v4 v5 n)
def f_Ruler_fillRow_85 (v1 : Int) (w2 : Int64) (q3 : Nat) (v4 : Int) (v5 : Int) (S : SS) (v7_ : Int) (v8_ : Int) (v9_ : Int) (vt0_ : Int) (vt1_ : Int) : Option (Int × SS) := w_chk (0 ≤ vt1_ ∧ vt1_ < 301) (w_lt (si S 182 (vt1_).toNat vt0_) (fun S1_z => w_chk (i32 (v7_ - 1)) (w_chk (0 ≤ (v7_ - 1) ∧ (v7_ - 1) < 301) (f_Ruler_fillRow_101 v1 w2 q3 v4 v5 FU S1_z v8_ v9_ (gi S1_z 182 (v7_ - 1).toNat) v7_))))
def f_Ruler_fillRow (S : SS) (v1 : Int) (w2 : Int64) (q3 : Nat) (v4 : Int) (v5 : Int) : Option (Int × SS) := w_chk (i32 (v1 - v5)) (w_chk (i32 ((gi S q3 1) - v4)) (w_chk (i32 (v1 + v5)) ((if 301 ≤ max 1 (v1 - v5) then w_chk (i32 (v5 + 1)) (some (v5 + 1, S)) else (if min ((gi S q3 1) - v4) (v1 + v5) < 301 then w_chk (i32 ((max 1 (v1 - v5)) - 1)) (w_chk (0 ≤ ((max 1 (v1 - v5)) - 1) ∧ ((max 1 (v1 - v5)) - 1) < 301) (w_chk (i32 ((max 1 (v1 - v5)) - 1)) ((if max 1 (v1 - v5) = 1 then f_Ruler_fillRow_85 v1 w2 q3 v4 v5 S (max 1 (v1 - v5)) (min ((gi S q3 1) - v4) (v1 + v5)) (gi S 182 ((max 1 (v1 - v5)) - 1).toNat) v1 ((max 1 (v1 - v5)) - 1) else w_chk (i32 (v5 + 1)) (f_Ruler_fillRow_85 v1 w2 q3 v4 v5 S (max 1 (v1 - v5)) (min ((gi S q3 1) - v4) (v1 + v5)) (gi S 182 ((max 1 (v1 - v5)) - 1).toNat) (v5 + 1) ((max 1 (v1 - v5)) - 1)))))) else w_chk (i32 (v5 + 1)) (some (v5 + 1, S)))))))
set_option maxHeartbeats 4000000 in
set_option maxRecDepth 100000 in
theorem g_Ruler_fillRow (l : Launch) (D : va_G) (kc : Nat → ClassId) (b : Nat) (T S : SS) (x1 : Int32) (v1 : Int) (hx1 : x1.toInt = v1) (w2 : Int64) (q3 : Nat) (hq3 : shOk q3) (x4 : Int32) (v4 : Int) (hx4 : x4.toInt = v4) (x5 : Int32) (v5 : Int) (hx5 : x5.toInt = v5) (hS : rng S) {vr : Int} {Sr : SS} (h : f_Ruler_fillRow S v1 w2 q3 v4 v5 = some (vr, Sr)) : cI l yX6_fillRow cX6_fillRow 13 .int 2 D kc b (jX b kc T) S [.ref (b + 181), .int x1, .long w2, .ref (b + q3), .int x4, .int x5] vr Sr := by
  refine g_beg_i (by decide) (Nat.le_of_ble_eq_true rfl) ?_
  intro p e s m args below meth c Q C ret hM ls hl
  obtain ⟨hx, hb, hml, hown, hts, hE, hbs⟩ := id C
  have hl : lv_has ls 13 [(0, .ref (b + 181)), (1, .int x1), (2, .long w2), (4, .ref (b + q3)), (5, .int x4), (6, .int x5)] := hl
  unfold f_Ruler_fillRow at h
  have B174 : ∀ (kf101_ : SS → Int → Int → Int → Int → Option (Int × SS)) (hkf101_ : ∀ (S : SS) (H : Heap) (locs : List Loc) (ls : Array Slot) (x8_ : Int32) (v8_ : Int) (hx8_ : x8_.toInt = v8_) (x9_ : Int32) (v9_ : Int) (hx9_ : x9_.toInt = v9_) (x10_ : Int32) (v10_ : Int) (hx10_ : x10_.toInt = v10_) (x11_ : Int32) (v11_ : Int) (hx11_ : x11_.toInt = v11_), rng S → mS D b s 220 (jX b kc T S) H locs → lv_has ls 13 [(0, .ref (b + 181)), (2, .long w2), (4, .ref (b + q3)), (5, .int x4), (8, .int x8_), (9, .int x9_), (10, .int x10_), (11, .int x11_)] → kf101_ S v8_ v9_ v10_ v11_ = some (vr, Sr) → W p l e (mR 2 0 0) s m args below meth c H locs 0 0 Q (F0 m 101 ls [])), ∀ (S : SS) (H : Heap) (locs : List Loc) (ls : Array Slot) (x8_ : Int32) (v8_ : Int) (hx8_ : x8_.toInt = v8_) (x10_ : Int32) (v10_ : Int) (hx10_ : x10_.toInt = v10_) (x11_ : Int32) (v11_ : Int) (hx11_ : x11_.toInt = v11_) (x12_ : Int32) (v12_ : Int) (hx12_ : x12_.toInt = v12_), rng S → mS D b s 220 (jX b kc T S) H locs → lv_has ls 13 [(0, .ref (b + 181)), (2, .long w2), (4, .ref (b + q3)), (5, .int x4), (8, .int x8_), (10, .int x10_), (11, .int x11_), (12, .int x12_)] → f_Ruler_fillRow_174 v1 w2 q3 v4 v5 kf101_ S v8_ v10_ v11_ v12_ = some (vr, Sr) → W p l e (mR 2 0 0) s m args below meth c H locs 0 0 Q (F0 m 174 ls []) := by
    intro kf101_ hkf101_ S H locs ls x8_ v8_ hx8_ x10_ v10_ hx10_ x11_ v11_ hx11_ x12_ v12_ hx12_ hS hM hl h
    unfold f_Ruler_fillRow_174 at h
    refine lv_iload hx hb dX6_fillRow_174 (lv_at hl 7 rfl) ?_
    refine lv_istore (lv' := [(9, .int x12_), (0, .ref (b + 181)), (2, .long w2), (4, .ref (b + q3)), (5, .int x4), (8, .int x8_), (10, .int x10_), (11, .int x11_), (12, .int x12_)]) hx hb dX6_fillRow_176 hl (by decide) rfl (fun ls hl => ?_)
    refine lv_iload hx hb dX6_fillRow_178 (lv_at hl 6 rfl) ?_
    refine lv_aload_n hx hb dX6_fillRow_180 rfl (lv_at hl 1 rfl) ?_
    refine m_get fl_X6_9_X6 C hM (i := 181) (by omega) (e_181 b kc T S) (v := .ref (b + 182)) rfl dX6_fillRow_181 ?_
    refine lv_iload hx hb dX6_fillRow_184 (lv_at hl 7 rfl) ?_
    refine g_iald C hM (j := 182) (by omega) (jK_X b kc T (by omega)) (a_182 b kc) hS hx11_ (B := 301) rfl h dX6_fillRow_186 (fun z1_z bz1_z h => ?_)
    refine g_mmin hx hb (hml.trans hl.1.symm) hown (hts _ wd_930) (hts _ wd_522) (hts _ wd_91) (hts _ wd_523) (Nat.le_of_ble_eq_true rfl) (Nat.le_of_ble_eq_true rfl) (Nat.le_of_ble_eq_true rfl) (Nat.le_of_ble_eq_true rfl) hx10_ bz1_z dX6_fillRow_187 (fun z2_z bz2_z => ?_)
    refine lv_istore (lv' := [(10, .int z2_z), (9, .int x12_), (0, .ref (b + 181)), (2, .long w2), (4, .ref (b + q3)), (5, .int x4), (8, .int x8_), (11, .int x11_), (12, .int x12_)]) hx hb dX6_fillRow_190 hl (by decide) rfl (fun ls hl => ?_)
    refine g_iinc (y := 1) hx hb hx11_ (by decide) (by decide) h dX6_fillRow_192 hl (k := 7) rfl (by decide) (fun z3_z ls bz3_z h hl => ?_)
    have hl : lv_has ls 13 [(11, .int z3_z), (10, .int z2_z), (9, .int x12_), (0, .ref (b + 181)), (2, .long w2), (4, .ref (b + q3)), (5, .int x4), (8, .int x8_), (12, .int x12_)] := hl
    refine lv_goto (tgt := 101) hx hb dX6_fillRow_195 (by decide) ?_
    exact hkf101_ S _ _ _ x8_ v8_ hx8_ x12_ v12_ hx12_ z2_z (min v10_ (gi S 182 (v11_).toNat)) bz2_z z3_z (v11_ + 1) bz3_z hS hM (lv_sub hl [3, 4, 5, 6, 7, 2, 1, 0] rfl) h
  have B101 : ∀ (n : Nat), ∀ (S : SS) (H : Heap) (locs : List Loc) (ls : Array Slot) (x8_ : Int32) (v8_ : Int) (hx8_ : x8_.toInt = v8_) (x9_ : Int32) (v9_ : Int) (hx9_ : x9_.toInt = v9_) (x10_ : Int32) (v10_ : Int) (hx10_ : x10_.toInt = v10_) (x11_ : Int32) (v11_ : Int) (hx11_ : x11_.toInt = v11_), rng S → mS D b s 220 (jX b kc T S) H locs → lv_has ls 13 [(0, .ref (b + 181)), (2, .long w2), (4, .ref (b + q3)), (5, .int x4), (8, .int x8_), (9, .int x9_), (10, .int x10_), (11, .int x11_)] → f_Ruler_fillRow_101 v1 w2 q3 v4 v5 n S v8_ v9_ v10_ v11_ = some (vr, Sr) → W p l e (mR 2 0 0) s m args below meth c H locs 0 0 Q (F0 m 101 ls []) := by
    intro n
    induction n with
    | zero => intro S H locs ls x8_ v8_ hx8_ x9_ v9_ hx9_ x10_ v10_ hx10_ x11_ v11_ hx11_ hS hM hl h; exact absurd (h : none = some _) (fun q => nomatch q)
    | succ n hkf101_ =>
      intro S H locs ls x8_ v8_ hx8_ x9_ v9_ hx9_ x10_ v10_ hx10_ x11_ v11_ hx11_ hS hM hl h
      have h : f_Ruler_fillRow_101_b v1 w2 q3 v4 v5 (f_Ruler_fillRow_101 v1 w2 q3 v4 v5 n) S v8_ v9_ v10_ v11_ = some (vr, Sr) := h
      unfold f_Ruler_fillRow_101_b at h
      refine lv_iload hx hb dX6_fillRow_101 (lv_at hl 7 rfl) ?_
      refine lv_iload hx hb dX6_fillRow_103 (lv_at hl 4 rfl) ?_
      refine g_icmp_gt (tgt := 198) hx hb hx11_ hx8_ h dX6_fillRow_105 (by decide) (fun h => ?_) (fun h => ?_)
      · refine lv_iload hx hb dX6_fillRow_198 (lv_at hl 6 rfl) ?_
        exact ret S _ _ _ _ x10_ (hx10_.trans (r_1 h)) (r_2 h) hM hS dX6_fillRow_200
      · refine lv_aload_n hx hb dX6_fillRow_108 rfl (lv_at hl 0 rfl) ?_
        refine m_get fl_X6_9_X6 C hM (i := 181) (by omega) (e_181 b kc T S) (v := .ref (b + 182)) rfl dX6_fillRow_109 ?_
        refine lv_iload hx hb dX6_fillRow_112 (lv_at hl 7 rfl) ?_
        refine g_iald C hM (j := 182) (by omega) (jK_X b kc T (by omega)) (a_182 b kc) hS hx11_ (B := 301) rfl h dX6_fillRow_114 (fun z1_z bz1_z h => ?_)
        refine lv_istore (lv' := [(12, .int z1_z), (0, .ref (b + 181)), (2, .long w2), (4, .ref (b + q3)), (5, .int x4), (8, .int x8_), (9, .int x9_), (10, .int x10_), (11, .int x11_)]) hx hb dX6_fillRow_115 hl (by decide) rfl (fun ls hl => ?_)
        refine lv_aload hx hb dX6_fillRow_117 (lv_at hl 3 rfl) ?_
        refine lv_iload hx hb dX6_fillRow_119 (lv_at hl 4 rfl) ?_
        refine lv_iload hx hb dX6_fillRow_121 (lv_at hl 8 rfl) ?_
        refine g_iadd hx hb hx4 hx11_ h dX6_fillRow_123 (fun z2_z bz2_z h => ?_)
        refine lv_iconst (v := 1) hx hb dX6_fillRow_124 (by decide) ?_
        refine g_isub hx hb bz2_z (show (1 : Int32).toInt = 1 by decide) h dX6_fillRow_125 (fun z3_z bz3_z h => ?_)
        obtain ⟨w4_z, cw4_z, h⟩ := w_b1E h
        refine g_callL (J := jX b kc T) (m_runV calV_X8_wordAt wd_925 (g_Sheet_wordAt l D kc b T S q3 hq3 z3_z ((v4 + v11_) - 1) bz3_z hS cw4_z) C hM (i := q3) (by omega) (e_sh b kc T S hq3) rfl hl.1 rfl rfl (Nat.le_of_ble_eq_true rfl) dX6_fillRow_126 ⟨Nat.le_of_ble_eq_true rfl, Nat.le_of_ble_eq_true rfl⟩ ⟨Nat.le_of_ble_eq_true rfl, Nat.le_of_ble_eq_true rfl⟩) hM (fun z5_z H locs bz5_z hM hS => ?_)
        have ez5_z := bz5_z.symm
        subst ez5_z
        refine lv_lload_n hx hb dX6_fillRow_129 rfl (lv_at hl 2 rfl) ?_
        refine g_lcmp_ne (tgt := 146) hx hb h dX6_fillRow_130 dX6_fillRow_131 (by decide) (fun h => ?_) (fun h => ?_)
        · refine lv_aload_n hx hb dX6_fillRow_146 rfl (lv_at hl 1 rfl) ?_
          refine m_get fl_X6_9_X6 C hM (i := 181) (by omega) (e_181 b kc T S) (v := .ref (b + 182)) rfl dX6_fillRow_147 ?_
          refine lv_iload hx hb dX6_fillRow_150 (lv_at hl 8 rfl) ?_
          refine lv_iconst (v := 1) hx hb dX6_fillRow_152 (by decide) ?_
          refine lv_iload hx hb dX6_fillRow_153 (lv_at hl 6 rfl) ?_
          refine lv_iload hx hb dX6_fillRow_155 (lv_at hl 0 rfl) ?_
          refine lv_aload_n hx hb dX6_fillRow_157 rfl (lv_at hl 1 rfl) ?_
          refine m_get fl_X6_9_X6 C hM (i := 181) (by omega) (e_181 b kc T S) (v := .ref (b + 182)) rfl dX6_fillRow_158 ?_
          refine lv_iload hx hb dX6_fillRow_161 (lv_at hl 8 rfl) ?_
          refine lv_iconst (v := 1) hx hb dX6_fillRow_163 (by decide) ?_
          refine g_isub hx hb hx11_ (show (1 : Int32).toInt = 1 by decide) h dX6_fillRow_164 (fun z6_z bz6_z h => ?_)
          refine g_iald C hM (j := 182) (by omega) (jK_X b kc T (by omega)) (a_182 b kc) hS bz6_z (B := 301) rfl h dX6_fillRow_165 (fun z7_z bz7_z h => ?_)
          refine g_mmin hx hb (hml.trans hl.1.symm) hown (hts _ wd_930) (hts _ wd_522) (hts _ wd_91) (hts _ wd_523) (Nat.le_of_ble_eq_true rfl) (Nat.le_of_ble_eq_true rfl) (Nat.le_of_ble_eq_true rfl) (Nat.le_of_ble_eq_true rfl) bz1_z bz7_z dX6_fillRow_166 (fun z8_z bz8_z => ?_)
          refine g_mmin hx hb (hml.trans hl.1.symm) hown (hts _ wd_930) (hts _ wd_522) (hts _ wd_91) (hts _ wd_523) (Nat.le_of_ble_eq_true rfl) (Nat.le_of_ble_eq_true rfl) (Nat.le_of_ble_eq_true rfl) (Nat.le_of_ble_eq_true rfl) hx9_ bz8_z dX6_fillRow_169 (fun z9_z bz9_z => ?_)
          refine g_iadd hx hb (show (1 : Int32).toInt = 1 by decide) bz9_z h dX6_fillRow_172 (fun z10_z bz10_z h => ?_)
          refine g_iast C hM (j := 182) (by omega) (jK_X b kc T (by omega)) (a_182 b kc) hS hx11_ bz10_z (B := 301) rfl h dX6_fillRow_173 (fun S11_z H locs h hM hS => ?_)
          exact B174 (f_Ruler_fillRow_101 v1 w2 q3 v4 v5 n) hkf101_ S11_z _ _ _ x8_ v8_ hx8_ x10_ v10_ hx10_ x11_ v11_ hx11_ z1_z (gi S 182 (v11_).toNat) bz1_z hS hM (lv_sub hl [1, 2, 3, 4, 5, 7, 8, 0] rfl) h
        · refine lv_aload_n hx hb dX6_fillRow_134 rfl (lv_at hl 1 rfl) ?_
          refine m_get fl_X6_9_X6 C hM (i := 181) (by omega) (e_181 b kc T S) (v := .ref (b + 182)) rfl dX6_fillRow_135 ?_
          refine lv_iload hx hb dX6_fillRow_138 (lv_at hl 8 rfl) ?_
          refine lv_iload hx hb dX6_fillRow_140 (lv_at hl 6 rfl) ?_
          refine g_iast C hM (j := 182) (by omega) (jK_X b kc T (by omega)) (a_182 b kc) hS hx11_ hx9_ (B := 301) rfl h dX6_fillRow_142 (fun S12_z H locs h hM hS => ?_)
          refine lv_goto (tgt := 174) hx hb dX6_fillRow_143 (by decide) ?_
          exact B174 (f_Ruler_fillRow_101 v1 w2 q3 v4 v5 n) hkf101_ S12_z _ _ _ x8_ v8_ hx8_ x10_ v10_ hx10_ x11_ v11_ hx11_ z1_z (gi S 182 (v11_).toNat) bz1_z hS hM (lv_sub hl [1, 2, 3, 4, 5, 7, 8, 0] rfl) h
  have B85 : ∀ (S : SS) (H : Heap) (locs : List Loc) (ls : Array Slot) (x7_ : Int32) (v7_ : Int) (hx7_ : x7_.toInt = v7_) (x8_ : Int32) (v8_ : Int) (hx8_ : x8_.toInt = v8_) (x9_ : Int32) (v9_ : Int) (hx9_ : x9_.toInt = v9_) (xt0_ : Int32) (vt0_ : Int) (hxt0_ : xt0_.toInt = vt0_) (xt1_ : Int32) (vt1_ : Int) (hxt1_ : xt1_.toInt = vt1_), rng S → mS D b s 220 (jX b kc T S) H locs → lv_has ls 13 [(0, .ref (b + 181)), (2, .long w2), (4, .ref (b + q3)), (5, .int x4), (7, .int x7_), (8, .int x8_), (9, .int x9_)] → f_Ruler_fillRow_85 v1 w2 q3 v4 v5 S v7_ v8_ v9_ vt0_ vt1_ = some (vr, Sr) → W p l e (mR 2 0 0) s m args below meth c H locs 0 0 Q (F0 m 85 ls [.int xt0_, .int xt1_, .ref (b + 182)]) := by
    intro S H locs ls x7_ v7_ hx7_ x8_ v8_ hx8_ x9_ v9_ hx9_ xt0_ vt0_ hxt0_ xt1_ vt1_ hxt1_ hS hM hl h
    unfold f_Ruler_fillRow_85 at h
    refine g_iast C hM (j := 182) (by omega) (jK_X b kc T (by omega)) (a_182 b kc) hS hxt1_ hxt0_ (B := 301) rfl h dX6_fillRow_85 (fun S1_z H locs h hM hS => ?_)
    refine lv_aload_n hx hb dX6_fillRow_86 rfl (lv_at hl 0 rfl) ?_
    refine m_get fl_X6_9_X6 C hM (i := 181) (by omega) (e_181 b kc T S1_z) (v := .ref (b + 182)) rfl dX6_fillRow_87 ?_
    refine lv_iload hx hb dX6_fillRow_90 (lv_at hl 4 rfl) ?_
    refine lv_iconst (v := 1) hx hb dX6_fillRow_92 (by decide) ?_
    refine g_isub hx hb hx7_ (show (1 : Int32).toInt = 1 by decide) h dX6_fillRow_93 (fun z2_z bz2_z h => ?_)
    refine g_iald C hM (j := 182) (by omega) (jK_X b kc T (by omega)) (a_182 b kc) hS bz2_z (B := 301) rfl h dX6_fillRow_94 (fun z3_z bz3_z h => ?_)
    refine lv_istore (lv' := [(10, .int z3_z), (0, .ref (b + 181)), (2, .long w2), (4, .ref (b + q3)), (5, .int x4), (7, .int x7_), (8, .int x8_), (9, .int x9_)]) hx hb dX6_fillRow_95 hl (by decide) rfl (fun ls hl => ?_)
    refine lv_iload hx hb dX6_fillRow_97 (lv_at hl 5 rfl) ?_
    refine lv_istore (lv' := [(11, .int x7_), (10, .int z3_z), (0, .ref (b + 181)), (2, .long w2), (4, .ref (b + q3)), (5, .int x4), (7, .int x7_), (8, .int x8_), (9, .int x9_)]) hx hb dX6_fillRow_99 hl (by decide) rfl (fun ls hl => ?_)
    exact B101 FU S1_z _ _ _ x8_ v8_ hx8_ x9_ v9_ hx9_ z3_z (gi S1_z 182 (v7_ - 1).toNat) bz3_z x7_ v7_ hx7_ hS hM (lv_sub hl [2, 3, 4, 5, 7, 8, 1, 0] rfl) h
  refine lv_iconst (v := 1) hx hb dX6_fillRow_0 (by decide) ?_
  refine lv_iload_n hx hb dX6_fillRow_1 rfl (lv_at hl 1 rfl) ?_
  refine lv_iload hx hb dX6_fillRow_2 (lv_at hl 5 rfl) ?_
  refine g_isub hx hb hx1 hx5 h dX6_fillRow_4 (fun z1_z bz1_z h => ?_)
  refine g_mmax hx hb (hml.trans hl.1.symm) hown (hts _ wd_921) (hts _ wd_519) (hts _ wd_91) (hts _ wd_520) (Nat.le_of_ble_eq_true rfl) (Nat.le_of_ble_eq_true rfl) (Nat.le_of_ble_eq_true rfl) (Nat.le_of_ble_eq_true rfl) (show (1 : Int32).toInt = 1 by decide) bz1_z dX6_fillRow_5 (fun z2_z bz2_z => ?_)
  refine lv_istore (lv' := [(7, .int z2_z), (0, .ref (b + 181)), (1, .int x1), (2, .long w2), (4, .ref (b + q3)), (5, .int x4), (6, .int x5)]) hx hb dX6_fillRow_8 hl (by decide) rfl (fun ls hl => ?_)
  refine lv_aload hx hb dX6_fillRow_10 (lv_at hl 4 rfl) ?_
  refine g_getN fl_X6_15_X8 C hM (i := q3) (r := q3) (by omega) (e_sh b kc T S hq3) rfl hS dX6_fillRow_12 (fun z3_z bz3_z => ?_)
  refine lv_iload hx hb dX6_fillRow_15 (lv_at hl 5 rfl) ?_
  refine g_isub hx hb bz3_z hx4 h dX6_fillRow_17 (fun z4_z bz4_z h => ?_)
  refine lv_iload_n hx hb dX6_fillRow_18 rfl (lv_at hl 2 rfl) ?_
  refine lv_iload hx hb dX6_fillRow_19 (lv_at hl 6 rfl) ?_
  refine g_iadd hx hb hx1 hx5 h dX6_fillRow_21 (fun z5_z bz5_z h => ?_)
  refine g_mmin hx hb (hml.trans hl.1.symm) hown (hts _ wd_930) (hts _ wd_522) (hts _ wd_91) (hts _ wd_523) (Nat.le_of_ble_eq_true rfl) (Nat.le_of_ble_eq_true rfl) (Nat.le_of_ble_eq_true rfl) (Nat.le_of_ble_eq_true rfl) bz4_z bz5_z dX6_fillRow_22 (fun z6_z bz6_z => ?_)
  refine lv_istore (lv' := [(8, .int z6_z), (7, .int z2_z), (0, .ref (b + 181)), (1, .int x1), (2, .long w2), (4, .ref (b + q3)), (5, .int x4), (6, .int x5)]) hx hb dX6_fillRow_25 hl (by decide) rfl (fun ls hl => ?_)
  refine lv_iload hx hb dX6_fillRow_27 (lv_at hl 1 rfl) ?_
  refine lv_aload_n hx hb dX6_fillRow_29 rfl (lv_at hl 2 rfl) ?_
  refine m_get fl_X6_9_X6 C hM (i := 181) (by omega) (e_181 b kc T S) (v := .ref (b + 182)) rfl dX6_fillRow_30 ?_
  refine m_alen C hM (j := 182) (by omega) 1 (e_182 b kc T S) rfl (v := 301) rfl dX6_fillRow_33 ?_
  refine g_icmp_ge (tgt := 47) hx hb bz2_z (show (301 : Int32).toInt = 301 by decide) h dX6_fillRow_34 (by decide) (fun h => ?_) (fun h => ?_)
  · refine lv_iload hx hb dX6_fillRow_47 (lv_at hl 7 rfl) ?_
    refine lv_iconst (v := 1) hx hb dX6_fillRow_49 (by decide) ?_
    refine g_iadd hx hb hx5 (show (1 : Int32).toInt = 1 by decide) h dX6_fillRow_50 (fun z7_z bz7_z h => ?_)
    exact ret S _ _ _ _ z7_z (bz7_z.trans (r_1 h)) (r_2 h) hM hS dX6_fillRow_51
  · refine lv_iload hx hb dX6_fillRow_37 (lv_at hl 0 rfl) ?_
    refine lv_aload_n hx hb dX6_fillRow_39 rfl (lv_at hl 2 rfl) ?_
    refine m_get fl_X6_9_X6 C hM (i := 181) (by omega) (e_181 b kc T S) (v := .ref (b + 182)) rfl dX6_fillRow_40 ?_
    refine m_alen C hM (j := 182) (by omega) 1 (e_182 b kc T S) rfl (v := 301) rfl dX6_fillRow_43 ?_
    refine g_icmp_lt (tgt := 52) hx hb bz6_z (show (301 : Int32).toInt = 301 by decide) h dX6_fillRow_44 (by decide) (fun h => ?_) (fun h => ?_)
    · refine lv_aload_n hx hb dX6_fillRow_52 rfl (lv_at hl 2 rfl) ?_
      refine m_get fl_X6_9_X6 C hM (i := 181) (by omega) (e_181 b kc T S) (v := .ref (b + 182)) rfl dX6_fillRow_53 ?_
      refine lv_iload hx hb dX6_fillRow_56 (lv_at hl 1 rfl) ?_
      refine lv_iconst (v := 1) hx hb dX6_fillRow_58 (by decide) ?_
      refine g_isub hx hb bz2_z (show (1 : Int32).toInt = 1 by decide) h dX6_fillRow_59 (fun z8_z bz8_z h => ?_)
      refine g_iald C hM (j := 182) (by omega) (jK_X b kc T (by omega)) (a_182 b kc) hS bz8_z (B := 301) rfl h dX6_fillRow_60 (fun z9_z bz9_z h => ?_)
      refine lv_istore (lv' := [(9, .int z9_z), (8, .int z6_z), (7, .int z2_z), (0, .ref (b + 181)), (1, .int x1), (2, .long w2), (4, .ref (b + q3)), (5, .int x4), (6, .int x5)]) hx hb dX6_fillRow_61 hl (by decide) rfl (fun ls hl => ?_)
      refine lv_aload_n hx hb dX6_fillRow_63 rfl (lv_at hl 3 rfl) ?_
      refine m_get fl_X6_9_X6 C hM (i := 181) (by omega) (e_181 b kc T S) (v := .ref (b + 182)) rfl dX6_fillRow_64 ?_
      refine lv_iload hx hb dX6_fillRow_67 (lv_at hl 2 rfl) ?_
      refine lv_iconst (v := 1) hx hb dX6_fillRow_69 (by decide) ?_
      refine g_isub hx hb bz2_z (show (1 : Int32).toInt = 1 by decide) h dX6_fillRow_70 (fun z10_z bz10_z h => ?_)
      refine lv_iload hx hb dX6_fillRow_71 (lv_at hl 2 rfl) ?_
      refine lv_iconst (v := 1) hx hb dX6_fillRow_73 (by decide) ?_
      refine g_icmp_ne (tgt := 81) hx hb bz2_z (show (1 : Int32).toInt = 1 by decide) h dX6_fillRow_74 (by decide) (fun h => ?_) (fun h => ?_)
      · refine lv_iload hx hb dX6_fillRow_81 (lv_at hl 8 rfl) ?_
        refine lv_iconst (v := 1) hx hb dX6_fillRow_83 (by decide) ?_
        refine g_iadd hx hb hx5 (show (1 : Int32).toInt = 1 by decide) h dX6_fillRow_84 (fun z11_z bz11_z h => ?_)
        exact B85 S _ _ _ z2_z (max 1 (v1 - v5)) bz2_z z6_z (min ((gi S q3 1) - v4) (v1 + v5)) bz6_z z9_z (gi S 182 ((max 1 (v1 - v5)) - 1).toNat) bz9_z z11_z (v5 + 1) bz11_z z10_z ((max 1 (v1 - v5)) - 1) bz10_z hS hM (lv_sub hl [3, 5, 6, 7, 2, 1, 0] rfl) h
      · refine lv_iload_n hx hb dX6_fillRow_77 rfl (lv_at hl 4 rfl) ?_
        refine lv_goto (tgt := 85) hx hb dX6_fillRow_78 (by decide) ?_
        exact B85 S _ _ _ z2_z (max 1 (v1 - v5)) bz2_z z6_z (min ((gi S q3 1) - v4) (v1 + v5)) bz6_z z9_z (gi S 182 ((max 1 (v1 - v5)) - 1).toNat) bz9_z x1 v1 hx1 z10_z ((max 1 (v1 - v5)) - 1) bz10_z hS hM (lv_sub hl [3, 5, 6, 7, 2, 1, 0] rfl) h
    · refine lv_iload hx hb dX6_fillRow_47 (lv_at hl 7 rfl) ?_
      refine lv_iconst (v := 1) hx hb dX6_fillRow_49 (by decide) ?_
      refine g_iadd hx hb hx5 (show (1 : Int32).toInt = 1 by decide) h dX6_fillRow_50 (fun z12_z bz12_z h => ?_)
      exact ret S _ _ _ _ z12_z (bz12_z.trans (r_1 h)) (r_2 h) hM hS dX6_fillRow_51

def f_Ruler_measure_85_b (q1 : Nat) (v2 : Int) (q3 : Nat) (v4 : Int) (v5 : Int) (kf85_ : SS → Int → Int → Int → Int → Option (Int × SS)) (S : SS) (v6_ : Int) (v7_ : Int) (v8_ : Int) (v9_ : Int) : Option (Int × SS) := (if v6_ < v9_ then w_chk (0 ≤ v7_ ∧ v7_ < 301) (some (min (gi S 182 (v7_).toNat) v8_, S)) else w_chk (i32 (v2 + v9_)) (w_chk (i32 ((v2 + v9_) - 1)) (w_b1 (f_Sheet_wordAt S q1 ((v2 + v9_) - 1)) (fun w5_z => w_b2 (f_Ruler_fillRow S v9_ w5_z q3 v4 v5) (fun r8_z S7_z => (if r8_z ≤ v5 then w_chk (i32 (v9_ + 1)) (kf85_ S7_z v6_ v7_ v8_ (v9_ + 1)) else some (v8_, S7_z)))))))
def f_Ruler_measure_85 (q1 : Nat) (v2 : Int) (q3 : Nat) (v4 : Int) (v5 : Int) : Nat → SS → Int → Int → Int → Int → Option (Int × SS)
  | 0 => fun _ _ _ _ _ => none
  | n + 1 => f_Ruler_measure_85_b q1 v2 q3 v4 v5 (f_Ruler_measure_85 q1 v2 q3 v4 v5 n)
def f_Ruler_measure_60_b (q1 : Nat) (v2 : Int) (q3 : Nat) (v4 : Int) (v5 : Int) (kf60_ : SS → Int → Int → Int → Int → Option (Int × SS)) (S : SS) (v6_ : Int) (v7_ : Int) (v8_ : Int) (v9_ : Int) : Option (Int × SS) := (if v7_ < v9_ then f_Ruler_measure_85 q1 v2 q3 v4 v5 FU S v6_ v7_ v8_ 1 else w_chk (0 ≤ v9_ ∧ v9_ < 301) (w_lt (si S 182 (v9_).toNat v9_) (fun S1_z => w_chk (i32 (v9_ + 1)) (kf60_ S1_z v6_ v7_ v8_ (v9_ + 1)))))
def f_Ruler_measure_60 (q1 : Nat) (v2 : Int) (q3 : Nat) (v4 : Int) (v5 : Int) : Nat → SS → Int → Int → Int → Int → Option (Int × SS)
  | 0 => fun _ _ _ _ _ => none
  | n + 1 => f_Ruler_measure_60_b q1 v2 q3 v4 v5 (f_Ruler_measure_60 q1 v2 q3 v4 v5 n)
def f_Ruler_measure (S : SS) (q1 : Nat) (v2 : Int) (q3 : Nat) (v4 : Int) (v5 : Int) : Option (Int × SS) := w_chk (i32 ((gi S q1 1) - v2)) (w_chk (i32 ((gi S q3 1) - v4)) (w_chk (i32 (v5 + 1)) (w_chk (i32 ((max 0 ((gi S q1 1) - v2)) - (max 0 ((gi S q3 1) - v4)))) (w_chk (i32 (0 - ((max 0 ((gi S q1 1) - v2)) - (max 0 ((gi S q3 1) - v4))))) ((if v5 < absi ((max 0 ((gi S q1 1) - v2)) - (max 0 ((gi S q3 1) - v4))) then some (v5 + 1, S) else (if max 0 ((gi S q3 1) - v4) < 301 then f_Ruler_measure_60 q1 v2 q3 v4 v5 FU S (max 0 ((gi S q1 1) - v2)) (max 0 ((gi S q3 1) - v4)) (v5 + 1) 0 else some (v5 + 1, S))))))))
set_option maxHeartbeats 4000000 in
set_option maxRecDepth 100000 in
theorem g_Ruler_measure (l : Launch) (D : va_G) (kc : Nat → ClassId) (b : Nat) (T S : SS) (q1 : Nat) (hq1 : shOk q1) (x2 : Int32) (v2 : Int) (hx2 : x2.toInt = v2) (q3 : Nat) (hq3 : shOk q3) (x4 : Int32) (v4 : Int) (hx4 : x4.toInt = v4) (x5 : Int32) (v5 : Int) (hx5 : x5.toInt = v5) (hS : rng S) {vr : Int} {Sr : SS} (h : f_Ruler_measure S q1 v2 q3 v4 v5 = some (vr, Sr)) : cI l yX6_measure cX6_measure 10 .int 3 D kc b (jX b kc T) S [.ref (b + 181), .ref (b + q1), .int x2, .ref (b + q3), .int x4, .int x5] vr Sr := by
  refine g_beg_i (by decide) (Nat.le_of_ble_eq_true rfl) ?_
  intro p e s m args below meth c Q C ret hM ls hl
  obtain ⟨hx, hb, hml, hown, hts, hE, hbs⟩ := id C
  have hl : lv_has ls 10 [(0, .ref (b + 181)), (1, .ref (b + q1)), (2, .int x2), (3, .ref (b + q3)), (4, .int x4), (5, .int x5)] := hl
  unfold f_Ruler_measure at h
  have B85 : ∀ (n : Nat), ∀ (S : SS) (H : Heap) (locs : List Loc) (ls : Array Slot) (x6_ : Int32) (v6_ : Int) (hx6_ : x6_.toInt = v6_) (x7_ : Int32) (v7_ : Int) (hx7_ : x7_.toInt = v7_) (x8_ : Int32) (v8_ : Int) (hx8_ : x8_.toInt = v8_) (x9_ : Int32) (v9_ : Int) (hx9_ : x9_.toInt = v9_), rng S → mS D b s 220 (jX b kc T S) H locs → lv_has ls 10 [(0, .ref (b + 181)), (1, .ref (b + q1)), (2, .int x2), (3, .ref (b + q3)), (4, .int x4), (5, .int x5), (6, .int x6_), (7, .int x7_), (8, .int x8_), (9, .int x9_)] → f_Ruler_measure_85 q1 v2 q3 v4 v5 n S v6_ v7_ v8_ v9_ = some (vr, Sr) → W p l e (mR 3 0 0) s m args below meth c H locs 0 0 Q (F0 m 85 ls []) := by
    intro n
    induction n with
    | zero => intro S H locs ls x6_ v6_ hx6_ x7_ v7_ hx7_ x8_ v8_ hx8_ x9_ v9_ hx9_ hS hM hl h; exact absurd (h : none = some _) (fun q => nomatch q)
    | succ n hkf85_ =>
      intro S H locs ls x6_ v6_ hx6_ x7_ v7_ hx7_ x8_ v8_ hx8_ x9_ v9_ hx9_ hS hM hl h
      have h : f_Ruler_measure_85_b q1 v2 q3 v4 v5 (f_Ruler_measure_85 q1 v2 q3 v4 v5 n) S v6_ v7_ v8_ v9_ = some (vr, Sr) := h
      unfold f_Ruler_measure_85_b at h
      refine lv_iload hx hb dX6_measure_85 (lv_at hl 9 rfl) ?_
      refine lv_iload hx hb dX6_measure_87 (lv_at hl 6 rfl) ?_
      refine g_icmp_gt (tgt := 127) hx hb hx9_ hx6_ h dX6_measure_89 (by decide) (fun h => ?_) (fun h => ?_)
      · refine lv_aload_n hx hb dX6_measure_127 rfl (lv_at hl 0 rfl) ?_
        refine m_get fl_X6_9_X6 C hM (i := 181) (by omega) (e_181 b kc T S) (v := .ref (b + 182)) rfl dX6_measure_128 ?_
        refine lv_iload hx hb dX6_measure_131 (lv_at hl 7 rfl) ?_
        refine g_iald C hM (j := 182) (by omega) (jK_X b kc T (by omega)) (a_182 b kc) hS hx7_ (B := 301) rfl h dX6_measure_133 (fun z1_z bz1_z h => ?_)
        refine lv_iload hx hb dX6_measure_134 (lv_at hl 8 rfl) ?_
        refine g_mmin hx hb (hml.trans hl.1.symm) hown (hts _ wd_930) (hts _ wd_522) (hts _ wd_91) (hts _ wd_523) (Nat.le_of_ble_eq_true rfl) (Nat.le_of_ble_eq_true rfl) (Nat.le_of_ble_eq_true rfl) (Nat.le_of_ble_eq_true rfl) bz1_z hx8_ dX6_measure_136 (fun z2_z bz2_z => ?_)
        exact ret S _ _ _ _ z2_z (bz2_z.trans (r_1 h)) (r_2 h) hM hS dX6_measure_139
      · refine lv_aload_n hx hb dX6_measure_92 rfl (lv_at hl 0 rfl) ?_
        refine lv_iload hx hb dX6_measure_93 (lv_at hl 9 rfl) ?_
        refine lv_aload_n hx hb dX6_measure_95 rfl (lv_at hl 1 rfl) ?_
        refine lv_iload_n hx hb dX6_measure_96 rfl (lv_at hl 2 rfl) ?_
        refine lv_iload hx hb dX6_measure_97 (lv_at hl 9 rfl) ?_
        refine g_iadd hx hb hx2 hx9_ h dX6_measure_99 (fun z3_z bz3_z h => ?_)
        refine lv_iconst (v := 1) hx hb dX6_measure_100 (by decide) ?_
        refine g_isub hx hb bz3_z (show (1 : Int32).toInt = 1 by decide) h dX6_measure_101 (fun z4_z bz4_z h => ?_)
        obtain ⟨w5_z, cw5_z, h⟩ := w_b1E h
        refine g_callL (J := jX b kc T) (m_runV calV_X8_wordAt wd_925 (g_Sheet_wordAt l D kc b T S q1 hq1 z4_z ((v2 + v9_) - 1) bz4_z hS cw5_z) C hM (i := q1) (by omega) (e_sh b kc T S hq1) rfl hl.1 rfl rfl (Nat.le_of_ble_eq_true rfl) dX6_measure_102 ⟨Nat.le_of_ble_eq_true rfl, Nat.le_of_ble_eq_true rfl⟩ ⟨Nat.le_of_ble_eq_true rfl, Nat.le_of_ble_eq_true rfl⟩) hM (fun z6_z H locs bz6_z hM hS => ?_)
        have ez6_z := bz6_z.symm
        subst ez6_z
        refine lv_aload_n hx hb dX6_measure_105 rfl (lv_at hl 3 rfl) ?_
        refine lv_iload hx hb dX6_measure_106 (lv_at hl 4 rfl) ?_
        refine lv_iload hx hb dX6_measure_108 (lv_at hl 5 rfl) ?_
        obtain ⟨r8_z, S7_z, cr8_z, h⟩ := w_b2E h
        refine g_callI (J := jX b kc T) (m_runV calV_X6_fillRow wd_926 (g_Ruler_fillRow l D kc b T S x9_ v9_ hx9_ w5_z q3 hq3 x4 v4 hx4 x5 v5 hx5 hS cr8_z) C hM (i := 181) (by omega) (e_181 b kc T S) rfl hl.1 rfl rfl (Nat.le_of_ble_eq_true rfl) dX6_measure_110 ⟨Nat.le_of_ble_eq_true rfl, Nat.le_of_ble_eq_true rfl⟩ ⟨Nat.le_of_ble_eq_true rfl, Nat.le_of_ble_eq_true rfl⟩) hM (fun z9_z H locs bz9_z hM hS => ?_)
        refine lv_iload hx hb dX6_measure_113 (lv_at hl 5 rfl) ?_
        refine g_icmp_le (tgt := 121) hx hb bz9_z hx5 h dX6_measure_115 (by decide) (fun h => ?_) (fun h => ?_)
        · refine g_iinc (y := 1) hx hb hx9_ (by decide) (by decide) h dX6_measure_121 hl (k := 9) rfl (by decide) (fun z10_z ls bz10_z h hl => ?_)
          have hl : lv_has ls 10 [(9, .int z10_z), (0, .ref (b + 181)), (1, .ref (b + q1)), (2, .int x2), (3, .ref (b + q3)), (4, .int x4), (5, .int x5), (6, .int x6_), (7, .int x7_), (8, .int x8_)] := hl
          refine lv_goto (tgt := 85) hx hb dX6_measure_124 (by decide) ?_
          exact hkf85_ S7_z _ _ _ x6_ v6_ hx6_ x7_ v7_ hx7_ x8_ v8_ hx8_ z10_z (v9_ + 1) bz10_z hS hM (lv_sub hl [1, 2, 3, 4, 5, 6, 7, 8, 9, 0] rfl) h
        · refine lv_iload hx hb dX6_measure_118 (lv_at hl 8 rfl) ?_
          exact ret S7_z _ _ _ _ x8_ (hx8_.trans (r_1 h)) (r_2 h) hM hS dX6_measure_120
  have B60 : ∀ (n : Nat), ∀ (S : SS) (H : Heap) (locs : List Loc) (ls : Array Slot) (x6_ : Int32) (v6_ : Int) (hx6_ : x6_.toInt = v6_) (x7_ : Int32) (v7_ : Int) (hx7_ : x7_.toInt = v7_) (x8_ : Int32) (v8_ : Int) (hx8_ : x8_.toInt = v8_) (x9_ : Int32) (v9_ : Int) (hx9_ : x9_.toInt = v9_), rng S → mS D b s 220 (jX b kc T S) H locs → lv_has ls 10 [(0, .ref (b + 181)), (1, .ref (b + q1)), (2, .int x2), (3, .ref (b + q3)), (4, .int x4), (5, .int x5), (6, .int x6_), (7, .int x7_), (8, .int x8_), (9, .int x9_)] → f_Ruler_measure_60 q1 v2 q3 v4 v5 n S v6_ v7_ v8_ v9_ = some (vr, Sr) → W p l e (mR 3 0 0) s m args below meth c H locs 0 0 Q (F0 m 60 ls []) := by
    intro n
    induction n with
    | zero => intro S H locs ls x6_ v6_ hx6_ x7_ v7_ hx7_ x8_ v8_ hx8_ x9_ v9_ hx9_ hS hM hl h; exact absurd (h : none = some _) (fun q => nomatch q)
    | succ n hkf60_ =>
      intro S H locs ls x6_ v6_ hx6_ x7_ v7_ hx7_ x8_ v8_ hx8_ x9_ v9_ hx9_ hS hM hl h
      have h : f_Ruler_measure_60_b q1 v2 q3 v4 v5 (f_Ruler_measure_60 q1 v2 q3 v4 v5 n) S v6_ v7_ v8_ v9_ = some (vr, Sr) := h
      unfold f_Ruler_measure_60_b at h
      refine lv_iload hx hb dX6_measure_60 (lv_at hl 9 rfl) ?_
      refine lv_iload hx hb dX6_measure_62 (lv_at hl 7 rfl) ?_
      refine g_icmp_gt (tgt := 82) hx hb hx9_ hx7_ h dX6_measure_64 (by decide) (fun h => ?_) (fun h => ?_)
      · refine lv_iconst (v := 1) hx hb dX6_measure_82 (by decide) ?_
        refine lv_istore (lv' := [(9, .int 1), (0, .ref (b + 181)), (1, .ref (b + q1)), (2, .int x2), (3, .ref (b + q3)), (4, .int x4), (5, .int x5), (6, .int x6_), (7, .int x7_), (8, .int x8_)]) hx hb dX6_measure_83 hl (by decide) rfl (fun ls hl => ?_)
        exact B85 FU S _ _ _ x6_ v6_ hx6_ x7_ v7_ hx7_ x8_ v8_ hx8_ 1 1 (show (1 : Int32).toInt = 1 by decide) hS hM (lv_sub hl [1, 2, 3, 4, 5, 6, 7, 8, 9, 0] rfl) h
      · refine lv_aload_n hx hb dX6_measure_67 rfl (lv_at hl 0 rfl) ?_
        refine m_get fl_X6_9_X6 C hM (i := 181) (by omega) (e_181 b kc T S) (v := .ref (b + 182)) rfl dX6_measure_68 ?_
        refine lv_iload hx hb dX6_measure_71 (lv_at hl 9 rfl) ?_
        refine lv_iload hx hb dX6_measure_73 (lv_at hl 9 rfl) ?_
        refine g_iast C hM (j := 182) (by omega) (jK_X b kc T (by omega)) (a_182 b kc) hS hx9_ hx9_ (B := 301) rfl h dX6_measure_75 (fun S1_z H locs h hM hS => ?_)
        refine g_iinc (y := 1) hx hb hx9_ (by decide) (by decide) h dX6_measure_76 hl (k := 9) rfl (by decide) (fun z2_z ls bz2_z h hl => ?_)
        have hl : lv_has ls 10 [(9, .int z2_z), (0, .ref (b + 181)), (1, .ref (b + q1)), (2, .int x2), (3, .ref (b + q3)), (4, .int x4), (5, .int x5), (6, .int x6_), (7, .int x7_), (8, .int x8_)] := hl
        refine lv_goto (tgt := 60) hx hb dX6_measure_79 (by decide) ?_
        exact hkf60_ S1_z _ _ _ x6_ v6_ hx6_ x7_ v7_ hx7_ x8_ v8_ hx8_ z2_z (v9_ + 1) bz2_z hS hM (lv_sub hl [1, 2, 3, 4, 5, 6, 7, 8, 9, 0] rfl) h
  refine lv_iconst (v := 0) hx hb dX6_measure_0 (by decide) ?_
  refine lv_aload_n hx hb dX6_measure_1 rfl (lv_at hl 1 rfl) ?_
  refine g_getN fl_X6_15_X8 C hM (i := q1) (r := q1) (by omega) (e_sh b kc T S hq1) rfl hS dX6_measure_2 (fun z1_z bz1_z => ?_)
  refine lv_iload_n hx hb dX6_measure_5 rfl (lv_at hl 2 rfl) ?_
  refine g_isub hx hb bz1_z hx2 h dX6_measure_6 (fun z2_z bz2_z h => ?_)
  refine g_mmax hx hb (hml.trans hl.1.symm) hown (hts _ wd_921) (hts _ wd_519) (hts _ wd_91) (hts _ wd_520) (Nat.le_of_ble_eq_true rfl) (Nat.le_of_ble_eq_true rfl) (Nat.le_of_ble_eq_true rfl) (Nat.le_of_ble_eq_true rfl) (show (0 : Int32).toInt = 0 by decide) bz2_z dX6_measure_7 (fun z3_z bz3_z => ?_)
  refine lv_istore (lv' := [(6, .int z3_z), (0, .ref (b + 181)), (1, .ref (b + q1)), (2, .int x2), (3, .ref (b + q3)), (4, .int x4), (5, .int x5)]) hx hb dX6_measure_10 hl (by decide) rfl (fun ls hl => ?_)
  refine lv_iconst (v := 0) hx hb dX6_measure_12 (by decide) ?_
  refine lv_aload_n hx hb dX6_measure_13 rfl (lv_at hl 4 rfl) ?_
  refine g_getN fl_X6_15_X8 C hM (i := q3) (r := q3) (by omega) (e_sh b kc T S hq3) rfl hS dX6_measure_14 (fun z4_z bz4_z => ?_)
  refine lv_iload hx hb dX6_measure_17 (lv_at hl 5 rfl) ?_
  refine g_isub hx hb bz4_z hx4 h dX6_measure_19 (fun z5_z bz5_z h => ?_)
  refine g_mmax hx hb (hml.trans hl.1.symm) hown (hts _ wd_921) (hts _ wd_519) (hts _ wd_91) (hts _ wd_520) (Nat.le_of_ble_eq_true rfl) (Nat.le_of_ble_eq_true rfl) (Nat.le_of_ble_eq_true rfl) (Nat.le_of_ble_eq_true rfl) (show (0 : Int32).toInt = 0 by decide) bz5_z dX6_measure_20 (fun z6_z bz6_z => ?_)
  refine lv_istore (lv' := [(7, .int z6_z), (6, .int z3_z), (0, .ref (b + 181)), (1, .ref (b + q1)), (2, .int x2), (3, .ref (b + q3)), (4, .int x4), (5, .int x5)]) hx hb dX6_measure_23 hl (by decide) rfl (fun ls hl => ?_)
  refine lv_iload hx hb dX6_measure_25 (lv_at hl 7 rfl) ?_
  refine lv_iconst (v := 1) hx hb dX6_measure_27 (by decide) ?_
  refine g_iadd hx hb hx5 (show (1 : Int32).toInt = 1 by decide) h dX6_measure_28 (fun z7_z bz7_z h => ?_)
  refine lv_istore (lv' := [(8, .int z7_z), (7, .int z6_z), (6, .int z3_z), (0, .ref (b + 181)), (1, .ref (b + q1)), (2, .int x2), (3, .ref (b + q3)), (4, .int x4), (5, .int x5)]) hx hb dX6_measure_29 hl (by decide) rfl (fun ls hl => ?_)
  refine lv_iload hx hb dX6_measure_31 (lv_at hl 2 rfl) ?_
  refine lv_iload hx hb dX6_measure_33 (lv_at hl 1 rfl) ?_
  refine g_isub hx hb bz3_z bz6_z h dX6_measure_35 (fun z8_z bz8_z h => ?_)
  obtain ⟨cz9_z, h⟩ := w_chkE h
  refine g_mabs hx hb (hml.trans hl.1.symm) hown (hts _ wd_922) (hts _ wd_923) (hts _ wd_91) (hts _ wd_924) (Nat.le_of_ble_eq_true rfl) (Nat.le_of_ble_eq_true rfl) (Nat.le_of_ble_eq_true rfl) (Nat.le_of_ble_eq_true rfl) bz8_z cz9_z dX6_measure_36 (fun z9_z bz9_z => ?_)
  refine lv_iload hx hb dX6_measure_39 (lv_at hl 8 rfl) ?_
  refine g_icmp_gt (tgt := 54) hx hb bz9_z hx5 h dX6_measure_41 (by decide) (fun h => ?_) (fun h => ?_)
  · refine lv_iload hx hb dX6_measure_54 (lv_at hl 0 rfl) ?_
    exact ret S _ _ _ _ z7_z (bz7_z.trans (r_1 h)) (r_2 h) hM hS dX6_measure_56
  · refine lv_iload hx hb dX6_measure_44 (lv_at hl 1 rfl) ?_
    refine lv_aload_n hx hb dX6_measure_46 rfl (lv_at hl 3 rfl) ?_
    refine m_get fl_X6_9_X6 C hM (i := 181) (by omega) (e_181 b kc T S) (v := .ref (b + 182)) rfl dX6_measure_47 ?_
    refine m_alen C hM (j := 182) (by omega) 1 (e_182 b kc T S) rfl (v := 301) rfl dX6_measure_50 ?_
    refine g_icmp_lt (tgt := 57) hx hb bz6_z (show (301 : Int32).toInt = 301 by decide) h dX6_measure_51 (by decide) (fun h => ?_) (fun h => ?_)
    · refine lv_iconst (v := 0) hx hb dX6_measure_57 (by decide) ?_
      refine lv_istore (lv' := [(9, .int 0), (8, .int z7_z), (7, .int z6_z), (6, .int z3_z), (0, .ref (b + 181)), (1, .ref (b + q1)), (2, .int x2), (3, .ref (b + q3)), (4, .int x4), (5, .int x5)]) hx hb dX6_measure_58 hl (by decide) rfl (fun ls hl => ?_)
      exact B60 FU S _ _ _ z3_z (max 0 ((gi S q1 1) - v2)) bz3_z z6_z (max 0 ((gi S q3 1) - v4)) bz6_z z7_z (v5 + 1) bz7_z 0 0 (show (0 : Int32).toInt = 0 by decide) hS hM (lv_sub hl [4, 5, 6, 7, 8, 9, 3, 2, 1, 0] rfl) h
    · refine lv_iload hx hb dX6_measure_54 (lv_at hl 0 rfl) ?_
      exact ret S _ _ _ _ z7_z (bz7_z.trans (r_1 h)) (r_2 h) hM hS dX6_measure_56

def f_Holding_distanceFor (S : SS) (v1 : Int) : Option Int := (if v1 < 0 then some (-1) else (if 1 ≤ gi S 183 5 then w_chk (0 ≤ v1 ∧ 0 < (gi S 183 5)) (some (min 300 (v1 / (gi S 183 5)))) else some (-1)))
set_option maxHeartbeats 4000000 in
set_option maxRecDepth 100000 in
theorem g_Holding_distanceFor (l : Launch) (D : va_G) (kc : Nat → ClassId) (b : Nat) (T S : SS) (x1 : Int32) (v1 : Int) (hx1 : x1.toInt = v1) (hS : rng S) {vr : Int} (h : f_Holding_distanceFor S v1 = some vr) : cI l yX2_distanceFor cX2_distanceFor 2 .int 2 D kc b (jX b kc T) S [.ref (b + 183), .int x1] vr S := by
  refine g_beg_i (by decide) (Nat.le_of_ble_eq_true rfl) ?_
  intro p e s m args below meth c Q C ret hM ls hl
  obtain ⟨hx, hb, hml, hown, hts, hE, hbs⟩ := id C
  have hl : lv_has ls 2 [(0, .ref (b + 183)), (1, .int x1)] := hl
  unfold f_Holding_distanceFor at h
  refine lv_iload_n hx hb dX2_distanceFor_0 rfl (lv_at hl 1 rfl) ?_
  refine g_if_lt (tgt := 12) hx hb hx1 h dX2_distanceFor_1 (by decide) (fun h => ?_) (fun h => ?_)
  · refine lv_iconst (v := (-1)) hx hb dX2_distanceFor_12 (by decide) ?_
    exact ret S _ _ _ _ (-1) ((show ((-1) : Int32).toInt = (-1) by decide).trans (Option.some.inj h)) rfl hM hS dX2_distanceFor_13
  · refine lv_aload_n hx hb dX2_distanceFor_4 rfl (lv_at hl 0 rfl) ?_
    refine g_get fl_X2_33_X2 C hM (i := 183) (r := 183) (by omega) (e_183 b kc T S) rfl hS dX2_distanceFor_5 (fun z1_z bz1_z => ?_)
    refine lv_iconst (v := 1) hx hb dX2_distanceFor_8 (by decide) ?_
    refine g_icmp_ge (tgt := 14) hx hb bz1_z (show (1 : Int32).toInt = 1 by decide) h dX2_distanceFor_9 (by decide) (fun h => ?_) (fun h => ?_)
    · refine lv_sipush (v := 300) hx hb dX2_distanceFor_14 (by decide) ?_
      refine lv_iload_n hx hb dX2_distanceFor_17 rfl (lv_at hl 1 rfl) ?_
      refine lv_aload_n hx hb dX2_distanceFor_18 rfl (lv_at hl 0 rfl) ?_
      refine g_get fl_X2_33_X2 C hM (i := 183) (r := 183) (by omega) (e_183 b kc T S) rfl hS dX2_distanceFor_19 (fun z2_z bz2_z => ?_)
      refine g_idiv hx hb hx1 bz2_z h dX2_distanceFor_22 (fun z3_z bz3_z h => ?_)
      refine g_mmin hx hb (hml.trans hl.1.symm) hown (hts _ wd_904) (hts _ wd_522) (hts _ wd_91) (hts _ wd_523) (Nat.le_of_ble_eq_true rfl) (Nat.le_of_ble_eq_true rfl) (Nat.le_of_ble_eq_true rfl) (Nat.le_of_ble_eq_true rfl) (show (300 : Int32).toInt = 300 by decide) bz3_z dX2_distanceFor_23 (fun z4_z bz4_z => ?_)
      exact ret S _ _ _ _ z4_z (bz4_z.trans (Option.some.inj h)) rfl hM hS dX2_distanceFor_26
    · refine lv_iconst (v := (-1)) hx hb dX2_distanceFor_12 (by decide) ?_
      exact ret S _ _ _ _ (-1) ((show ((-1) : Int32).toInt = (-1) by decide).trans (Option.some.inj h)) rfl hM hS dX2_distanceFor_13

def f_Holding_listMissed_61 (kf7_ : SS → Int → Option SS) (S : SS) (v2_ : Int) : Option SS := w_chk (i32 (v2_ + 1)) (kf7_ S (v2_ + 1))
def f_Holding_listMissed_7_b (kf7_ : SS → Int → Option SS) (S : SS) (v2_ : Int) : Option SS := (if 8 ≤ v2_ then some S else (if andi (shri (gi S 183 8) v2_) 1 = 1 then (if 8 ≤ gi S 183 9 then f_Holding_listMissed_61 kf7_ S v2_ else w_b1 (f_Pile_doneNumber S v2_) (fun r6_z => w_chk (0 ≤ (gi S 183 9) ∧ (gi S 183 9) < 8) (w_lt (si S 186 (gi S 183 9).toNat r6_z) (fun S8_z => w_chk (i32 ((gi S8_z 183 9) + 1)) (w_lt (si S8_z 183 9 ((gi S8_z 183 9) + 1)) (fun S11_z => f_Holding_listMissed_61 kf7_ S11_z v2_)))))) else f_Holding_listMissed_61 kf7_ S v2_))
def f_Holding_listMissed_7 : Nat → SS → Int → Option SS
  | 0 => fun _ _ => none
  | n + 1 => f_Holding_listMissed_7_b (f_Holding_listMissed_7 n)
def f_Holding_listMissed (S : SS) : Option SS := w_lt (si S 183 9 0) (fun S1_z => f_Holding_listMissed_7 FU S1_z 0)
set_option maxHeartbeats 4000000 in
set_option maxRecDepth 100000 in
theorem g_Holding_listMissed (l : Launch) (D : va_G) (kc : Nat → ClassId) (b : Nat) (T S : SS) (hS : rng S) {Sr : SS} (h : f_Holding_listMissed S = some Sr) : cV l yX2_listMissed cX2_listMissed 3 2 D kc b (jX b kc T) S [.ref (b + 183), .ref (b + 10)] Sr := by
  refine g_beg_v (by decide) (Nat.le_of_ble_eq_true rfl) ?_
  intro p e s m args below meth c Q C ret hM ls hl
  obtain ⟨hx, hb, hml, hown, hts, hE, hbs⟩ := id C
  have hl : lv_has ls 3 [(0, .ref (b + 183)), (1, .ref (b + 10))] := hl
  unfold f_Holding_listMissed at h
  have B61 : ∀ (kf7_ : SS → Int → Option SS) (hkf7_ : ∀ (S : SS) (H : Heap) (locs : List Loc) (ls : Array Slot) (x2_ : Int32) (v2_ : Int) (hx2_ : x2_.toInt = v2_), rng S → mS D b s 220 (jX b kc T S) H locs → lv_has ls 3 [(0, .ref (b + 183)), (1, .ref (b + 10)), (2, .int x2_)] → kf7_ S v2_ = some Sr → W p l e (mR 2 0 0) s m args below meth c H locs 0 0 Q (F0 m 7 ls [])), ∀ (S : SS) (H : Heap) (locs : List Loc) (ls : Array Slot) (x2_ : Int32) (v2_ : Int) (hx2_ : x2_.toInt = v2_), rng S → mS D b s 220 (jX b kc T S) H locs → lv_has ls 3 [(0, .ref (b + 183)), (1, .ref (b + 10)), (2, .int x2_)] → f_Holding_listMissed_61 kf7_ S v2_ = some Sr → W p l e (mR 2 0 0) s m args below meth c H locs 0 0 Q (F0 m 61 ls []) := by
    intro kf7_ hkf7_ S H locs ls x2_ v2_ hx2_ hS hM hl h
    unfold f_Holding_listMissed_61 at h
    refine g_iinc (y := 1) hx hb hx2_ (by decide) (by decide) h dX2_listMissed_61 hl (k := 2) rfl (by decide) (fun z1_z ls bz1_z h hl => ?_)
    have hl : lv_has ls 3 [(2, .int z1_z), (0, .ref (b + 183)), (1, .ref (b + 10))] := hl
    refine lv_goto (tgt := 7) hx hb dX2_listMissed_64 (by decide) ?_
    exact hkf7_ S _ _ _ z1_z (v2_ + 1) bz1_z hS hM (lv_sub hl [1, 2, 0] rfl) h
  have B7 : ∀ (n : Nat), ∀ (S : SS) (H : Heap) (locs : List Loc) (ls : Array Slot) (x2_ : Int32) (v2_ : Int) (hx2_ : x2_.toInt = v2_), rng S → mS D b s 220 (jX b kc T S) H locs → lv_has ls 3 [(0, .ref (b + 183)), (1, .ref (b + 10)), (2, .int x2_)] → f_Holding_listMissed_7 n S v2_ = some Sr → W p l e (mR 2 0 0) s m args below meth c H locs 0 0 Q (F0 m 7 ls []) := by
    intro n
    induction n with
    | zero => intro S H locs ls x2_ v2_ hx2_ hS hM hl h; exact absurd (h : none = some _) (fun q => nomatch q)
    | succ n hkf7_ =>
      intro S H locs ls x2_ v2_ hx2_ hS hM hl h
      have h : f_Holding_listMissed_7_b (f_Holding_listMissed_7 n) S v2_ = some Sr := h
      unfold f_Holding_listMissed_7_b at h
      refine lv_iload_n hx hb dX2_listMissed_7 rfl (lv_at hl 2 rfl) ?_
      refine lv_bipush (v := 8) hx hb dX2_listMissed_8 (by decide) ?_
      refine g_icmp_ge (tgt := 67) hx hb hx2_ (show (8 : Int32).toInt = 8 by decide) h dX2_listMissed_10 (by decide) (fun h => ?_) (fun h => ?_)
      · exact ret S _ _ _ _ (Option.some.inj h) hM hS dX2_listMissed_67
      · refine lv_aload_n hx hb dX2_listMissed_13 rfl (lv_at hl 0 rfl) ?_
        refine g_get fl_X2_77_X2 C hM (i := 183) (r := 183) (by omega) (e_183 b kc T S) rfl hS dX2_listMissed_14 (fun z1_z bz1_z => ?_)
        refine lv_iload_n hx hb dX2_listMissed_17 rfl (lv_at hl 2 rfl) ?_
        refine g_ishr hx hb bz1_z hx2_ dX2_listMissed_18 (fun z2_z bz2_z => ?_)
        refine lv_iconst (v := 1) hx hb dX2_listMissed_19 (by decide) ?_
        refine g_iand hx hb bz2_z (show (1 : Int32).toInt = 1 by decide) dX2_listMissed_20 (fun z3_z bz3_z => ?_)
        refine lv_iconst (v := 1) hx hb dX2_listMissed_21 (by decide) ?_
        refine g_icmp_ne (tgt := 61) hx hb bz3_z (show (1 : Int32).toInt = 1 by decide) h dX2_listMissed_22 (by decide) (fun h => ?_) (fun h => ?_)
        · exact B61 (f_Holding_listMissed_7 n) hkf7_ S _ _ _ x2_ v2_ hx2_ hS hM (lv_sub hl [0, 1, 2] rfl) h
        · refine lv_aload_n hx hb dX2_listMissed_25 rfl (lv_at hl 0 rfl) ?_
          refine g_get fl_X2_95_X2 C hM (i := 183) (r := 183) (by omega) (e_183 b kc T S) rfl hS dX2_listMissed_26 (fun z4_z bz4_z => ?_)
          refine lv_aload_n hx hb dX2_listMissed_29 rfl (lv_at hl 0 rfl) ?_
          refine m_get fl_X2_20_X2 C hM (i := 183) (by omega) (e_183 b kc T S) (v := .ref (b + 186)) rfl dX2_listMissed_30 ?_
          refine m_alen C hM (j := 186) (by omega) 1 (e_186 b kc T S) rfl (v := 8) rfl dX2_listMissed_33 ?_
          refine g_icmp_ge (tgt := 61) hx hb bz4_z (show (8 : Int32).toInt = 8 by decide) h dX2_listMissed_34 (by decide) (fun h => ?_) (fun h => ?_)
          · exact B61 (f_Holding_listMissed_7 n) hkf7_ S _ _ _ x2_ v2_ hx2_ hS hM (lv_sub hl [0, 1, 2] rfl) h
          · refine lv_aload_n hx hb dX2_listMissed_37 rfl (lv_at hl 0 rfl) ?_
            refine m_get fl_X2_20_X2 C hM (i := 183) (by omega) (e_183 b kc T S) (v := .ref (b + 186)) rfl dX2_listMissed_38 ?_
            refine lv_aload_n hx hb dX2_listMissed_41 rfl (lv_at hl 0 rfl) ?_
            refine g_get fl_X2_95_X2 C hM (i := 183) (r := 183) (by omega) (e_183 b kc T S) rfl hS dX2_listMissed_42 (fun z5_z bz5_z => ?_)
            refine lv_aload_n hx hb dX2_listMissed_45 rfl (lv_at hl 1 rfl) ?_
            refine lv_iload_n hx hb dX2_listMissed_46 rfl (lv_at hl 2 rfl) ?_
            obtain ⟨r6_z, cr6_z, h⟩ := w_b1E h
            refine g_callI (J := jX b kc T) (m_runV calV_X5_doneNumber wd_935 (g_Pile_doneNumber l D kc b T S x2_ v2_ hx2_ hS cr6_z) C hM (i := 10) (by omega) (e_10 b kc T S) rfl hl.1 rfl rfl (Nat.le_of_ble_eq_true rfl) dX2_listMissed_47 ⟨Nat.le_of_ble_eq_true rfl, Nat.le_of_ble_eq_true rfl⟩ ⟨Nat.le_of_ble_eq_true rfl, Nat.le_of_ble_eq_true rfl⟩) hM (fun z7_z H locs bz7_z hM hS => ?_)
            refine g_iast C hM (j := 186) (by omega) (jK_X b kc T (by omega)) (a_186 b kc) hS bz5_z bz7_z (B := 8) rfl h dX2_listMissed_50 (fun S8_z H locs h hM hS => ?_)
            refine lv_aload_n hx hb dX2_listMissed_51 rfl (lv_at hl 0 rfl) ?_
            refine lv_dup hx hb dX2_listMissed_52 rfl ?_
            refine g_get fl_X2_95_X2 C hM (i := 183) (r := 183) (by omega) (e_183 b kc T S8_z) rfl hS dX2_listMissed_53 (fun z9_z bz9_z => ?_)
            refine lv_iconst (v := 1) hx hb dX2_listMissed_56 (by decide) ?_
            refine g_iadd hx hb bz9_z (show (1 : Int32).toInt = 1 by decide) h dX2_listMissed_57 (fun z10_z bz10_z h => ?_)
            refine g_put fl_X2_95_X2 C hM (i := 183) (by omega) (e_183 b kc T S8_z) rfl rfl (Nat.le_of_ble_eq_true rfl) (fs1 := [.ref (b + 184), .ref (b + 186), .ref (b + 187), .ref (b + 188), .ref (b + 189), .int (oi (gi S8_z 183 5)), .int (oi (gi S8_z 183 6)), .int (oi (gi S8_z 183 7)), .int (oi (gi S8_z 183 8)), .int z10_z, .int (oi (gi S8_z 183 10)), .int (oi (gi S8_z 183 11))]) rfl (p_183_9 bz10_z) (rng_si hS (i32_of bz10_z)) h dX2_listMissed_58 (fun S11_z H locs h hM hS => ?_)
            exact B61 (f_Holding_listMissed_7 n) hkf7_ S11_z _ _ _ x2_ v2_ hx2_ hS hM (lv_sub hl [0, 1, 2] rfl) h
  refine lv_aload_n hx hb dX2_listMissed_0 rfl (lv_at hl 0 rfl) ?_
  refine lv_iconst (v := 0) hx hb dX2_listMissed_1 (by decide) ?_
  refine g_put fl_X2_95_X2 C hM (i := 183) (by omega) (e_183 b kc T S) rfl rfl (Nat.le_of_ble_eq_true rfl) (fs1 := [.ref (b + 184), .ref (b + 186), .ref (b + 187), .ref (b + 188), .ref (b + 189), .int (oi (gi S 183 5)), .int (oi (gi S 183 6)), .int (oi (gi S 183 7)), .int (oi (gi S 183 8)), .int 0, .int (oi (gi S 183 10)), .int (oi (gi S 183 11))]) rfl (p_183_9 (show (0 : Int32).toInt = 0 by decide)) (rng_si hS (i32_of (show (0 : Int32).toInt = 0 by decide))) h dX2_listMissed_2 (fun S1_z H locs h hM hS => ?_)
  refine lv_iconst (v := 0) hx hb dX2_listMissed_5 (by decide) ?_
  refine lv_istore_n (lv' := [(2, .int 0), (0, .ref (b + 183)), (1, .ref (b + 10))]) hx hb dX2_listMissed_6 rfl hl (by decide) rfl (fun ls hl => ?_)
  exact B7 FU S1_z _ _ _ 0 0 (show (0 : Int32).toInt = 0 by decide) hS hM (lv_sub hl [1, 2, 0] rfl) h

def f_Holding_note (S : SS) (v1 : Int) (v2 : Int) (v3 : Int) : Option SS := (if gi S 183 11 < 0 then some S else (if 150 ≤ gi S 183 11 then some S else w_chk (0 ≤ (gi S 183 11) ∧ (gi S 183 11) < 150) (w_lt (si S 187 (gi S 183 11).toNat v1) (fun S4_z => w_chk (0 ≤ (gi S4_z 183 11) ∧ (gi S4_z 183 11) < 150) (w_lt (si S4_z 188 (gi S4_z 183 11).toNat v2) (fun S6_z => w_chk (0 ≤ (gi S6_z 183 11) ∧ (gi S6_z 183 11) < 150) (w_lt (si S6_z 189 (gi S6_z 183 11).toNat v3) (fun S8_z => w_chk (i32 ((gi S8_z 183 11) + 1)) (w_lt (si S8_z 183 11 ((gi S8_z 183 11) + 1)) (fun S11_z => some S11_z))))))))))
set_option maxHeartbeats 4000000 in
set_option maxRecDepth 100000 in
theorem g_Holding_note (l : Launch) (D : va_G) (kc : Nat → ClassId) (b : Nat) (T S : SS) (x1 : Int32) (v1 : Int) (hx1 : x1.toInt = v1) (x2 : Int32) (v2 : Int) (hx2 : x2.toInt = v2) (x3 : Int32) (v3 : Int) (hx3 : x3.toInt = v3) (hS : rng S) {Sr : SS} (h : f_Holding_note S v1 v2 v3 = some Sr) : cV l yX2_note cX2_note 4 1 D kc b (jX b kc T) S [.ref (b + 183), .int x1, .int x2, .int x3] Sr := by
  refine g_beg_v (by decide) (Nat.le_of_ble_eq_true rfl) ?_
  intro p e s m args below meth c Q C ret hM ls hl
  obtain ⟨hx, hb, hml, hown, hts, hE, hbs⟩ := id C
  have hl : lv_has ls 4 [(0, .ref (b + 183)), (1, .int x1), (2, .int x2), (3, .int x3)] := hl
  unfold f_Holding_note at h
  refine lv_aload_n hx hb dX2_note_0 rfl (lv_at hl 0 rfl) ?_
  refine g_get fl_X2_101_X2 C hM (i := 183) (r := 183) (by omega) (e_183 b kc T S) rfl hS dX2_note_1 (fun z1_z bz1_z => ?_)
  refine g_if_lt (tgt := 57) hx hb bz1_z h dX2_note_4 (by decide) (fun h => ?_) (fun h => ?_)
  · exact ret S _ _ _ _ (Option.some.inj h) hM hS dX2_note_57
  · refine lv_aload_n hx hb dX2_note_7 rfl (lv_at hl 0 rfl) ?_
    refine g_get fl_X2_101_X2 C hM (i := 183) (r := 183) (by omega) (e_183 b kc T S) rfl hS dX2_note_8 (fun z2_z bz2_z => ?_)
    refine lv_sipush (v := 150) hx hb dX2_note_11 (by decide) ?_
    refine g_icmp_ge (tgt := 57) hx hb bz2_z (show (150 : Int32).toInt = 150 by decide) h dX2_note_14 (by decide) (fun h => ?_) (fun h => ?_)
    · exact ret S _ _ _ _ (Option.some.inj h) hM hS dX2_note_57
    · refine lv_aload_n hx hb dX2_note_17 rfl (lv_at hl 0 rfl) ?_
      refine m_get fl_X2_24_X2 C hM (i := 183) (by omega) (e_183 b kc T S) (v := .ref (b + 187)) rfl dX2_note_18 ?_
      refine lv_aload_n hx hb dX2_note_21 rfl (lv_at hl 0 rfl) ?_
      refine g_get fl_X2_101_X2 C hM (i := 183) (r := 183) (by omega) (e_183 b kc T S) rfl hS dX2_note_22 (fun z3_z bz3_z => ?_)
      refine lv_iload_n hx hb dX2_note_25 rfl (lv_at hl 1 rfl) ?_
      refine g_iast C hM (j := 187) (by omega) (jK_X b kc T (by omega)) (a_187 b kc) hS bz3_z hx1 (B := 150) rfl h dX2_note_26 (fun S4_z H locs h hM hS => ?_)
      refine lv_aload_n hx hb dX2_note_27 rfl (lv_at hl 0 rfl) ?_
      refine m_get fl_X2_27_X2 C hM (i := 183) (by omega) (e_183 b kc T S4_z) (v := .ref (b + 188)) rfl dX2_note_28 ?_
      refine lv_aload_n hx hb dX2_note_31 rfl (lv_at hl 0 rfl) ?_
      refine g_get fl_X2_101_X2 C hM (i := 183) (r := 183) (by omega) (e_183 b kc T S4_z) rfl hS dX2_note_32 (fun z5_z bz5_z => ?_)
      refine lv_iload_n hx hb dX2_note_35 rfl (lv_at hl 2 rfl) ?_
      refine g_iast C hM (j := 188) (by omega) (jK_X b kc T (by omega)) (a_188 b kc) hS bz5_z hx2 (B := 150) rfl h dX2_note_36 (fun S6_z H locs h hM hS => ?_)
      refine lv_aload_n hx hb dX2_note_37 rfl (lv_at hl 0 rfl) ?_
      refine m_get fl_X2_30_X2 C hM (i := 183) (by omega) (e_183 b kc T S6_z) (v := .ref (b + 189)) rfl dX2_note_38 ?_
      refine lv_aload_n hx hb dX2_note_41 rfl (lv_at hl 0 rfl) ?_
      refine g_get fl_X2_101_X2 C hM (i := 183) (r := 183) (by omega) (e_183 b kc T S6_z) rfl hS dX2_note_42 (fun z7_z bz7_z => ?_)
      refine lv_iload_n hx hb dX2_note_45 rfl (lv_at hl 3 rfl) ?_
      refine g_iast C hM (j := 189) (by omega) (jK_X b kc T (by omega)) (a_189 b kc) hS bz7_z hx3 (B := 150) rfl h dX2_note_46 (fun S8_z H locs h hM hS => ?_)
      refine lv_aload_n hx hb dX2_note_47 rfl (lv_at hl 0 rfl) ?_
      refine lv_dup hx hb dX2_note_48 rfl ?_
      refine g_get fl_X2_101_X2 C hM (i := 183) (r := 183) (by omega) (e_183 b kc T S8_z) rfl hS dX2_note_49 (fun z9_z bz9_z => ?_)
      refine lv_iconst (v := 1) hx hb dX2_note_52 (by decide) ?_
      refine g_iadd hx hb bz9_z (show (1 : Int32).toInt = 1 by decide) h dX2_note_53 (fun z10_z bz10_z h => ?_)
      refine g_put fl_X2_101_X2 C hM (i := 183) (by omega) (e_183 b kc T S8_z) rfl rfl (Nat.le_of_ble_eq_true rfl) (fs1 := [.ref (b + 184), .ref (b + 186), .ref (b + 187), .ref (b + 188), .ref (b + 189), .int (oi (gi S8_z 183 5)), .int (oi (gi S8_z 183 6)), .int (oi (gi S8_z 183 7)), .int (oi (gi S8_z 183 8)), .int (oi (gi S8_z 183 9)), .int (oi (gi S8_z 183 10)), .int z10_z]) rfl (p_183_11 bz10_z) (rng_si hS (i32_of bz10_z)) h dX2_note_54 (fun S11_z H locs h hM hS => ?_)
      exact ret S11_z _ _ _ _ (Option.some.inj h) hM hS dX2_note_57

def f_Holding_listChanges_224 (q1 : Nat) (kf33_ : SS → Int → Int → Int → Int → Int → Option SS) (S : SS) (v3_ : Int) (v4_ : Int) (v5_ : Int) (v6_ : Int) (v7_ : Int) : Option SS := w_chk (i32 (v7_ + 1)) (kf33_ S v3_ v4_ v5_ v6_ (v7_ + 1))
def f_Holding_listChanges_213 (q1 : Nat) (kf33_ : SS → Int → Int → Int → Int → Int → Option SS) (S : SS) (v3_ : Int) (v4_ : Int) (v5_ : Int) (v6_ : Int) (v7_ : Int) : Option SS := w_b1 (f_Holding_note S 2 v3_ v4_) (fun S1_z => w_chk (i32 (v4_ + 1)) (f_Holding_listChanges_224 q1 kf33_ S1_z v3_ (v4_ + 1) v5_ v6_ v7_))
def f_Holding_listChanges_167 (q1 : Nat) (kf33_ : SS → Int → Int → Int → Int → Int → Option SS) (S : SS) (v3_ : Int) (v4_ : Int) (v5_ : Int) (v6_ : Int) (v7_ : Int) : Option SS := (if gi S 184 1 ≤ v3_ then f_Holding_listChanges_213 q1 kf33_ S v3_ v4_ v5_ v6_ v7_ else w_chk (i32 (v3_ + 1)) (w_b2 (f_Ruler_measure S 184 (v3_ + 1) q1 v4_ v5_) (fun r4_z S3_z => (if v5_ < r4_z then f_Holding_listChanges_213 q1 kf33_ S3_z v3_ v4_ v5_ v6_ v7_ else w_b1 (f_Holding_note S3_z 1 v3_ v4_) (fun S6_z => w_chk (i32 (v3_ + 1)) (f_Holding_listChanges_224 q1 kf33_ S6_z (v3_ + 1) v4_ v5_ v6_ v7_))))))
def f_Holding_listChanges_119 (q1 : Nat) (kf33_ : SS → Int → Int → Int → Int → Int → Option SS) (S : SS) (v3_ : Int) (v4_ : Int) (v5_ : Int) (v6_ : Int) (v7_ : Int) (v8_ : Int) : Option SS := w_chk (i32 (v5_ + (-1))) ((if v8_ = 0 then f_Holding_listChanges_167 q1 kf33_ S v3_ v4_ (v5_ + (-1)) v6_ v7_ else w_chk (i32 (v3_ + 1)) (w_chk (i32 (v4_ + 1)) (w_b2 (f_Ruler_measure S 184 (v3_ + 1) q1 (v4_ + 1) (v5_ + (-1))) (fun r5_z S4_z => (if v5_ + (-1) < r5_z then f_Holding_listChanges_167 q1 kf33_ S4_z v3_ v4_ (v5_ + (-1)) v6_ v7_ else w_b1 (f_Holding_note S4_z 0 v3_ v4_) (fun S7_z => w_chk (i32 (v3_ + 1)) (w_chk (i32 (v4_ + 1)) (f_Holding_listChanges_224 q1 kf33_ S7_z (v3_ + 1) (v4_ + 1) (v5_ + (-1)) v6_ v7_)))))))))
def f_Holding_listChanges_85 (q1 : Nat) (kf33_ : SS → Int → Int → Int → Int → Int → Option SS) (S : SS) (v3_ : Int) (v4_ : Int) (v5_ : Int) (v6_ : Int) (v7_ : Int) (vt0_ : Int) : Option SS := (if vt0_ = 0 then f_Holding_listChanges_119 q1 kf33_ S v3_ v4_ v5_ v6_ v7_ vt0_ else w_b1 (f_Sheet_wordAt S 184 v3_) (fun w1_z => w_b1 (f_Sheet_wordAt S q1 v4_) (fun w3_z => (if w1_z = w3_z then w_chk (i32 (v3_ + 1)) (w_chk (i32 (v4_ + 1)) (f_Holding_listChanges_224 q1 kf33_ S (v3_ + 1) (v4_ + 1) v5_ v6_ v7_)) else f_Holding_listChanges_119 q1 kf33_ S v3_ v4_ v5_ v6_ v7_ vt0_))))
def f_Holding_listChanges_84 (q1 : Nat) (kf33_ : SS → Int → Int → Int → Int → Int → Option SS) (S : SS) (v3_ : Int) (v4_ : Int) (v5_ : Int) (v6_ : Int) (v7_ : Int) : Option SS := f_Holding_listChanges_85 q1 kf33_ S v3_ v4_ v5_ v6_ v7_ 0
def f_Holding_listChanges_60 (q1 : Nat) (kf33_ : SS → Int → Int → Int → Int → Int → Option SS) (S : SS) (v3_ : Int) (v4_ : Int) (v5_ : Int) (v6_ : Int) (v7_ : Int) : Option SS := (if gi S 184 1 ≤ v3_ then f_Holding_listChanges_84 q1 kf33_ S v3_ v4_ v5_ v6_ v7_ else (if gi S q1 1 ≤ v4_ then f_Holding_listChanges_84 q1 kf33_ S v3_ v4_ v5_ v6_ v7_ else f_Holding_listChanges_85 q1 kf33_ S v3_ v4_ v5_ v6_ v7_ 1))
def f_Holding_listChanges_33_b (q1 : Nat) (kf33_ : SS → Int → Int → Int → Int → Int → Option SS) (S : SS) (v3_ : Int) (v4_ : Int) (v5_ : Int) (v6_ : Int) (v7_ : Int) : Option SS := (if v6_ ≤ v7_ then some S else (if v3_ < gi S 184 1 then f_Holding_listChanges_60 q1 kf33_ S v3_ v4_ v5_ v6_ v7_ else (if gi S q1 1 ≤ v4_ then some S else f_Holding_listChanges_60 q1 kf33_ S v3_ v4_ v5_ v6_ v7_)))
def f_Holding_listChanges_33 (q1 : Nat) : Nat → SS → Int → Int → Int → Int → Int → Option SS
  | 0 => fun _ _ _ _ _ _ => none
  | n + 1 => f_Holding_listChanges_33_b q1 (f_Holding_listChanges_33 q1 n)
def f_Holding_listChanges (S : SS) (q1 : Nat) : Option SS := w_lt (si S 183 11 0) (fun S1_z => w_chk (i32 ((gi S1_z 184 1) + (gi S1_z q1 1))) (f_Holding_listChanges_33 q1 FU S1_z 0 0 (gi S1_z 183 10) ((gi S1_z 184 1) + (gi S1_z q1 1)) 0))
set_option maxHeartbeats 4000000 in
set_option maxRecDepth 100000 in
theorem g_Holding_listChanges (l : Launch) (D : va_G) (kc : Nat → ClassId) (b : Nat) (T S : SS) (q1 : Nat) (hq1 : shOk q1) (hS : rng S) {Sr : SS} (h : f_Holding_listChanges S q1 = some Sr) : cV l yX2_listChanges cX2_listChanges 9 4 D kc b (jX b kc T) S [.ref (b + 183), .ref (b + q1), .ref (b + 181)] Sr := by
  refine g_beg_v (by decide) (Nat.le_of_ble_eq_true rfl) ?_
  intro p e s m args below meth c Q C ret hM ls hl
  obtain ⟨hx, hb, hml, hown, hts, hE, hbs⟩ := id C
  have hl : lv_has ls 9 [(0, .ref (b + 183)), (1, .ref (b + q1)), (2, .ref (b + 181))] := hl
  unfold f_Holding_listChanges at h
  have B224 : ∀ (kf33_ : SS → Int → Int → Int → Int → Int → Option SS) (hkf33_ : ∀ (S : SS) (H : Heap) (locs : List Loc) (ls : Array Slot) (x3_ : Int32) (v3_ : Int) (hx3_ : x3_.toInt = v3_) (x4_ : Int32) (v4_ : Int) (hx4_ : x4_.toInt = v4_) (x5_ : Int32) (v5_ : Int) (hx5_ : x5_.toInt = v5_) (x6_ : Int32) (v6_ : Int) (hx6_ : x6_.toInt = v6_) (x7_ : Int32) (v7_ : Int) (hx7_ : x7_.toInt = v7_), rng S → mS D b s 220 (jX b kc T S) H locs → lv_has ls 9 [(0, .ref (b + 183)), (1, .ref (b + q1)), (2, .ref (b + 181)), (3, .int x3_), (4, .int x4_), (5, .int x5_), (6, .int x6_), (7, .int x7_)] → kf33_ S v3_ v4_ v5_ v6_ v7_ = some Sr → W p l e (mR 4 0 0) s m args below meth c H locs 0 0 Q (F0 m 33 ls [])), ∀ (S : SS) (H : Heap) (locs : List Loc) (ls : Array Slot) (x3_ : Int32) (v3_ : Int) (hx3_ : x3_.toInt = v3_) (x4_ : Int32) (v4_ : Int) (hx4_ : x4_.toInt = v4_) (x5_ : Int32) (v5_ : Int) (hx5_ : x5_.toInt = v5_) (x6_ : Int32) (v6_ : Int) (hx6_ : x6_.toInt = v6_) (x7_ : Int32) (v7_ : Int) (hx7_ : x7_.toInt = v7_), rng S → mS D b s 220 (jX b kc T S) H locs → lv_has ls 9 [(0, .ref (b + 183)), (1, .ref (b + q1)), (2, .ref (b + 181)), (3, .int x3_), (4, .int x4_), (5, .int x5_), (6, .int x6_), (7, .int x7_)] → f_Holding_listChanges_224 q1 kf33_ S v3_ v4_ v5_ v6_ v7_ = some Sr → W p l e (mR 4 0 0) s m args below meth c H locs 0 0 Q (F0 m 224 ls []) := by
    intro kf33_ hkf33_ S H locs ls x3_ v3_ hx3_ x4_ v4_ hx4_ x5_ v5_ hx5_ x6_ v6_ hx6_ x7_ v7_ hx7_ hS hM hl h
    unfold f_Holding_listChanges_224 at h
    refine g_iinc (y := 1) hx hb hx7_ (by decide) (by decide) h dX2_listChanges_224 hl (k := 7) rfl (by decide) (fun z1_z ls bz1_z h hl => ?_)
    have hl : lv_has ls 9 [(7, .int z1_z), (0, .ref (b + 183)), (1, .ref (b + q1)), (2, .ref (b + 181)), (3, .int x3_), (4, .int x4_), (5, .int x5_), (6, .int x6_)] := hl
    refine lv_goto (tgt := 33) hx hb dX2_listChanges_227 (by decide) ?_
    exact hkf33_ S _ _ _ x3_ v3_ hx3_ x4_ v4_ hx4_ x5_ v5_ hx5_ x6_ v6_ hx6_ z1_z (v7_ + 1) bz1_z hS hM (lv_sub hl [1, 2, 3, 4, 5, 6, 7, 0] rfl) h
  have B213 : ∀ (kf33_ : SS → Int → Int → Int → Int → Int → Option SS) (hkf33_ : ∀ (S : SS) (H : Heap) (locs : List Loc) (ls : Array Slot) (x3_ : Int32) (v3_ : Int) (hx3_ : x3_.toInt = v3_) (x4_ : Int32) (v4_ : Int) (hx4_ : x4_.toInt = v4_) (x5_ : Int32) (v5_ : Int) (hx5_ : x5_.toInt = v5_) (x6_ : Int32) (v6_ : Int) (hx6_ : x6_.toInt = v6_) (x7_ : Int32) (v7_ : Int) (hx7_ : x7_.toInt = v7_), rng S → mS D b s 220 (jX b kc T S) H locs → lv_has ls 9 [(0, .ref (b + 183)), (1, .ref (b + q1)), (2, .ref (b + 181)), (3, .int x3_), (4, .int x4_), (5, .int x5_), (6, .int x6_), (7, .int x7_)] → kf33_ S v3_ v4_ v5_ v6_ v7_ = some Sr → W p l e (mR 4 0 0) s m args below meth c H locs 0 0 Q (F0 m 33 ls [])), ∀ (S : SS) (H : Heap) (locs : List Loc) (ls : Array Slot) (x3_ : Int32) (v3_ : Int) (hx3_ : x3_.toInt = v3_) (x4_ : Int32) (v4_ : Int) (hx4_ : x4_.toInt = v4_) (x5_ : Int32) (v5_ : Int) (hx5_ : x5_.toInt = v5_) (x6_ : Int32) (v6_ : Int) (hx6_ : x6_.toInt = v6_) (x7_ : Int32) (v7_ : Int) (hx7_ : x7_.toInt = v7_), rng S → mS D b s 220 (jX b kc T S) H locs → lv_has ls 9 [(0, .ref (b + 183)), (1, .ref (b + q1)), (2, .ref (b + 181)), (3, .int x3_), (4, .int x4_), (5, .int x5_), (6, .int x6_), (7, .int x7_)] → f_Holding_listChanges_213 q1 kf33_ S v3_ v4_ v5_ v6_ v7_ = some Sr → W p l e (mR 4 0 0) s m args below meth c H locs 0 0 Q (F0 m 213 ls []) := by
    intro kf33_ hkf33_ S H locs ls x3_ v3_ hx3_ x4_ v4_ hx4_ x5_ v5_ hx5_ x6_ v6_ hx6_ x7_ v7_ hx7_ hS hM hl h
    unfold f_Holding_listChanges_213 at h
    refine lv_aload_n hx hb dX2_listChanges_213 rfl (lv_at hl 0 rfl) ?_
    refine lv_iconst (v := 2) hx hb dX2_listChanges_214 (by decide) ?_
    refine lv_iload_n hx hb dX2_listChanges_215 rfl (lv_at hl 3 rfl) ?_
    refine lv_iload hx hb dX2_listChanges_216 (lv_at hl 4 rfl) ?_
    obtain ⟨S1_z, cS1_z, h⟩ := w_b1E h
    refine g_callV (J := jX b kc T) (m_runV calV_X2_note wd_941 (g_Holding_note l D kc b T S 2 2 (show (2 : Int32).toInt = 2 by decide) x3_ v3_ hx3_ x4_ v4_ hx4_ hS cS1_z) C hM (i := 183) (by omega) (e_183 b kc T S) rfl hl.1 rfl rfl (Nat.le_of_ble_eq_true rfl) dX2_listChanges_218 ⟨Nat.le_of_ble_eq_true rfl, Nat.le_of_ble_eq_true rfl⟩ ⟨Nat.le_of_ble_eq_true rfl, Nat.le_of_ble_eq_true rfl⟩) hM (fun H locs hM hS => ?_)
    refine g_iinc (y := 1) hx hb hx4_ (by decide) (by decide) h dX2_listChanges_221 hl (k := 4) rfl (by decide) (fun z3_z ls bz3_z h hl => ?_)
    have hl : lv_has ls 9 [(4, .int z3_z), (0, .ref (b + 183)), (1, .ref (b + q1)), (2, .ref (b + 181)), (3, .int x3_), (5, .int x5_), (6, .int x6_), (7, .int x7_)] := hl
    exact B224 kf33_ hkf33_ S1_z _ _ _ x3_ v3_ hx3_ z3_z (v4_ + 1) bz3_z x5_ v5_ hx5_ x6_ v6_ hx6_ x7_ v7_ hx7_ hS hM (lv_sub hl [1, 2, 3, 4, 0, 5, 6, 7] rfl) h
  have B167 : ∀ (kf33_ : SS → Int → Int → Int → Int → Int → Option SS) (hkf33_ : ∀ (S : SS) (H : Heap) (locs : List Loc) (ls : Array Slot) (x3_ : Int32) (v3_ : Int) (hx3_ : x3_.toInt = v3_) (x4_ : Int32) (v4_ : Int) (hx4_ : x4_.toInt = v4_) (x5_ : Int32) (v5_ : Int) (hx5_ : x5_.toInt = v5_) (x6_ : Int32) (v6_ : Int) (hx6_ : x6_.toInt = v6_) (x7_ : Int32) (v7_ : Int) (hx7_ : x7_.toInt = v7_), rng S → mS D b s 220 (jX b kc T S) H locs → lv_has ls 9 [(0, .ref (b + 183)), (1, .ref (b + q1)), (2, .ref (b + 181)), (3, .int x3_), (4, .int x4_), (5, .int x5_), (6, .int x6_), (7, .int x7_)] → kf33_ S v3_ v4_ v5_ v6_ v7_ = some Sr → W p l e (mR 4 0 0) s m args below meth c H locs 0 0 Q (F0 m 33 ls [])), ∀ (S : SS) (H : Heap) (locs : List Loc) (ls : Array Slot) (x3_ : Int32) (v3_ : Int) (hx3_ : x3_.toInt = v3_) (x4_ : Int32) (v4_ : Int) (hx4_ : x4_.toInt = v4_) (x5_ : Int32) (v5_ : Int) (hx5_ : x5_.toInt = v5_) (x6_ : Int32) (v6_ : Int) (hx6_ : x6_.toInt = v6_) (x7_ : Int32) (v7_ : Int) (hx7_ : x7_.toInt = v7_), rng S → mS D b s 220 (jX b kc T S) H locs → lv_has ls 9 [(0, .ref (b + 183)), (1, .ref (b + q1)), (2, .ref (b + 181)), (3, .int x3_), (4, .int x4_), (5, .int x5_), (6, .int x6_), (7, .int x7_)] → f_Holding_listChanges_167 q1 kf33_ S v3_ v4_ v5_ v6_ v7_ = some Sr → W p l e (mR 4 0 0) s m args below meth c H locs 0 0 Q (F0 m 167 ls []) := by
    intro kf33_ hkf33_ S H locs ls x3_ v3_ hx3_ x4_ v4_ hx4_ x5_ v5_ hx5_ x6_ v6_ hx6_ x7_ v7_ hx7_ hS hM hl h
    unfold f_Holding_listChanges_167 at h
    refine lv_iload_n hx hb dX2_listChanges_167 rfl (lv_at hl 3 rfl) ?_
    refine lv_aload_n hx hb dX2_listChanges_168 rfl (lv_at hl 0 rfl) ?_
    refine m_get fl_X2_14_X2 C hM (i := 183) (by omega) (e_183 b kc T S) (v := .ref (b + 184)) rfl dX2_listChanges_169 ?_
    refine g_getN fl_X2_104_X8 C hM (i := 184) (r := 184) (by omega) (e_sh b kc T S (show shOk 184 by decide)) rfl hS dX2_listChanges_172 (fun z1_z bz1_z => ?_)
    refine g_icmp_ge (tgt := 213) hx hb hx3_ bz1_z h dX2_listChanges_175 (by decide) (fun h => ?_) (fun h => ?_)
    · exact B213 kf33_ hkf33_ S _ _ _ x3_ v3_ hx3_ x4_ v4_ hx4_ x5_ v5_ hx5_ x6_ v6_ hx6_ x7_ v7_ hx7_ hS hM (lv_sub hl [0, 1, 2, 3, 4, 5, 6, 7] rfl) h
    · refine lv_aload_n hx hb dX2_listChanges_178 rfl (lv_at hl 2 rfl) ?_
      refine lv_aload_n hx hb dX2_listChanges_179 rfl (lv_at hl 0 rfl) ?_
      refine m_get fl_X2_14_X2 C hM (i := 183) (by omega) (e_183 b kc T S) (v := .ref (b + 184)) rfl dX2_listChanges_180 ?_
      refine lv_iload_n hx hb dX2_listChanges_183 rfl (lv_at hl 3 rfl) ?_
      refine lv_iconst (v := 1) hx hb dX2_listChanges_184 (by decide) ?_
      refine g_iadd hx hb hx3_ (show (1 : Int32).toInt = 1 by decide) h dX2_listChanges_185 (fun z2_z bz2_z h => ?_)
      refine lv_aload_n hx hb dX2_listChanges_186 rfl (lv_at hl 1 rfl) ?_
      refine lv_iload hx hb dX2_listChanges_187 (lv_at hl 4 rfl) ?_
      refine lv_iload hx hb dX2_listChanges_189 (lv_at hl 5 rfl) ?_
      obtain ⟨r4_z, S3_z, cr4_z, h⟩ := w_b2E h
      refine g_callI (J := jX b kc T) (m_runV calV_X6_measure wd_917 (g_Ruler_measure l D kc b T S 184 (show shOk 184 by decide) z2_z (v3_ + 1) bz2_z q1 hq1 x4_ v4_ hx4_ x5_ v5_ hx5_ hS cr4_z) C hM (i := 181) (by omega) (e_181 b kc T S) rfl hl.1 rfl rfl (Nat.le_of_ble_eq_true rfl) dX2_listChanges_191 ⟨Nat.le_of_ble_eq_true rfl, Nat.le_of_ble_eq_true rfl⟩ ⟨Nat.le_of_ble_eq_true rfl, Nat.le_of_ble_eq_true rfl⟩) hM (fun z5_z H locs bz5_z hM hS => ?_)
      refine lv_iload hx hb dX2_listChanges_194 (lv_at hl 5 rfl) ?_
      refine g_icmp_gt (tgt := 213) hx hb bz5_z hx5_ h dX2_listChanges_196 (by decide) (fun h => ?_) (fun h => ?_)
      · exact B213 kf33_ hkf33_ S3_z _ _ _ x3_ v3_ hx3_ x4_ v4_ hx4_ x5_ v5_ hx5_ x6_ v6_ hx6_ x7_ v7_ hx7_ hS hM (lv_sub hl [0, 1, 2, 3, 4, 5, 6, 7] rfl) h
      · refine lv_aload_n hx hb dX2_listChanges_199 rfl (lv_at hl 0 rfl) ?_
        refine lv_iconst (v := 1) hx hb dX2_listChanges_200 (by decide) ?_
        refine lv_iload_n hx hb dX2_listChanges_201 rfl (lv_at hl 3 rfl) ?_
        refine lv_iload hx hb dX2_listChanges_202 (lv_at hl 4 rfl) ?_
        obtain ⟨S6_z, cS6_z, h⟩ := w_b1E h
        refine g_callV (J := jX b kc T) (m_runV calV_X2_note wd_941 (g_Holding_note l D kc b T S3_z 1 1 (show (1 : Int32).toInt = 1 by decide) x3_ v3_ hx3_ x4_ v4_ hx4_ hS cS6_z) C hM (i := 183) (by omega) (e_183 b kc T S3_z) rfl hl.1 rfl rfl (Nat.le_of_ble_eq_true rfl) dX2_listChanges_204 ⟨Nat.le_of_ble_eq_true rfl, Nat.le_of_ble_eq_true rfl⟩ ⟨Nat.le_of_ble_eq_true rfl, Nat.le_of_ble_eq_true rfl⟩) hM (fun H locs hM hS => ?_)
        refine g_iinc (y := 1) hx hb hx3_ (by decide) (by decide) h dX2_listChanges_207 hl (k := 3) rfl (by decide) (fun z8_z ls bz8_z h hl => ?_)
        have hl : lv_has ls 9 [(3, .int z8_z), (0, .ref (b + 183)), (1, .ref (b + q1)), (2, .ref (b + 181)), (4, .int x4_), (5, .int x5_), (6, .int x6_), (7, .int x7_)] := hl
        refine lv_goto (tgt := 224) hx hb dX2_listChanges_210 (by decide) ?_
        exact B224 kf33_ hkf33_ S6_z _ _ _ z8_z (v3_ + 1) bz8_z x4_ v4_ hx4_ x5_ v5_ hx5_ x6_ v6_ hx6_ x7_ v7_ hx7_ hS hM (lv_sub hl [1, 2, 3, 0, 4, 5, 6, 7] rfl) h
  have B119 : ∀ (kf33_ : SS → Int → Int → Int → Int → Int → Option SS) (hkf33_ : ∀ (S : SS) (H : Heap) (locs : List Loc) (ls : Array Slot) (x3_ : Int32) (v3_ : Int) (hx3_ : x3_.toInt = v3_) (x4_ : Int32) (v4_ : Int) (hx4_ : x4_.toInt = v4_) (x5_ : Int32) (v5_ : Int) (hx5_ : x5_.toInt = v5_) (x6_ : Int32) (v6_ : Int) (hx6_ : x6_.toInt = v6_) (x7_ : Int32) (v7_ : Int) (hx7_ : x7_.toInt = v7_), rng S → mS D b s 220 (jX b kc T S) H locs → lv_has ls 9 [(0, .ref (b + 183)), (1, .ref (b + q1)), (2, .ref (b + 181)), (3, .int x3_), (4, .int x4_), (5, .int x5_), (6, .int x6_), (7, .int x7_)] → kf33_ S v3_ v4_ v5_ v6_ v7_ = some Sr → W p l e (mR 4 0 0) s m args below meth c H locs 0 0 Q (F0 m 33 ls [])), ∀ (S : SS) (H : Heap) (locs : List Loc) (ls : Array Slot) (x3_ : Int32) (v3_ : Int) (hx3_ : x3_.toInt = v3_) (x4_ : Int32) (v4_ : Int) (hx4_ : x4_.toInt = v4_) (x5_ : Int32) (v5_ : Int) (hx5_ : x5_.toInt = v5_) (x6_ : Int32) (v6_ : Int) (hx6_ : x6_.toInt = v6_) (x7_ : Int32) (v7_ : Int) (hx7_ : x7_.toInt = v7_) (x8_ : Int32) (v8_ : Int) (hx8_ : x8_.toInt = v8_), rng S → mS D b s 220 (jX b kc T S) H locs → lv_has ls 9 [(0, .ref (b + 183)), (1, .ref (b + q1)), (2, .ref (b + 181)), (3, .int x3_), (4, .int x4_), (5, .int x5_), (6, .int x6_), (7, .int x7_), (8, .int x8_)] → f_Holding_listChanges_119 q1 kf33_ S v3_ v4_ v5_ v6_ v7_ v8_ = some Sr → W p l e (mR 4 0 0) s m args below meth c H locs 0 0 Q (F0 m 119 ls []) := by
    intro kf33_ hkf33_ S H locs ls x3_ v3_ hx3_ x4_ v4_ hx4_ x5_ v5_ hx5_ x6_ v6_ hx6_ x7_ v7_ hx7_ x8_ v8_ hx8_ hS hM hl h
    unfold f_Holding_listChanges_119 at h
    refine g_iinc (y := (-1)) hx hb hx5_ (by decide) (by decide) h dX2_listChanges_119 hl (k := 5) rfl (by decide) (fun z1_z ls bz1_z h hl => ?_)
    have hl : lv_has ls 9 [(5, .int z1_z), (0, .ref (b + 183)), (1, .ref (b + q1)), (2, .ref (b + 181)), (3, .int x3_), (4, .int x4_), (6, .int x6_), (7, .int x7_), (8, .int x8_)] := hl
    refine lv_iload hx hb dX2_listChanges_122 (lv_at hl 8 rfl) ?_
    refine g_if_eq (tgt := 167) hx hb hx8_ h dX2_listChanges_124 (by decide) (fun h => ?_) (fun h => ?_)
    · exact B167 kf33_ hkf33_ S _ _ _ x3_ v3_ hx3_ x4_ v4_ hx4_ z1_z (v5_ + (-1)) bz1_z x6_ v6_ hx6_ x7_ v7_ hx7_ hS hM (lv_sub hl [1, 2, 3, 4, 5, 0, 6, 7] rfl) h
    · refine lv_aload_n hx hb dX2_listChanges_127 rfl (lv_at hl 3 rfl) ?_
      refine lv_aload_n hx hb dX2_listChanges_128 rfl (lv_at hl 1 rfl) ?_
      refine m_get fl_X2_14_X2 C hM (i := 183) (by omega) (e_183 b kc T S) (v := .ref (b + 184)) rfl dX2_listChanges_129 ?_
      refine lv_iload_n hx hb dX2_listChanges_132 rfl (lv_at hl 4 rfl) ?_
      refine lv_iconst (v := 1) hx hb dX2_listChanges_133 (by decide) ?_
      refine g_iadd hx hb hx3_ (show (1 : Int32).toInt = 1 by decide) h dX2_listChanges_134 (fun z2_z bz2_z h => ?_)
      refine lv_aload_n hx hb dX2_listChanges_135 rfl (lv_at hl 2 rfl) ?_
      refine lv_iload hx hb dX2_listChanges_136 (lv_at hl 5 rfl) ?_
      refine lv_iconst (v := 1) hx hb dX2_listChanges_138 (by decide) ?_
      refine g_iadd hx hb hx4_ (show (1 : Int32).toInt = 1 by decide) h dX2_listChanges_139 (fun z3_z bz3_z h => ?_)
      refine lv_iload hx hb dX2_listChanges_140 (lv_at hl 0 rfl) ?_
      obtain ⟨r5_z, S4_z, cr5_z, h⟩ := w_b2E h
      refine g_callI (J := jX b kc T) (m_runV calV_X6_measure wd_917 (g_Ruler_measure l D kc b T S 184 (show shOk 184 by decide) z2_z (v3_ + 1) bz2_z q1 hq1 z3_z (v4_ + 1) bz3_z z1_z (v5_ + (-1)) bz1_z hS cr5_z) C hM (i := 181) (by omega) (e_181 b kc T S) rfl hl.1 rfl rfl (Nat.le_of_ble_eq_true rfl) dX2_listChanges_142 ⟨Nat.le_of_ble_eq_true rfl, Nat.le_of_ble_eq_true rfl⟩ ⟨Nat.le_of_ble_eq_true rfl, Nat.le_of_ble_eq_true rfl⟩) hM (fun z6_z H locs bz6_z hM hS => ?_)
      refine lv_iload hx hb dX2_listChanges_145 (lv_at hl 0 rfl) ?_
      refine g_icmp_gt (tgt := 167) hx hb bz6_z bz1_z h dX2_listChanges_147 (by decide) (fun h => ?_) (fun h => ?_)
      · exact B167 kf33_ hkf33_ S4_z _ _ _ x3_ v3_ hx3_ x4_ v4_ hx4_ z1_z (v5_ + (-1)) bz1_z x6_ v6_ hx6_ x7_ v7_ hx7_ hS hM (lv_sub hl [1, 2, 3, 4, 5, 0, 6, 7] rfl) h
      · refine lv_aload_n hx hb dX2_listChanges_150 rfl (lv_at hl 1 rfl) ?_
        refine lv_iconst (v := 0) hx hb dX2_listChanges_151 (by decide) ?_
        refine lv_iload_n hx hb dX2_listChanges_152 rfl (lv_at hl 4 rfl) ?_
        refine lv_iload hx hb dX2_listChanges_153 (lv_at hl 5 rfl) ?_
        obtain ⟨S7_z, cS7_z, h⟩ := w_b1E h
        refine g_callV (J := jX b kc T) (m_runV calV_X2_note wd_941 (g_Holding_note l D kc b T S4_z 0 0 (show (0 : Int32).toInt = 0 by decide) x3_ v3_ hx3_ x4_ v4_ hx4_ hS cS7_z) C hM (i := 183) (by omega) (e_183 b kc T S4_z) rfl hl.1 rfl rfl (Nat.le_of_ble_eq_true rfl) dX2_listChanges_155 ⟨Nat.le_of_ble_eq_true rfl, Nat.le_of_ble_eq_true rfl⟩ ⟨Nat.le_of_ble_eq_true rfl, Nat.le_of_ble_eq_true rfl⟩) hM (fun H locs hM hS => ?_)
        refine g_iinc (y := 1) hx hb hx3_ (by decide) (by decide) h dX2_listChanges_158 hl (k := 4) rfl (by decide) (fun z9_z ls bz9_z h hl => ?_)
        have hl : lv_has ls 9 [(3, .int z9_z), (5, .int z1_z), (0, .ref (b + 183)), (1, .ref (b + q1)), (2, .ref (b + 181)), (4, .int x4_), (6, .int x6_), (7, .int x7_), (8, .int x8_)] := hl
        refine g_iinc (y := 1) hx hb hx4_ (by decide) (by decide) h dX2_listChanges_161 hl (k := 5) rfl (by decide) (fun z10_z ls bz10_z h hl => ?_)
        have hl : lv_has ls 9 [(4, .int z10_z), (3, .int z9_z), (5, .int z1_z), (0, .ref (b + 183)), (1, .ref (b + q1)), (2, .ref (b + 181)), (6, .int x6_), (7, .int x7_), (8, .int x8_)] := hl
        refine lv_goto (tgt := 224) hx hb dX2_listChanges_164 (by decide) ?_
        exact B224 kf33_ hkf33_ S7_z _ _ _ z9_z (v3_ + 1) bz9_z z10_z (v4_ + 1) bz10_z z1_z (v5_ + (-1)) bz1_z x6_ v6_ hx6_ x7_ v7_ hx7_ hS hM (lv_sub hl [3, 4, 5, 1, 0, 2, 6, 7] rfl) h
  have B85 : ∀ (kf33_ : SS → Int → Int → Int → Int → Int → Option SS) (hkf33_ : ∀ (S : SS) (H : Heap) (locs : List Loc) (ls : Array Slot) (x3_ : Int32) (v3_ : Int) (hx3_ : x3_.toInt = v3_) (x4_ : Int32) (v4_ : Int) (hx4_ : x4_.toInt = v4_) (x5_ : Int32) (v5_ : Int) (hx5_ : x5_.toInt = v5_) (x6_ : Int32) (v6_ : Int) (hx6_ : x6_.toInt = v6_) (x7_ : Int32) (v7_ : Int) (hx7_ : x7_.toInt = v7_), rng S → mS D b s 220 (jX b kc T S) H locs → lv_has ls 9 [(0, .ref (b + 183)), (1, .ref (b + q1)), (2, .ref (b + 181)), (3, .int x3_), (4, .int x4_), (5, .int x5_), (6, .int x6_), (7, .int x7_)] → kf33_ S v3_ v4_ v5_ v6_ v7_ = some Sr → W p l e (mR 4 0 0) s m args below meth c H locs 0 0 Q (F0 m 33 ls [])), ∀ (S : SS) (H : Heap) (locs : List Loc) (ls : Array Slot) (x3_ : Int32) (v3_ : Int) (hx3_ : x3_.toInt = v3_) (x4_ : Int32) (v4_ : Int) (hx4_ : x4_.toInt = v4_) (x5_ : Int32) (v5_ : Int) (hx5_ : x5_.toInt = v5_) (x6_ : Int32) (v6_ : Int) (hx6_ : x6_.toInt = v6_) (x7_ : Int32) (v7_ : Int) (hx7_ : x7_.toInt = v7_) (xt0_ : Int32) (vt0_ : Int) (hxt0_ : xt0_.toInt = vt0_), rng S → mS D b s 220 (jX b kc T S) H locs → lv_has ls 9 [(0, .ref (b + 183)), (1, .ref (b + q1)), (2, .ref (b + 181)), (3, .int x3_), (4, .int x4_), (5, .int x5_), (6, .int x6_), (7, .int x7_)] → f_Holding_listChanges_85 q1 kf33_ S v3_ v4_ v5_ v6_ v7_ vt0_ = some Sr → W p l e (mR 4 0 0) s m args below meth c H locs 0 0 Q (F0 m 85 ls [.int xt0_]) := by
    intro kf33_ hkf33_ S H locs ls x3_ v3_ hx3_ x4_ v4_ hx4_ x5_ v5_ hx5_ x6_ v6_ hx6_ x7_ v7_ hx7_ xt0_ vt0_ hxt0_ hS hM hl h
    unfold f_Holding_listChanges_85 at h
    refine lv_istore (lv' := [(8, .int xt0_), (0, .ref (b + 183)), (1, .ref (b + q1)), (2, .ref (b + 181)), (3, .int x3_), (4, .int x4_), (5, .int x5_), (6, .int x6_), (7, .int x7_)]) hx hb dX2_listChanges_85 hl (by decide) rfl (fun ls hl => ?_)
    refine lv_iload hx hb dX2_listChanges_87 (lv_at hl 0 rfl) ?_
    refine g_if_eq (tgt := 119) hx hb hxt0_ h dX2_listChanges_89 (by decide) (fun h => ?_) (fun h => ?_)
    · exact B119 kf33_ hkf33_ S _ _ _ x3_ v3_ hx3_ x4_ v4_ hx4_ x5_ v5_ hx5_ x6_ v6_ hx6_ x7_ v7_ hx7_ xt0_ vt0_ hxt0_ hS hM (lv_sub hl [1, 2, 3, 4, 5, 6, 7, 8, 0] rfl) h
    · refine lv_aload_n hx hb dX2_listChanges_92 rfl (lv_at hl 1 rfl) ?_
      refine m_get fl_X2_14_X2 C hM (i := 183) (by omega) (e_183 b kc T S) (v := .ref (b + 184)) rfl dX2_listChanges_93 ?_
      refine lv_iload_n hx hb dX2_listChanges_96 rfl (lv_at hl 4 rfl) ?_
      obtain ⟨w1_z, cw1_z, h⟩ := w_b1E h
      refine g_callL (J := jX b kc T) (m_runV calV_X8_wordAt wd_940 (g_Sheet_wordAt l D kc b T S 184 (show shOk 184 by decide) x3_ v3_ hx3_ hS cw1_z) C hM (i := 184) (by omega) (e_sh b kc T S (show shOk 184 by decide)) rfl hl.1 rfl rfl (Nat.le_of_ble_eq_true rfl) dX2_listChanges_97 ⟨Nat.le_of_ble_eq_true rfl, Nat.le_of_ble_eq_true rfl⟩ ⟨Nat.le_of_ble_eq_true rfl, Nat.le_of_ble_eq_true rfl⟩) hM (fun z2_z H locs bz2_z hM hS => ?_)
      have ez2_z := bz2_z.symm
      subst ez2_z
      refine lv_aload_n hx hb dX2_listChanges_100 rfl (lv_at hl 2 rfl) ?_
      refine lv_iload hx hb dX2_listChanges_101 (lv_at hl 5 rfl) ?_
      obtain ⟨w3_z, cw3_z, h⟩ := w_b1E h
      refine g_callL (J := jX b kc T) (m_runV calV_X8_wordAt wd_940 (g_Sheet_wordAt l D kc b T S q1 hq1 x4_ v4_ hx4_ hS cw3_z) C hM (i := q1) (by omega) (e_sh b kc T S hq1) rfl hl.1 rfl rfl (Nat.le_of_ble_eq_true rfl) dX2_listChanges_103 ⟨Nat.le_of_ble_eq_true rfl, Nat.le_of_ble_eq_true rfl⟩ ⟨Nat.le_of_ble_eq_true rfl, Nat.le_of_ble_eq_true rfl⟩) hM (fun z4_z H locs bz4_z hM hS => ?_)
      have ez4_z := bz4_z.symm
      subst ez4_z
      refine g_lcmp_ne (tgt := 119) hx hb h dX2_listChanges_106 dX2_listChanges_107 (by decide) (fun h => ?_) (fun h => ?_)
      · exact B119 kf33_ hkf33_ S _ _ _ x3_ v3_ hx3_ x4_ v4_ hx4_ x5_ v5_ hx5_ x6_ v6_ hx6_ x7_ v7_ hx7_ xt0_ vt0_ hxt0_ hS hM (lv_sub hl [1, 2, 3, 4, 5, 6, 7, 8, 0] rfl) h
      · refine g_iinc (y := 1) hx hb hx3_ (by decide) (by decide) h dX2_listChanges_110 hl (k := 4) rfl (by decide) (fun z5_z ls bz5_z h hl => ?_)
        have hl : lv_has ls 9 [(3, .int z5_z), (8, .int xt0_), (0, .ref (b + 183)), (1, .ref (b + q1)), (2, .ref (b + 181)), (4, .int x4_), (5, .int x5_), (6, .int x6_), (7, .int x7_)] := hl
        refine g_iinc (y := 1) hx hb hx4_ (by decide) (by decide) h dX2_listChanges_113 hl (k := 5) rfl (by decide) (fun z6_z ls bz6_z h hl => ?_)
        have hl : lv_has ls 9 [(4, .int z6_z), (3, .int z5_z), (8, .int xt0_), (0, .ref (b + 183)), (1, .ref (b + q1)), (2, .ref (b + 181)), (5, .int x5_), (6, .int x6_), (7, .int x7_)] := hl
        refine lv_goto (tgt := 224) hx hb dX2_listChanges_116 (by decide) ?_
        exact B224 kf33_ hkf33_ S _ _ _ z5_z (v3_ + 1) bz5_z z6_z (v4_ + 1) bz6_z x5_ v5_ hx5_ x6_ v6_ hx6_ x7_ v7_ hx7_ hS hM (lv_sub hl [3, 4, 5, 1, 0, 6, 7, 8] rfl) h
  have B84 : ∀ (kf33_ : SS → Int → Int → Int → Int → Int → Option SS) (hkf33_ : ∀ (S : SS) (H : Heap) (locs : List Loc) (ls : Array Slot) (x3_ : Int32) (v3_ : Int) (hx3_ : x3_.toInt = v3_) (x4_ : Int32) (v4_ : Int) (hx4_ : x4_.toInt = v4_) (x5_ : Int32) (v5_ : Int) (hx5_ : x5_.toInt = v5_) (x6_ : Int32) (v6_ : Int) (hx6_ : x6_.toInt = v6_) (x7_ : Int32) (v7_ : Int) (hx7_ : x7_.toInt = v7_), rng S → mS D b s 220 (jX b kc T S) H locs → lv_has ls 9 [(0, .ref (b + 183)), (1, .ref (b + q1)), (2, .ref (b + 181)), (3, .int x3_), (4, .int x4_), (5, .int x5_), (6, .int x6_), (7, .int x7_)] → kf33_ S v3_ v4_ v5_ v6_ v7_ = some Sr → W p l e (mR 4 0 0) s m args below meth c H locs 0 0 Q (F0 m 33 ls [])), ∀ (S : SS) (H : Heap) (locs : List Loc) (ls : Array Slot) (x3_ : Int32) (v3_ : Int) (hx3_ : x3_.toInt = v3_) (x4_ : Int32) (v4_ : Int) (hx4_ : x4_.toInt = v4_) (x5_ : Int32) (v5_ : Int) (hx5_ : x5_.toInt = v5_) (x6_ : Int32) (v6_ : Int) (hx6_ : x6_.toInt = v6_) (x7_ : Int32) (v7_ : Int) (hx7_ : x7_.toInt = v7_), rng S → mS D b s 220 (jX b kc T S) H locs → lv_has ls 9 [(0, .ref (b + 183)), (1, .ref (b + q1)), (2, .ref (b + 181)), (3, .int x3_), (4, .int x4_), (5, .int x5_), (6, .int x6_), (7, .int x7_)] → f_Holding_listChanges_84 q1 kf33_ S v3_ v4_ v5_ v6_ v7_ = some Sr → W p l e (mR 4 0 0) s m args below meth c H locs 0 0 Q (F0 m 84 ls []) := by
    intro kf33_ hkf33_ S H locs ls x3_ v3_ hx3_ x4_ v4_ hx4_ x5_ v5_ hx5_ x6_ v6_ hx6_ x7_ v7_ hx7_ hS hM hl h
    unfold f_Holding_listChanges_84 at h
    refine lv_iconst (v := 0) hx hb dX2_listChanges_84 (by decide) ?_
    exact B85 kf33_ hkf33_ S _ _ _ x3_ v3_ hx3_ x4_ v4_ hx4_ x5_ v5_ hx5_ x6_ v6_ hx6_ x7_ v7_ hx7_ 0 0 (show (0 : Int32).toInt = 0 by decide) hS hM (lv_sub hl [0, 1, 2, 3, 4, 5, 6, 7] rfl) h
  have B60 : ∀ (kf33_ : SS → Int → Int → Int → Int → Int → Option SS) (hkf33_ : ∀ (S : SS) (H : Heap) (locs : List Loc) (ls : Array Slot) (x3_ : Int32) (v3_ : Int) (hx3_ : x3_.toInt = v3_) (x4_ : Int32) (v4_ : Int) (hx4_ : x4_.toInt = v4_) (x5_ : Int32) (v5_ : Int) (hx5_ : x5_.toInt = v5_) (x6_ : Int32) (v6_ : Int) (hx6_ : x6_.toInt = v6_) (x7_ : Int32) (v7_ : Int) (hx7_ : x7_.toInt = v7_), rng S → mS D b s 220 (jX b kc T S) H locs → lv_has ls 9 [(0, .ref (b + 183)), (1, .ref (b + q1)), (2, .ref (b + 181)), (3, .int x3_), (4, .int x4_), (5, .int x5_), (6, .int x6_), (7, .int x7_)] → kf33_ S v3_ v4_ v5_ v6_ v7_ = some Sr → W p l e (mR 4 0 0) s m args below meth c H locs 0 0 Q (F0 m 33 ls [])), ∀ (S : SS) (H : Heap) (locs : List Loc) (ls : Array Slot) (x3_ : Int32) (v3_ : Int) (hx3_ : x3_.toInt = v3_) (x4_ : Int32) (v4_ : Int) (hx4_ : x4_.toInt = v4_) (x5_ : Int32) (v5_ : Int) (hx5_ : x5_.toInt = v5_) (x6_ : Int32) (v6_ : Int) (hx6_ : x6_.toInt = v6_) (x7_ : Int32) (v7_ : Int) (hx7_ : x7_.toInt = v7_), rng S → mS D b s 220 (jX b kc T S) H locs → lv_has ls 9 [(0, .ref (b + 183)), (1, .ref (b + q1)), (2, .ref (b + 181)), (3, .int x3_), (4, .int x4_), (5, .int x5_), (6, .int x6_), (7, .int x7_)] → f_Holding_listChanges_60 q1 kf33_ S v3_ v4_ v5_ v6_ v7_ = some Sr → W p l e (mR 4 0 0) s m args below meth c H locs 0 0 Q (F0 m 60 ls []) := by
    intro kf33_ hkf33_ S H locs ls x3_ v3_ hx3_ x4_ v4_ hx4_ x5_ v5_ hx5_ x6_ v6_ hx6_ x7_ v7_ hx7_ hS hM hl h
    unfold f_Holding_listChanges_60 at h
    refine lv_iload_n hx hb dX2_listChanges_60 rfl (lv_at hl 3 rfl) ?_
    refine lv_aload_n hx hb dX2_listChanges_61 rfl (lv_at hl 0 rfl) ?_
    refine m_get fl_X2_14_X2 C hM (i := 183) (by omega) (e_183 b kc T S) (v := .ref (b + 184)) rfl dX2_listChanges_62 ?_
    refine g_getN fl_X2_104_X8 C hM (i := 184) (r := 184) (by omega) (e_sh b kc T S (show shOk 184 by decide)) rfl hS dX2_listChanges_65 (fun z1_z bz1_z => ?_)
    refine g_icmp_ge (tgt := 84) hx hb hx3_ bz1_z h dX2_listChanges_68 (by decide) (fun h => ?_) (fun h => ?_)
    · exact B84 kf33_ hkf33_ S _ _ _ x3_ v3_ hx3_ x4_ v4_ hx4_ x5_ v5_ hx5_ x6_ v6_ hx6_ x7_ v7_ hx7_ hS hM (lv_sub hl [0, 1, 2, 3, 4, 5, 6, 7] rfl) h
    · refine lv_iload hx hb dX2_listChanges_71 (lv_at hl 4 rfl) ?_
      refine lv_aload_n hx hb dX2_listChanges_73 rfl (lv_at hl 1 rfl) ?_
      refine g_getN fl_X2_104_X8 C hM (i := q1) (r := q1) (by omega) (e_sh b kc T S hq1) rfl hS dX2_listChanges_74 (fun z2_z bz2_z => ?_)
      refine g_icmp_ge (tgt := 84) hx hb hx4_ bz2_z h dX2_listChanges_77 (by decide) (fun h => ?_) (fun h => ?_)
      · exact B84 kf33_ hkf33_ S _ _ _ x3_ v3_ hx3_ x4_ v4_ hx4_ x5_ v5_ hx5_ x6_ v6_ hx6_ x7_ v7_ hx7_ hS hM (lv_sub hl [0, 1, 2, 3, 4, 5, 6, 7] rfl) h
      · refine lv_iconst (v := 1) hx hb dX2_listChanges_80 (by decide) ?_
        refine lv_goto (tgt := 85) hx hb dX2_listChanges_81 (by decide) ?_
        exact B85 kf33_ hkf33_ S _ _ _ x3_ v3_ hx3_ x4_ v4_ hx4_ x5_ v5_ hx5_ x6_ v6_ hx6_ x7_ v7_ hx7_ 1 1 (show (1 : Int32).toInt = 1 by decide) hS hM (lv_sub hl [0, 1, 2, 3, 4, 5, 6, 7] rfl) h
  have B33 : ∀ (n : Nat), ∀ (S : SS) (H : Heap) (locs : List Loc) (ls : Array Slot) (x3_ : Int32) (v3_ : Int) (hx3_ : x3_.toInt = v3_) (x4_ : Int32) (v4_ : Int) (hx4_ : x4_.toInt = v4_) (x5_ : Int32) (v5_ : Int) (hx5_ : x5_.toInt = v5_) (x6_ : Int32) (v6_ : Int) (hx6_ : x6_.toInt = v6_) (x7_ : Int32) (v7_ : Int) (hx7_ : x7_.toInt = v7_), rng S → mS D b s 220 (jX b kc T S) H locs → lv_has ls 9 [(0, .ref (b + 183)), (1, .ref (b + q1)), (2, .ref (b + 181)), (3, .int x3_), (4, .int x4_), (5, .int x5_), (6, .int x6_), (7, .int x7_)] → f_Holding_listChanges_33 q1 n S v3_ v4_ v5_ v6_ v7_ = some Sr → W p l e (mR 4 0 0) s m args below meth c H locs 0 0 Q (F0 m 33 ls []) := by
    intro n
    induction n with
    | zero => intro S H locs ls x3_ v3_ hx3_ x4_ v4_ hx4_ x5_ v5_ hx5_ x6_ v6_ hx6_ x7_ v7_ hx7_ hS hM hl h; exact absurd (h : none = some _) (fun q => nomatch q)
    | succ n hkf33_ =>
      intro S H locs ls x3_ v3_ hx3_ x4_ v4_ hx4_ x5_ v5_ hx5_ x6_ v6_ hx6_ x7_ v7_ hx7_ hS hM hl h
      have h : f_Holding_listChanges_33_b q1 (f_Holding_listChanges_33 q1 n) S v3_ v4_ v5_ v6_ v7_ = some Sr := h
      unfold f_Holding_listChanges_33_b at h
      refine lv_iload hx hb dX2_listChanges_33 (lv_at hl 7 rfl) ?_
      refine lv_iload hx hb dX2_listChanges_35 (lv_at hl 6 rfl) ?_
      refine g_icmp_ge (tgt := 230) hx hb hx7_ hx6_ h dX2_listChanges_37 (by decide) (fun h => ?_) (fun h => ?_)
      · exact ret S _ _ _ _ (Option.some.inj h) hM hS dX2_listChanges_230
      · refine lv_iload_n hx hb dX2_listChanges_40 rfl (lv_at hl 3 rfl) ?_
        refine lv_aload_n hx hb dX2_listChanges_41 rfl (lv_at hl 0 rfl) ?_
        refine m_get fl_X2_14_X2 C hM (i := 183) (by omega) (e_183 b kc T S) (v := .ref (b + 184)) rfl dX2_listChanges_42 ?_
        refine g_getN fl_X2_104_X8 C hM (i := 184) (r := 184) (by omega) (e_sh b kc T S (show shOk 184 by decide)) rfl hS dX2_listChanges_45 (fun z1_z bz1_z => ?_)
        refine g_icmp_lt (tgt := 60) hx hb hx3_ bz1_z h dX2_listChanges_48 (by decide) (fun h => ?_) (fun h => ?_)
        · exact B60 (f_Holding_listChanges_33 q1 n) hkf33_ S _ _ _ x3_ v3_ hx3_ x4_ v4_ hx4_ x5_ v5_ hx5_ x6_ v6_ hx6_ x7_ v7_ hx7_ hS hM (lv_sub hl [0, 1, 2, 3, 4, 5, 6, 7] rfl) h
        · refine lv_iload hx hb dX2_listChanges_51 (lv_at hl 4 rfl) ?_
          refine lv_aload_n hx hb dX2_listChanges_53 rfl (lv_at hl 1 rfl) ?_
          refine g_getN fl_X2_104_X8 C hM (i := q1) (r := q1) (by omega) (e_sh b kc T S hq1) rfl hS dX2_listChanges_54 (fun z2_z bz2_z => ?_)
          refine g_icmp_ge (tgt := 230) hx hb hx4_ bz2_z h dX2_listChanges_57 (by decide) (fun h => ?_) (fun h => ?_)
          · exact ret S _ _ _ _ (Option.some.inj h) hM hS dX2_listChanges_230
          · exact B60 (f_Holding_listChanges_33 q1 n) hkf33_ S _ _ _ x3_ v3_ hx3_ x4_ v4_ hx4_ x5_ v5_ hx5_ x6_ v6_ hx6_ x7_ v7_ hx7_ hS hM (lv_sub hl [0, 1, 2, 3, 4, 5, 6, 7] rfl) h
  refine lv_aload_n hx hb dX2_listChanges_0 rfl (lv_at hl 0 rfl) ?_
  refine lv_iconst (v := 0) hx hb dX2_listChanges_1 (by decide) ?_
  refine g_put fl_X2_101_X2 C hM (i := 183) (by omega) (e_183 b kc T S) rfl rfl (Nat.le_of_ble_eq_true rfl) (fs1 := [.ref (b + 184), .ref (b + 186), .ref (b + 187), .ref (b + 188), .ref (b + 189), .int (oi (gi S 183 5)), .int (oi (gi S 183 6)), .int (oi (gi S 183 7)), .int (oi (gi S 183 8)), .int (oi (gi S 183 9)), .int (oi (gi S 183 10)), .int 0]) rfl (p_183_11 (show (0 : Int32).toInt = 0 by decide)) (rng_si hS (i32_of (show (0 : Int32).toInt = 0 by decide))) h dX2_listChanges_2 (fun S1_z H locs h hM hS => ?_)
  refine lv_iconst (v := 0) hx hb dX2_listChanges_5 (by decide) ?_
  refine lv_istore_n (lv' := [(3, .int 0), (0, .ref (b + 183)), (1, .ref (b + q1)), (2, .ref (b + 181))]) hx hb dX2_listChanges_6 rfl hl (by decide) rfl (fun ls hl => ?_)
  refine lv_iconst (v := 0) hx hb dX2_listChanges_7 (by decide) ?_
  refine lv_istore (lv' := [(4, .int 0), (3, .int 0), (0, .ref (b + 183)), (1, .ref (b + q1)), (2, .ref (b + 181))]) hx hb dX2_listChanges_8 hl (by decide) rfl (fun ls hl => ?_)
  refine lv_aload_n hx hb dX2_listChanges_10 rfl (lv_at hl 2 rfl) ?_
  refine g_get fl_X2_80_X2 C hM (i := 183) (r := 183) (by omega) (e_183 b kc T S1_z) rfl hS dX2_listChanges_11 (fun z2_z bz2_z => ?_)
  refine lv_istore (lv' := [(5, .int z2_z), (4, .int 0), (3, .int 0), (0, .ref (b + 183)), (1, .ref (b + q1)), (2, .ref (b + 181))]) hx hb dX2_listChanges_14 hl (by decide) rfl (fun ls hl => ?_)
  refine lv_aload_n hx hb dX2_listChanges_16 rfl (lv_at hl 3 rfl) ?_
  refine m_get fl_X2_14_X2 C hM (i := 183) (by omega) (e_183 b kc T S1_z) (v := .ref (b + 184)) rfl dX2_listChanges_17 ?_
  refine g_getN fl_X2_104_X8 C hM (i := 184) (r := 184) (by omega) (e_sh b kc T S1_z (show shOk 184 by decide)) rfl hS dX2_listChanges_20 (fun z3_z bz3_z => ?_)
  refine lv_aload_n hx hb dX2_listChanges_23 rfl (lv_at hl 4 rfl) ?_
  refine g_getN fl_X2_104_X8 C hM (i := q1) (r := q1) (by omega) (e_sh b kc T S1_z hq1) rfl hS dX2_listChanges_24 (fun z4_z bz4_z => ?_)
  refine g_iadd hx hb bz3_z bz4_z h dX2_listChanges_27 (fun z5_z bz5_z h => ?_)
  refine lv_istore (lv' := [(6, .int z5_z), (5, .int z2_z), (4, .int 0), (3, .int 0), (0, .ref (b + 183)), (1, .ref (b + q1)), (2, .ref (b + 181))]) hx hb dX2_listChanges_28 hl (by decide) rfl (fun ls hl => ?_)
  refine lv_iconst (v := 0) hx hb dX2_listChanges_30 (by decide) ?_
  refine lv_istore (lv' := [(7, .int 0), (6, .int z5_z), (5, .int z2_z), (4, .int 0), (3, .int 0), (0, .ref (b + 183)), (1, .ref (b + q1)), (2, .ref (b + 181))]) hx hb dX2_listChanges_31 hl (by decide) rfl (fun ls hl => ?_)
  exact B33 FU S1_z _ _ _ 0 0 (show (0 : Int32).toInt = 0 by decide) 0 0 (show (0 : Int32).toInt = 0 by decide) z2_z (gi S1_z 183 10) bz2_z z5_z ((gi S1_z 184 1) + (gi S1_z q1 1)) bz5_z 0 0 (show (0 : Int32).toInt = 0 by decide) hS hM (lv_sub hl [5, 6, 7, 4, 3, 2, 1, 0] rfl) h

def f_Holding_tellMissed (S : SS) (v1 : Int) : Option Int := (if 10 ≤ v1 then w_chk (i32 (v1 - 10)) ((if gi S 183 9 ≤ v1 - 10 then some (-1) else (if v1 - 10 < 8 then w_chk (0 ≤ (v1 - 10) ∧ (v1 - 10) < 8) (some (gi S 186 (v1 - 10).toNat)) else some (-1)))) else some (-1))
set_option maxHeartbeats 4000000 in
set_option maxRecDepth 100000 in
theorem g_Holding_tellMissed (l : Launch) (D : va_G) (kc : Nat → ClassId) (b : Nat) (T S : SS) (x1 : Int32) (v1 : Int) (hx1 : x1.toInt = v1) (hS : rng S) {vr : Int} (h : f_Holding_tellMissed S v1 = some vr) : cI l yX2_tellMissed cX2_tellMissed 3 .int 1 D kc b (jX b kc T) S [.ref (b + 183), .int x1] vr S := by
  refine g_beg_i (by decide) (Nat.le_of_ble_eq_true rfl) ?_
  intro p e s m args below meth c Q C ret hM ls hl
  obtain ⟨hx, hb, hml, hown, hts, hE, hbs⟩ := id C
  have hl : lv_has ls 3 [(0, .ref (b + 183)), (1, .int x1)] := hl
  unfold f_Holding_tellMissed at h
  refine lv_iload_n hx hb dX2_tellMissed_0 rfl (lv_at hl 1 rfl) ?_
  refine lv_bipush (v := 10) hx hb dX2_tellMissed_1 (by decide) ?_
  refine g_icmp_ge (tgt := 8) hx hb hx1 (show (10 : Int32).toInt = 10 by decide) h dX2_tellMissed_3 (by decide) (fun h => ?_) (fun h => ?_)
  · refine lv_iload_n hx hb dX2_tellMissed_8 rfl (lv_at hl 1 rfl) ?_
    refine lv_bipush (v := 10) hx hb dX2_tellMissed_9 (by decide) ?_
    refine g_isub hx hb hx1 (show (10 : Int32).toInt = 10 by decide) h dX2_tellMissed_11 (fun z1_z bz1_z h => ?_)
    refine lv_istore_n (lv' := [(2, .int z1_z), (0, .ref (b + 183)), (1, .int x1)]) hx hb dX2_tellMissed_12 rfl hl (by decide) rfl (fun ls hl => ?_)
    refine lv_iload_n hx hb dX2_tellMissed_13 rfl (lv_at hl 0 rfl) ?_
    refine lv_aload_n hx hb dX2_tellMissed_14 rfl (lv_at hl 1 rfl) ?_
    refine g_get fl_X2_95_X2 C hM (i := 183) (r := 183) (by omega) (e_183 b kc T S) rfl hS dX2_tellMissed_15 (fun z2_z bz2_z => ?_)
    refine g_icmp_ge (tgt := 30) hx hb bz1_z bz2_z h dX2_tellMissed_18 (by decide) (fun h => ?_) (fun h => ?_)
    · refine lv_iconst (v := (-1)) hx hb dX2_tellMissed_30 (by decide) ?_
      refine lv_goto (tgt := 40) hx hb dX2_tellMissed_31 (by decide) ?_
      exact ret S _ _ _ _ (-1) ((show ((-1) : Int32).toInt = (-1) by decide).trans (Option.some.inj h)) rfl hM hS dX2_tellMissed_40
    · refine lv_iload_n hx hb dX2_tellMissed_21 rfl (lv_at hl 0 rfl) ?_
      refine lv_aload_n hx hb dX2_tellMissed_22 rfl (lv_at hl 1 rfl) ?_
      refine m_get fl_X2_20_X2 C hM (i := 183) (by omega) (e_183 b kc T S) (v := .ref (b + 186)) rfl dX2_tellMissed_23 ?_
      refine m_alen C hM (j := 186) (by omega) 1 (e_186 b kc T S) rfl (v := 8) rfl dX2_tellMissed_26 ?_
      refine g_icmp_lt (tgt := 34) hx hb bz1_z (show (8 : Int32).toInt = 8 by decide) h dX2_tellMissed_27 (by decide) (fun h => ?_) (fun h => ?_)
      · refine lv_aload_n hx hb dX2_tellMissed_34 rfl (lv_at hl 1 rfl) ?_
        refine m_get fl_X2_20_X2 C hM (i := 183) (by omega) (e_183 b kc T S) (v := .ref (b + 186)) rfl dX2_tellMissed_35 ?_
        refine lv_iload_n hx hb dX2_tellMissed_38 rfl (lv_at hl 0 rfl) ?_
        refine g_iald C hM (j := 186) (by omega) (jK_X b kc T (by omega)) (a_186 b kc) hS bz1_z (B := 8) rfl h dX2_tellMissed_39 (fun z3_z bz3_z h => ?_)
        exact ret S _ _ _ _ z3_z (bz3_z.trans (Option.some.inj h)) rfl hM hS dX2_tellMissed_40
      · refine lv_iconst (v := (-1)) hx hb dX2_tellMissed_30 (by decide) ?_
        refine lv_goto (tgt := 40) hx hb dX2_tellMissed_31 (by decide) ?_
        exact ret S _ _ _ _ (-1) ((show ((-1) : Int32).toInt = (-1) by decide).trans (Option.some.inj h)) rfl hM hS dX2_tellMissed_40
  · refine lv_iconst (v := (-1)) hx hb dX2_tellMissed_6 (by decide) ?_
    exact ret S _ _ _ _ (-1) ((show ((-1) : Int32).toInt = (-1) by decide).trans (Option.some.inj h)) rfl hM hS dX2_tellMissed_7

def f_Holding_tell (S : SS) (v1 : Int) : Option Int := (if gi S 183 7 = 0 then some (-1) else (if v1 = 0 then some (gi S 183 8) else (if v1 = 1 then some (gi S 183 9) else (if v1 = 2 then some (gi S 183 10) else w_b1 (f_Holding_tellMissed S v1) (fun r8_z => some r8_z)))))
set_option maxHeartbeats 4000000 in
set_option maxRecDepth 100000 in
theorem g_Holding_tell (l : Launch) (D : va_G) (kc : Nat → ClassId) (b : Nat) (T S : SS) (x1 : Int32) (v1 : Int) (hx1 : x1.toInt = v1) (hS : rng S) {vr : Int} (h : f_Holding_tell S v1 = some vr) : cI l yX2_tell cX2_tell 2 .int 2 D kc b (jX b kc T) S [.ref (b + 183), .int x1] vr S := by
  refine g_beg_i (by decide) (Nat.le_of_ble_eq_true rfl) ?_
  intro p e s m args below meth c Q C ret hM ls hl
  obtain ⟨hx, hb, hml, hown, hts, hE, hbs⟩ := id C
  have hl : lv_has ls 2 [(0, .ref (b + 183)), (1, .int x1)] := hl
  unfold f_Holding_tell at h
  refine lv_aload_n hx hb dX2_tell_0 rfl (lv_at hl 0 rfl) ?_
  refine g_get fl_X2_83_X2 C hM (i := 183) (r := 183) (by omega) (e_183 b kc T S) rfl hS dX2_tell_1 (fun z1_z bz1_z => ?_)
  refine g_if_ne (tgt := 9) hx hb bz1_z h dX2_tell_4 (by decide) (fun h => ?_) (fun h => ?_)
  · refine lv_iload_n hx hb dX2_tell_9 rfl (lv_at hl 1 rfl) ?_
    by_cases c2_z : v1 = 0
    · replace h := w_it c2_z h
      refine lv_tableIn (tgt := 36) hx hb dX2_tell_10 (by rw [hx1, c2_z]; decide) (by rw [hx1, c2_z]; decide) (by rw [hx1, c2_z]; rfl) (by decide) ?_
      refine lv_aload_n hx hb dX2_tell_36 rfl (lv_at hl 0 rfl) ?_
      refine g_get fl_X2_77_X2 C hM (i := 183) (r := 183) (by omega) (e_183 b kc T S) rfl hS dX2_tell_37 (fun z3_z bz3_z => ?_)
      exact ret S _ _ _ _ z3_z (bz3_z.trans (Option.some.inj h)) rfl hM hS dX2_tell_40
    replace h := w_if c2_z h
    by_cases c4_z : v1 = 1
    · replace h := w_it c4_z h
      refine lv_tableIn (tgt := 41) hx hb dX2_tell_10 (by rw [hx1, c4_z]; decide) (by rw [hx1, c4_z]; decide) (by rw [hx1, c4_z]; rfl) (by decide) ?_
      refine lv_aload_n hx hb dX2_tell_41 rfl (lv_at hl 0 rfl) ?_
      refine g_get fl_X2_95_X2 C hM (i := 183) (r := 183) (by omega) (e_183 b kc T S) rfl hS dX2_tell_42 (fun z5_z bz5_z => ?_)
      exact ret S _ _ _ _ z5_z (bz5_z.trans (Option.some.inj h)) rfl hM hS dX2_tell_45
    replace h := w_if c4_z h
    by_cases c6_z : v1 = 2
    · replace h := w_it c6_z h
      refine lv_tableIn (tgt := 46) hx hb dX2_tell_10 (by rw [hx1, c6_z]; decide) (by rw [hx1, c6_z]; decide) (by rw [hx1, c6_z]; rfl) (by decide) ?_
      refine lv_aload_n hx hb dX2_tell_46 rfl (lv_at hl 0 rfl) ?_
      refine g_get fl_X2_80_X2 C hM (i := 183) (r := 183) (by omega) (e_183 b kc T S) rfl hS dX2_tell_47 (fun z7_z bz7_z => ?_)
      exact ret S _ _ _ _ z7_z (bz7_z.trans (Option.some.inj h)) rfl hM hS dX2_tell_50
    replace h := w_if c6_z h
    refine lv_tableOut (tgt := 51) hx hb dX2_tell_10 (by rw [hx1]; omega) (by decide) ?_
    refine lv_aload_n hx hb dX2_tell_51 rfl (lv_at hl 0 rfl) ?_
    refine lv_iload_n hx hb dX2_tell_52 rfl (lv_at hl 1 rfl) ?_
    obtain ⟨r8_z, cr8_z, h⟩ := w_b1E h
    refine g_callI (J := jX b kc T) (m_runV calV_X2_tellMissed wd_953 (g_Holding_tellMissed l D kc b T S x1 v1 hx1 hS cr8_z) C hM (i := 183) (by omega) (e_183 b kc T S) rfl hl.1 rfl rfl (Nat.le_of_ble_eq_true rfl) dX2_tell_53 ⟨Nat.le_of_ble_eq_true rfl, Nat.le_of_ble_eq_true rfl⟩ ⟨Nat.le_of_ble_eq_true rfl, Nat.le_of_ble_eq_true rfl⟩) hM (fun z9_z H locs bz9_z hM hS => ?_)
    exact ret S _ _ _ _ z9_z (bz9_z.trans (Option.some.inj h)) rfl hM hS dX2_tell_56
  · refine lv_iconst (v := (-1)) hx hb dX2_tell_7 (by decide) ?_
    exact ret S _ _ _ _ (-1) ((show ((-1) : Int32).toInt = (-1) by decide).trans (Option.some.inj h)) rfl hM hS dX2_tell_8

def f_Holding_tellChange (S : SS) (v1 : Int) (v2 : Int) : Option Int := (if v1 < 0 then some (-1) else (if gi S 183 11 ≤ v1 then some (-1) else (if v1 < 150 then (if v2 = 0 then w_chk (0 ≤ v1 ∧ v1 < 150) (some (gi S 187 (v1).toNat)) else (if v2 = 1 then w_chk (0 ≤ v1 ∧ v1 < 150) (some (gi S 188 (v1).toNat)) else (if v2 = 2 then w_chk (0 ≤ v1 ∧ v1 < 150) (some (gi S 189 (v1).toNat)) else some (-1)))) else some (-1))))
set_option maxHeartbeats 4000000 in
set_option maxRecDepth 100000 in
theorem g_Holding_tellChange (l : Launch) (D : va_G) (kc : Nat → ClassId) (b : Nat) (T S : SS) (x1 : Int32) (v1 : Int) (hx1 : x1.toInt = v1) (x2 : Int32) (v2 : Int) (hx2 : x2.toInt = v2) (hS : rng S) {vr : Int} (h : f_Holding_tellChange S v1 v2 = some vr) : cI l yX2_tellChange cX2_tellChange 3 .int 1 D kc b (jX b kc T) S [.ref (b + 183), .int x1, .int x2] vr S := by
  refine g_beg_i (by decide) (Nat.le_of_ble_eq_true rfl) ?_
  intro p e s m args below meth c Q C ret hM ls hl
  obtain ⟨hx, hb, hml, hown, hts, hE, hbs⟩ := id C
  have hl : lv_has ls 3 [(0, .ref (b + 183)), (1, .int x1), (2, .int x2)] := hl
  unfold f_Holding_tellChange at h
  refine lv_iload_n hx hb dX2_tellChange_0 rfl (lv_at hl 1 rfl) ?_
  refine g_if_lt (tgt := 19) hx hb hx1 h dX2_tellChange_1 (by decide) (fun h => ?_) (fun h => ?_)
  · refine lv_iconst (v := (-1)) hx hb dX2_tellChange_19 (by decide) ?_
    exact ret S _ _ _ _ (-1) ((show ((-1) : Int32).toInt = (-1) by decide).trans (Option.some.inj h)) rfl hM hS dX2_tellChange_20
  · refine lv_iload_n hx hb dX2_tellChange_4 rfl (lv_at hl 1 rfl) ?_
    refine lv_aload_n hx hb dX2_tellChange_5 rfl (lv_at hl 0 rfl) ?_
    refine g_get fl_X2_101_X2 C hM (i := 183) (r := 183) (by omega) (e_183 b kc T S) rfl hS dX2_tellChange_6 (fun z1_z bz1_z => ?_)
    refine g_icmp_ge (tgt := 19) hx hb hx1 bz1_z h dX2_tellChange_9 (by decide) (fun h => ?_) (fun h => ?_)
    · refine lv_iconst (v := (-1)) hx hb dX2_tellChange_19 (by decide) ?_
      exact ret S _ _ _ _ (-1) ((show ((-1) : Int32).toInt = (-1) by decide).trans (Option.some.inj h)) rfl hM hS dX2_tellChange_20
    · refine lv_iload_n hx hb dX2_tellChange_12 rfl (lv_at hl 1 rfl) ?_
      refine lv_sipush (v := 150) hx hb dX2_tellChange_13 (by decide) ?_
      refine g_icmp_lt (tgt := 21) hx hb hx1 (show (150 : Int32).toInt = 150 by decide) h dX2_tellChange_16 (by decide) (fun h => ?_) (fun h => ?_)
      · refine lv_iload_n hx hb dX2_tellChange_21 rfl (lv_at hl 2 rfl) ?_
        by_cases c2_z : v2 = 0
        · replace h := w_it c2_z h
          refine lv_tableIn (tgt := 48) hx hb dX2_tellChange_22 (by rw [hx2, c2_z]; decide) (by rw [hx2, c2_z]; decide) (by rw [hx2, c2_z]; rfl) (by decide) ?_
          refine lv_aload_n hx hb dX2_tellChange_48 rfl (lv_at hl 0 rfl) ?_
          refine m_get fl_X2_24_X2 C hM (i := 183) (by omega) (e_183 b kc T S) (v := .ref (b + 187)) rfl dX2_tellChange_49 ?_
          refine lv_iload_n hx hb dX2_tellChange_52 rfl (lv_at hl 1 rfl) ?_
          refine g_iald C hM (j := 187) (by omega) (jK_X b kc T (by omega)) (a_187 b kc) hS hx1 (B := 150) rfl h dX2_tellChange_53 (fun z3_z bz3_z h => ?_)
          exact ret S _ _ _ _ z3_z (bz3_z.trans (Option.some.inj h)) rfl hM hS dX2_tellChange_54
        replace h := w_if c2_z h
        by_cases c4_z : v2 = 1
        · replace h := w_it c4_z h
          refine lv_tableIn (tgt := 55) hx hb dX2_tellChange_22 (by rw [hx2, c4_z]; decide) (by rw [hx2, c4_z]; decide) (by rw [hx2, c4_z]; rfl) (by decide) ?_
          refine lv_aload_n hx hb dX2_tellChange_55 rfl (lv_at hl 0 rfl) ?_
          refine m_get fl_X2_27_X2 C hM (i := 183) (by omega) (e_183 b kc T S) (v := .ref (b + 188)) rfl dX2_tellChange_56 ?_
          refine lv_iload_n hx hb dX2_tellChange_59 rfl (lv_at hl 1 rfl) ?_
          refine g_iald C hM (j := 188) (by omega) (jK_X b kc T (by omega)) (a_188 b kc) hS hx1 (B := 150) rfl h dX2_tellChange_60 (fun z5_z bz5_z h => ?_)
          exact ret S _ _ _ _ z5_z (bz5_z.trans (Option.some.inj h)) rfl hM hS dX2_tellChange_61
        replace h := w_if c4_z h
        by_cases c6_z : v2 = 2
        · replace h := w_it c6_z h
          refine lv_tableIn (tgt := 62) hx hb dX2_tellChange_22 (by rw [hx2, c6_z]; decide) (by rw [hx2, c6_z]; decide) (by rw [hx2, c6_z]; rfl) (by decide) ?_
          refine lv_aload_n hx hb dX2_tellChange_62 rfl (lv_at hl 0 rfl) ?_
          refine m_get fl_X2_30_X2 C hM (i := 183) (by omega) (e_183 b kc T S) (v := .ref (b + 189)) rfl dX2_tellChange_63 ?_
          refine lv_iload_n hx hb dX2_tellChange_66 rfl (lv_at hl 1 rfl) ?_
          refine g_iald C hM (j := 189) (by omega) (jK_X b kc T (by omega)) (a_189 b kc) hS hx1 (B := 150) rfl h dX2_tellChange_67 (fun z7_z bz7_z h => ?_)
          exact ret S _ _ _ _ z7_z (bz7_z.trans (Option.some.inj h)) rfl hM hS dX2_tellChange_68
        replace h := w_if c6_z h
        refine lv_tableOut (tgt := 69) hx hb dX2_tellChange_22 (by rw [hx2]; omega) (by decide) ?_
        refine lv_iconst (v := (-1)) hx hb dX2_tellChange_69 (by decide) ?_
        exact ret S _ _ _ _ (-1) ((show ((-1) : Int32).toInt = (-1) by decide).trans (Option.some.inj h)) rfl hM hS dX2_tellChange_70
      · refine lv_iconst (v := (-1)) hx hb dX2_tellChange_19 (by decide) ?_
        exact ret S _ _ _ _ (-1) ((show ((-1) : Int32).toInt = (-1) by decide).trans (Option.some.inj h)) rfl hM hS dX2_tellChange_20

def f_MP_isBlank (S : SS) (v0 : Int) : Int := (if v0 = 32 then 1 else (if v0 = 10 then 1 else 0))
set_option maxHeartbeats 4000000 in
set_option maxRecDepth 100000 in
theorem g_MP_isBlank (l : Launch) (D : va_G) (kc : Nat → ClassId) (b : Nat) (T S : SS) (x0 : Int32) (v0 : Int) (hx0 : x0.toInt = v0) (hS : rng S) {vr : Int} (h : f_MP_isBlank S v0 = vr) : cI l yX11_isBlank cX11_isBlank 1 .boolean 1 D kc b (jX b kc T) S [.int x0] vr S := by
  refine g_beg_z (by decide) (Nat.le_of_ble_eq_true rfl) ?_
  intro p e s m args below meth c Q C ret hM ls hl
  obtain ⟨hx, hb, hml, hown, hts, hE, hbs⟩ := id C
  have hl : lv_has ls 1 [(0, .int x0)] := hl
  unfold f_MP_isBlank at h
  refine lv_iload_n hx hb dX11_isBlank_0 rfl (lv_at hl 0 rfl) ?_
  refine lv_bipush (v := 32) hx hb dX11_isBlank_1 (by decide) ?_
  refine g_icmp_eq (tgt := 12) hx hb hx0 (show (32 : Int32).toInt = 32 by decide) h dX11_isBlank_3 (by decide) (fun h => ?_) (fun h => ?_)
  · refine lv_iconst (v := 1) hx hb dX11_isBlank_12 (by decide) ?_
    refine lv_goto (tgt := 17) hx hb dX11_isBlank_13 (by decide) ?_
    exact ret S _ _ _ _ 1 ((show (1 : Int32).toInt = 1 by decide).trans h) (by rw [← h]; exact (by decide)) rfl hM hS dX11_isBlank_17
  · refine lv_iload_n hx hb dX11_isBlank_6 rfl (lv_at hl 0 rfl) ?_
    refine lv_bipush (v := 10) hx hb dX11_isBlank_7 (by decide) ?_
    refine g_icmp_ne (tgt := 16) hx hb hx0 (show (10 : Int32).toInt = 10 by decide) h dX11_isBlank_9 (by decide) (fun h => ?_) (fun h => ?_)
    · refine lv_iconst (v := 0) hx hb dX11_isBlank_16 (by decide) ?_
      exact ret S _ _ _ _ 0 ((show (0 : Int32).toInt = 0 by decide).trans h) (by rw [← h]; exact (by decide)) rfl hM hS dX11_isBlank_17
    · refine lv_iconst (v := 1) hx hb dX11_isBlank_12 (by decide) ?_
      refine lv_goto (tgt := 17) hx hb dX11_isBlank_13 (by decide) ?_
      exact ret S _ _ _ _ 1 ((show (1 : Int32).toInt = 1 by decide).trans h) (by rw [← h]; exact (by decide)) rfl hM hS dX11_isBlank_17

def f_MP_isSmall (S : SS) (v0 : Int) : Int := (if v0 < 97 then 0 else (if 122 < v0 then 0 else 1))
set_option maxHeartbeats 4000000 in
set_option maxRecDepth 100000 in
theorem g_MP_isSmall (l : Launch) (D : va_G) (kc : Nat → ClassId) (b : Nat) (T S : SS) (x0 : Int32) (v0 : Int) (hx0 : x0.toInt = v0) (hS : rng S) {vr : Int} (h : f_MP_isSmall S v0 = vr) : cI l yX11_isSmall cX11_isSmall 1 .boolean 1 D kc b (jX b kc T) S [.int x0] vr S := by
  refine g_beg_z (by decide) (Nat.le_of_ble_eq_true rfl) ?_
  intro p e s m args below meth c Q C ret hM ls hl
  obtain ⟨hx, hb, hml, hown, hts, hE, hbs⟩ := id C
  have hl : lv_has ls 1 [(0, .int x0)] := hl
  unfold f_MP_isSmall at h
  refine lv_iload_n hx hb dX11_isSmall_0 rfl (lv_at hl 0 rfl) ?_
  refine lv_bipush (v := 97) hx hb dX11_isSmall_1 (by decide) ?_
  refine g_icmp_lt (tgt := 16) hx hb hx0 (show (97 : Int32).toInt = 97 by decide) h dX11_isSmall_3 (by decide) (fun h => ?_) (fun h => ?_)
  · refine lv_iconst (v := 0) hx hb dX11_isSmall_16 (by decide) ?_
    exact ret S _ _ _ _ 0 ((show (0 : Int32).toInt = 0 by decide).trans h) (by rw [← h]; exact (by decide)) rfl hM hS dX11_isSmall_17
  · refine lv_iload_n hx hb dX11_isSmall_6 rfl (lv_at hl 0 rfl) ?_
    refine lv_bipush (v := 122) hx hb dX11_isSmall_7 (by decide) ?_
    refine g_icmp_gt (tgt := 16) hx hb hx0 (show (122 : Int32).toInt = 122 by decide) h dX11_isSmall_9 (by decide) (fun h => ?_) (fun h => ?_)
    · refine lv_iconst (v := 0) hx hb dX11_isSmall_16 (by decide) ?_
      exact ret S _ _ _ _ 0 ((show (0 : Int32).toInt = 0 by decide).trans h) (by rw [← h]; exact (by decide)) rfl hM hS dX11_isSmall_17
    · refine lv_iconst (v := 1) hx hb dX11_isSmall_12 (by decide) ?_
      refine lv_goto (tgt := 17) hx hb dX11_isSmall_13 (by decide) ?_
      exact ret S _ _ _ _ 1 ((show (1 : Int32).toInt = 1 by decide).trans h) (by rw [← h]; exact (by decide)) rfl hM hS dX11_isSmall_17

def f_MP_isDigit (S : SS) (v0 : Int) : Int := (if v0 < 48 then 0 else (if 57 < v0 then 0 else 1))
set_option maxHeartbeats 4000000 in
set_option maxRecDepth 100000 in
theorem g_MP_isDigit (l : Launch) (D : va_G) (kc : Nat → ClassId) (b : Nat) (T S : SS) (x0 : Int32) (v0 : Int) (hx0 : x0.toInt = v0) (hS : rng S) {vr : Int} (h : f_MP_isDigit S v0 = vr) : cI l yX11_isDigit cX11_isDigit 1 .boolean 1 D kc b (jX b kc T) S [.int x0] vr S := by
  refine g_beg_z (by decide) (Nat.le_of_ble_eq_true rfl) ?_
  intro p e s m args below meth c Q C ret hM ls hl
  obtain ⟨hx, hb, hml, hown, hts, hE, hbs⟩ := id C
  have hl : lv_has ls 1 [(0, .int x0)] := hl
  unfold f_MP_isDigit at h
  refine lv_iload_n hx hb dX11_isDigit_0 rfl (lv_at hl 0 rfl) ?_
  refine lv_bipush (v := 48) hx hb dX11_isDigit_1 (by decide) ?_
  refine g_icmp_lt (tgt := 16) hx hb hx0 (show (48 : Int32).toInt = 48 by decide) h dX11_isDigit_3 (by decide) (fun h => ?_) (fun h => ?_)
  · refine lv_iconst (v := 0) hx hb dX11_isDigit_16 (by decide) ?_
    exact ret S _ _ _ _ 0 ((show (0 : Int32).toInt = 0 by decide).trans h) (by rw [← h]; exact (by decide)) rfl hM hS dX11_isDigit_17
  · refine lv_iload_n hx hb dX11_isDigit_6 rfl (lv_at hl 0 rfl) ?_
    refine lv_bipush (v := 57) hx hb dX11_isDigit_7 (by decide) ?_
    refine g_icmp_gt (tgt := 16) hx hb hx0 (show (57 : Int32).toInt = 57 by decide) h dX11_isDigit_9 (by decide) (fun h => ?_) (fun h => ?_)
    · refine lv_iconst (v := 0) hx hb dX11_isDigit_16 (by decide) ?_
      exact ret S _ _ _ _ 0 ((show (0 : Int32).toInt = 0 by decide).trans h) (by rw [← h]; exact (by decide)) rfl hM hS dX11_isDigit_17
    · refine lv_iconst (v := 1) hx hb dX11_isDigit_12 (by decide) ?_
      refine lv_goto (tgt := 17) hx hb dX11_isDigit_13 (by decide) ?_
      exact ret S _ _ _ _ 1 ((show (1 : Int32).toInt = 1 by decide).trans h) (by rw [← h]; exact (by decide)) rfl hM hS dX11_isDigit_17

def f_SheetReader_addWord (S : SS) (w1 : Int64) (v2 : Int) : Option SS := (if v2 ≤ 0 then some S else w_b1 (f_Sheet_add S 175 w1) (fun S1_z => some S1_z))
set_option maxHeartbeats 4000000 in
set_option maxRecDepth 100000 in
theorem g_SheetReader_addWord (l : Launch) (D : va_G) (kc : Nat → ClassId) (b : Nat) (T S : SS) (w1 : Int64) (x2 : Int32) (v2 : Int) (hx2 : x2.toInt = v2) (hS : rng S) {Sr : SS} (h : f_SheetReader_addWord S w1 v2 = some Sr) : cV l yX9_addWord cX9_addWord 4 2 D kc b (jX b kc T) S [.ref (b + 174), .long w1, .int x2] Sr := by
  refine g_beg_v (by decide) (Nat.le_of_ble_eq_true rfl) ?_
  intro p e s m args below meth c Q C ret hM ls hl
  obtain ⟨hx, hb, hml, hown, hts, hE, hbs⟩ := id C
  have hl : lv_has ls 4 [(0, .ref (b + 174)), (1, .long w1), (3, .int x2)] := hl
  unfold f_SheetReader_addWord at h
  refine lv_iload_n hx hb dX9_addWord_0 rfl (lv_at hl 2 rfl) ?_
  refine g_if_le (tgt := 12) hx hb hx2 h dX9_addWord_1 (by decide) (fun h => ?_) (fun h => ?_)
  · exact ret S _ _ _ _ (Option.some.inj h) hM hS dX9_addWord_12
  · refine lv_aload_n hx hb dX9_addWord_4 rfl (lv_at hl 0 rfl) ?_
    refine m_get fl_X9_14_X9 C hM (i := 174) (by omega) (e_174 b kc T S) (v := .ref (b + 175)) rfl dX9_addWord_5 ?_
    refine lv_lload_n hx hb dX9_addWord_8 rfl (lv_at hl 1 rfl) ?_
    obtain ⟨S1_z, cS1_z, h⟩ := w_b1E h
    refine g_callV (J := jX b kc T) (m_runV calV_X8_add wd_476 (g_Sheet_add l D kc b T S 175 (show shOk 175 by decide) w1 hS cS1_z) C hM (i := 175) (by omega) (e_sh b kc T S (show shOk 175 by decide)) rfl hl.1 rfl rfl (Nat.le_of_ble_eq_true rfl) dX9_addWord_9 ⟨Nat.le_of_ble_eq_true rfl, Nat.le_of_ble_eq_true rfl⟩ ⟨Nat.le_of_ble_eq_true rfl, Nat.le_of_ble_eq_true rfl⟩) hM (fun H locs hM hS => ?_)
    exact ret S1_z _ _ _ _ (Option.some.inj h) hM hS dX9_addWord_12

def f_MarkReader_sortOf (S : SS) (v0 : Int) : Int := (if f_MP_isSmall S v0 = 0 then (if f_MP_isDigit S v0 = 0 then 0 else 2) else 1)
set_option maxHeartbeats 4000000 in
set_option maxRecDepth 100000 in
theorem g_MarkReader_sortOf (l : Launch) (D : va_G) (kc : Nat → ClassId) (b : Nat) (T S : SS) (x0 : Int32) (v0 : Int) (hx0 : x0.toInt = v0) (hS : rng S) {vr : Int} (h : f_MarkReader_sortOf S v0 = vr) : cI l yX4_sortOf cX4_sortOf 1 .int 2 D kc b (jX b kc T) S [.int x0] vr S := by
  refine g_beg_i (by decide) (Nat.le_of_ble_eq_true rfl) ?_
  intro p e s m args below meth c Q C ret hM ls hl
  obtain ⟨hx, hb, hml, hown, hts, hE, hbs⟩ := id C
  have hl : lv_has ls 1 [(0, .int x0)] := hl
  unfold f_MarkReader_sortOf at h
  refine lv_iload_n hx hb dX4_sortOf_0 rfl (lv_at hl 0 rfl) ?_
  refine g_callI (J := jX b kc T) (m_runSN calS_X11_isSmall wd_722 (g_MP_isSmall l D kc b T S x0 v0 hx0 hS rfl) C hM hl.1 rfl rfl (Nat.le_of_ble_eq_true rfl) dX4_sortOf_1 ⟨Nat.le_of_ble_eq_true rfl, Nat.le_of_ble_eq_true rfl⟩ ⟨Nat.le_of_ble_eq_true rfl, Nat.le_of_ble_eq_true rfl⟩) hM (fun z1_z H locs bz1_z hM hS => ?_)
  refine g_if_eq (tgt := 9) hx hb bz1_z h dX4_sortOf_4 (by decide) (fun h => ?_) (fun h => ?_)
  · refine lv_iload_n hx hb dX4_sortOf_9 rfl (lv_at hl 0 rfl) ?_
    refine g_callI (J := jX b kc T) (m_runSN calS_X11_isDigit wd_723 (g_MP_isDigit l D kc b T S x0 v0 hx0 hS rfl) C hM hl.1 rfl rfl (Nat.le_of_ble_eq_true rfl) dX4_sortOf_10 ⟨Nat.le_of_ble_eq_true rfl, Nat.le_of_ble_eq_true rfl⟩ ⟨Nat.le_of_ble_eq_true rfl, Nat.le_of_ble_eq_true rfl⟩) hM (fun z2_z H locs bz2_z hM hS => ?_)
    refine g_if_eq (tgt := 18) hx hb bz2_z h dX4_sortOf_13 (by decide) (fun h => ?_) (fun h => ?_)
    · refine lv_iconst (v := 0) hx hb dX4_sortOf_18 (by decide) ?_
      exact ret S _ _ _ _ 0 ((show (0 : Int32).toInt = 0 by decide).trans h) rfl hM hS dX4_sortOf_19
    · refine lv_iconst (v := 2) hx hb dX4_sortOf_16 (by decide) ?_
      exact ret S _ _ _ _ 2 ((show (2 : Int32).toInt = 2 by decide).trans h) rfl hM hS dX4_sortOf_17
  · refine lv_iconst (v := 1) hx hb dX4_sortOf_7 (by decide) ?_
    exact ret S _ _ _ _ 1 ((show (1 : Int32).toInt = 1 by decide).trans h) rfl hM hS dX4_sortOf_8

def f_MarkReader_skipBlanks_5_b (kf5_ : SS → Int → Option SS) (S : SS) (v1_ : Int) : Option SS := w_chk (gq S 177 0 = some 1) ((if gi S 1 1 ≤ v1_ then some S else w_chk (gq S 177 0 = some 1) (w_b1 (f_Tape_byteAt S v1_) (fun r2_z => (if f_MP_isBlank S r2_z = 0 then some S else w_chk (i32 (v1_ + 1)) (w_lt (si S 177 4 (v1_ + 1)) (fun S6_z => w_chk (i32 (v1_ + 1)) (kf5_ S6_z (v1_ + 1)))))))))
def f_MarkReader_skipBlanks_5 : Nat → SS → Int → Option SS
  | 0 => fun _ _ => none
  | n + 1 => f_MarkReader_skipBlanks_5_b (f_MarkReader_skipBlanks_5 n)
def f_MarkReader_skipBlanks (S : SS) : Option SS := f_MarkReader_skipBlanks_5 FU S (gi S 177 4)
set_option maxHeartbeats 4000000 in
set_option maxRecDepth 100000 in
theorem g_MarkReader_skipBlanks (l : Launch) (D : va_G) (kc : Nat → ClassId) (b : Nat) (T S : SS) (hS : rng S) {Sr : SS} (h : f_MarkReader_skipBlanks S = some Sr) : cV l yX4_skipBlanks cX4_skipBlanks 2 2 D kc b (jX b kc T) S [.ref (b + 177)] Sr := by
  refine g_beg_v (by decide) (Nat.le_of_ble_eq_true rfl) ?_
  intro p e s m args below meth c Q C ret hM ls hl
  obtain ⟨hx, hb, hml, hown, hts, hE, hbs⟩ := id C
  have hl : lv_has ls 2 [(0, .ref (b + 177))] := hl
  unfold f_MarkReader_skipBlanks at h
  have B5 : ∀ (n : Nat), ∀ (S : SS) (H : Heap) (locs : List Loc) (ls : Array Slot) (x1_ : Int32) (v1_ : Int) (hx1_ : x1_.toInt = v1_), rng S → mS D b s 220 (jX b kc T S) H locs → lv_has ls 2 [(0, .ref (b + 177)), (1, .int x1_)] → f_MarkReader_skipBlanks_5 n S v1_ = some Sr → W p l e (mR 2 0 0) s m args below meth c H locs 0 0 Q (F0 m 5 ls []) := by
    intro n
    induction n with
    | zero => intro S H locs ls x1_ v1_ hx1_ hS hM hl h; exact absurd (h : none = some _) (fun q => nomatch q)
    | succ n hkf5_ =>
      intro S H locs ls x1_ v1_ hx1_ hS hM hl h
      have h : f_MarkReader_skipBlanks_5_b (f_MarkReader_skipBlanks_5 n) S v1_ = some Sr := h
      unfold f_MarkReader_skipBlanks_5_b at h
      refine lv_iload_n hx hb dX4_skipBlanks_5 rfl (lv_at hl 1 rfl) ?_
      refine lv_aload_n hx hb dX4_skipBlanks_6 rfl (lv_at hl 0 rfl) ?_
      refine g_getqf fl_X4_9_X4 C hM (i := 177) (r := 177) (by omega) (e_177 b kc T S) rfl h dX4_skipBlanks_7 (fun h => ?_)
      refine g_getN fl_X4_46_X10 C hM (i := 1) (r := 1) (by omega) (e_1 b kc T S) rfl hS dX4_skipBlanks_10 (fun z1_z bz1_z => ?_)
      refine g_icmp_ge (tgt := 43) hx hb hx1_ bz1_z h dX4_skipBlanks_13 (by decide) (fun h => ?_) (fun h => ?_)
      · exact ret S _ _ _ _ (Option.some.inj h) hM hS dX4_skipBlanks_43
      · refine lv_aload_n hx hb dX4_skipBlanks_16 rfl (lv_at hl 0 rfl) ?_
        refine g_getqf fl_X4_9_X4 C hM (i := 177) (r := 177) (by omega) (e_177 b kc T S) rfl h dX4_skipBlanks_17 (fun h => ?_)
        refine lv_iload_n hx hb dX4_skipBlanks_20 rfl (lv_at hl 1 rfl) ?_
        obtain ⟨r2_z, cr2_z, h⟩ := w_b1E h
        refine g_callI (J := jX b kc T) (m_runV calV_X10_byteAt wd_717 (g_Tape_byteAt l D kc b T S x1_ v1_ hx1_ hS cr2_z) C hM (i := 1) (by omega) (e_1 b kc T S) rfl hl.1 rfl rfl (Nat.le_of_ble_eq_true rfl) dX4_skipBlanks_21 ⟨Nat.le_of_ble_eq_true rfl, Nat.le_of_ble_eq_true rfl⟩ ⟨Nat.le_of_ble_eq_true rfl, Nat.le_of_ble_eq_true rfl⟩) hM (fun z3_z H locs bz3_z hM hS => ?_)
        refine g_callI (J := jX b kc T) (m_runSN calS_X11_isBlank wd_718 (g_MP_isBlank l D kc b T S z3_z r2_z bz3_z hS rfl) C hM hl.1 rfl rfl (Nat.le_of_ble_eq_true rfl) dX4_skipBlanks_24 ⟨Nat.le_of_ble_eq_true rfl, Nat.le_of_ble_eq_true rfl⟩ ⟨Nat.le_of_ble_eq_true rfl, Nat.le_of_ble_eq_true rfl⟩) hM (fun z4_z H locs bz4_z hM hS => ?_)
        refine g_if_eq (tgt := 43) hx hb bz4_z h dX4_skipBlanks_27 (by decide) (fun h => ?_) (fun h => ?_)
        · exact ret S _ _ _ _ (Option.some.inj h) hM hS dX4_skipBlanks_43
        · refine lv_aload_n hx hb dX4_skipBlanks_30 rfl (lv_at hl 0 rfl) ?_
          refine lv_iload_n hx hb dX4_skipBlanks_31 rfl (lv_at hl 1 rfl) ?_
          refine lv_iconst (v := 1) hx hb dX4_skipBlanks_32 (by decide) ?_
          refine g_iadd hx hb hx1_ (show (1 : Int32).toInt = 1 by decide) h dX4_skipBlanks_33 (fun z5_z bz5_z h => ?_)
          refine g_put fl_X4_27_X4 C hM (i := 177) (by omega) (e_177 b kc T S) rfl rfl (Nat.le_of_ble_eq_true rfl) (fs1 := [va_rf (os b (gq S 177 0)), va_rf (os b (gq S 177 1)), va_rf (os b (gq S 177 2)), .int (oi (gi S 177 3)), .int z5_z, .int (oi (gi S 177 5)), .int (oi (gi S 177 6))]) rfl (p_177_4 bz5_z) (rng_si hS (i32_of bz5_z)) h dX4_skipBlanks_34 (fun S6_z H locs h hM hS => ?_)
          refine g_iinc (y := 1) hx hb hx1_ (by decide) (by decide) h dX4_skipBlanks_37 hl (k := 1) rfl (by decide) (fun z7_z ls bz7_z h hl => ?_)
          have hl : lv_has ls 2 [(1, .int z7_z), (0, .ref (b + 177))] := hl
          refine lv_goto (tgt := 5) hx hb dX4_skipBlanks_40 (by decide) ?_
          exact hkf5_ S6_z _ _ _ z7_z (v1_ + 1) bz7_z hS hM (lv_sub hl [1, 0] rfl) h
  refine lv_aload_n hx hb dX4_skipBlanks_0 rfl (lv_at hl 0 rfl) ?_
  refine g_get fl_X4_27_X4 C hM (i := 177) (r := 177) (by omega) (e_177 b kc T S) rfl hS dX4_skipBlanks_1 (fun z1_z bz1_z => ?_)
  refine lv_istore_n (lv' := [(1, .int z1_z), (0, .ref (b + 177))]) hx hb dX4_skipBlanks_4 rfl hl (by decide) rfl (fun ls hl => ?_)
  exact B5 FU S _ _ _ z1_z (gi S 177 4) bz1_z hS hM (lv_sub hl [1, 0] rfl) h

def f_MarkReader_readToken_67_b (kf67_ : SS → Int → Option SS) (S : SS) (v1_ : Int) : Option SS := w_chk (gq S 177 0 = some 1) ((if gi S 1 1 ≤ v1_ then some S else w_chk (gq S 177 0 = some 1) (w_b1 (f_Tape_byteAt S v1_) (fun r2_z => (if f_MarkReader_sortOf S r2_z = gi S 177 6 then w_chk (i32 (v1_ + 1)) (w_lt (si S 177 4 (v1_ + 1)) (fun S7_z => w_chk (i32 (v1_ + 1)) (kf67_ S7_z (v1_ + 1)))) else some S)))))
def f_MarkReader_readToken_67 : Nat → SS → Int → Option SS
  | 0 => fun _ _ => none
  | n + 1 => f_MarkReader_readToken_67_b (f_MarkReader_readToken_67 n)
def f_MarkReader_readToken_54 (S : SS) : Option SS := (if gi S 177 6 = 0 then some S else f_MarkReader_readToken_67 FU S (gi S 177 4))
def f_MarkReader_readToken (S : SS) : Option SS := w_b1 (f_MarkReader_skipBlanks S) (fun S1_z => w_lt (si S1_z 177 5 (gi S1_z 177 4)) (fun S4_z => w_chk (gq S4_z 177 0 = some 1) (w_b1 (f_Tape_byteAt S4_z (gi S4_z 177 4)) (fun r6_z => w_lt (si S4_z 177 6 (f_MarkReader_sortOf S4_z r6_z)) (fun S9_z => w_chk (gq S9_z 177 0 = some 1) ((if gi S9_z 1 1 ≤ gi S9_z 177 4 then f_MarkReader_readToken_54 S9_z  else w_chk (i32 ((gi S9_z 177 4) + 1)) (w_lt (si S9_z 177 4 ((gi S9_z 177 4) + 1)) (fun S14_z => f_MarkReader_readToken_54 S14_z )))))))))
set_option maxHeartbeats 4000000 in
set_option maxRecDepth 100000 in
theorem g_MarkReader_readToken (l : Launch) (D : va_G) (kc : Nat → ClassId) (b : Nat) (T S : SS) (hS : rng S) {Sr : SS} (h : f_MarkReader_readToken S = some Sr) : cV l yX4_readToken cX4_readToken 2 3 D kc b (jX b kc T) S [.ref (b + 177)] Sr := by
  refine g_beg_v (by decide) (Nat.le_of_ble_eq_true rfl) ?_
  intro p e s m args below meth c Q C ret hM ls hl
  obtain ⟨hx, hb, hml, hown, hts, hE, hbs⟩ := id C
  have hl : lv_has ls 2 [(0, .ref (b + 177))] := hl
  unfold f_MarkReader_readToken at h
  have B67 : ∀ (n : Nat), ∀ (S : SS) (H : Heap) (locs : List Loc) (ls : Array Slot) (x1_ : Int32) (v1_ : Int) (hx1_ : x1_.toInt = v1_), rng S → mS D b s 220 (jX b kc T S) H locs → lv_has ls 2 [(0, .ref (b + 177)), (1, .int x1_)] → f_MarkReader_readToken_67 n S v1_ = some Sr → W p l e (mR 3 0 0) s m args below meth c H locs 0 0 Q (F0 m 67 ls []) := by
    intro n
    induction n with
    | zero => intro S H locs ls x1_ v1_ hx1_ hS hM hl h; exact absurd (h : none = some _) (fun q => nomatch q)
    | succ n hkf67_ =>
      intro S H locs ls x1_ v1_ hx1_ hS hM hl h
      have h : f_MarkReader_readToken_67_b (f_MarkReader_readToken_67 n) S v1_ = some Sr := h
      unfold f_MarkReader_readToken_67_b at h
      refine lv_iload_n hx hb dX4_readToken_67 rfl (lv_at hl 1 rfl) ?_
      refine lv_aload_n hx hb dX4_readToken_68 rfl (lv_at hl 0 rfl) ?_
      refine g_getqf fl_X4_9_X4 C hM (i := 177) (r := 177) (by omega) (e_177 b kc T S) rfl h dX4_readToken_69 (fun h => ?_)
      refine g_getN fl_X4_46_X10 C hM (i := 1) (r := 1) (by omega) (e_1 b kc T S) rfl hS dX4_readToken_72 (fun z1_z bz1_z => ?_)
      refine g_icmp_ge (tgt := 109) hx hb hx1_ bz1_z h dX4_readToken_75 (by decide) (fun h => ?_) (fun h => ?_)
      · exact ret S _ _ _ _ (Option.some.inj h) hM hS dX4_readToken_109
      · refine lv_aload_n hx hb dX4_readToken_78 rfl (lv_at hl 0 rfl) ?_
        refine g_getqf fl_X4_9_X4 C hM (i := 177) (r := 177) (by omega) (e_177 b kc T S) rfl h dX4_readToken_79 (fun h => ?_)
        refine lv_iload_n hx hb dX4_readToken_82 rfl (lv_at hl 1 rfl) ?_
        obtain ⟨r2_z, cr2_z, h⟩ := w_b1E h
        refine g_callI (J := jX b kc T) (m_runV calV_X10_byteAt wd_717 (g_Tape_byteAt l D kc b T S x1_ v1_ hx1_ hS cr2_z) C hM (i := 1) (by omega) (e_1 b kc T S) rfl hl.1 rfl rfl (Nat.le_of_ble_eq_true rfl) dX4_readToken_83 ⟨Nat.le_of_ble_eq_true rfl, Nat.le_of_ble_eq_true rfl⟩ ⟨Nat.le_of_ble_eq_true rfl, Nat.le_of_ble_eq_true rfl⟩) hM (fun z3_z H locs bz3_z hM hS => ?_)
        refine g_callI (J := jX b kc T) (m_runS calS_X4_sortOf wd_719 (g_MarkReader_sortOf l D kc b T S z3_z r2_z bz3_z hS rfl) C hM hl.1 rfl rfl (Nat.le_of_ble_eq_true rfl) dX4_readToken_86 ⟨Nat.le_of_ble_eq_true rfl, Nat.le_of_ble_eq_true rfl⟩ ⟨Nat.le_of_ble_eq_true rfl, Nat.le_of_ble_eq_true rfl⟩) hM (fun z4_z H locs bz4_z hM hS => ?_)
        refine lv_aload_n hx hb dX4_readToken_89 rfl (lv_at hl 0 rfl) ?_
        refine g_get fl_X4_124_X4 C hM (i := 177) (r := 177) (by omega) (e_177 b kc T S) rfl hS dX4_readToken_90 (fun z5_z bz5_z => ?_)
        refine g_icmp_ne (tgt := 109) hx hb bz4_z bz5_z h dX4_readToken_93 (by decide) (fun h => ?_) (fun h => ?_)
        · exact ret S _ _ _ _ (Option.some.inj h) hM hS dX4_readToken_109
        · refine lv_aload_n hx hb dX4_readToken_96 rfl (lv_at hl 0 rfl) ?_
          refine lv_iload_n hx hb dX4_readToken_97 rfl (lv_at hl 1 rfl) ?_
          refine lv_iconst (v := 1) hx hb dX4_readToken_98 (by decide) ?_
          refine g_iadd hx hb hx1_ (show (1 : Int32).toInt = 1 by decide) h dX4_readToken_99 (fun z6_z bz6_z h => ?_)
          refine g_put fl_X4_27_X4 C hM (i := 177) (by omega) (e_177 b kc T S) rfl rfl (Nat.le_of_ble_eq_true rfl) (fs1 := [va_rf (os b (gq S 177 0)), va_rf (os b (gq S 177 1)), va_rf (os b (gq S 177 2)), .int (oi (gi S 177 3)), .int z6_z, .int (oi (gi S 177 5)), .int (oi (gi S 177 6))]) rfl (p_177_4 bz6_z) (rng_si hS (i32_of bz6_z)) h dX4_readToken_100 (fun S7_z H locs h hM hS => ?_)
          refine g_iinc (y := 1) hx hb hx1_ (by decide) (by decide) h dX4_readToken_103 hl (k := 1) rfl (by decide) (fun z8_z ls bz8_z h hl => ?_)
          have hl : lv_has ls 2 [(1, .int z8_z), (0, .ref (b + 177))] := hl
          refine lv_goto (tgt := 67) hx hb dX4_readToken_106 (by decide) ?_
          exact hkf67_ S7_z _ _ _ z8_z (v1_ + 1) bz8_z hS hM (lv_sub hl [1, 0] rfl) h
  have B54 : ∀ (S : SS) (H : Heap) (locs : List Loc) (ls : Array Slot), rng S → mS D b s 220 (jX b kc T S) H locs → lv_has ls 2 [(0, .ref (b + 177))] → f_MarkReader_readToken_54 S = some Sr → W p l e (mR 3 0 0) s m args below meth c H locs 0 0 Q (F0 m 54 ls []) := by
    intro S H locs ls hS hM hl h
    unfold f_MarkReader_readToken_54 at h
    refine lv_aload_n hx hb dX4_readToken_54 rfl (lv_at hl 0 rfl) ?_
    refine g_get fl_X4_124_X4 C hM (i := 177) (r := 177) (by omega) (e_177 b kc T S) rfl hS dX4_readToken_55 (fun z1_z bz1_z => ?_)
    refine g_if_ne (tgt := 62) hx hb bz1_z h dX4_readToken_58 (by decide) (fun h => ?_) (fun h => ?_)
    · refine lv_aload_n hx hb dX4_readToken_62 rfl (lv_at hl 0 rfl) ?_
      refine g_get fl_X4_27_X4 C hM (i := 177) (r := 177) (by omega) (e_177 b kc T S) rfl hS dX4_readToken_63 (fun z2_z bz2_z => ?_)
      refine lv_istore_n (lv' := [(1, .int z2_z), (0, .ref (b + 177))]) hx hb dX4_readToken_66 rfl hl (by decide) rfl (fun ls hl => ?_)
      exact B67 FU S _ _ _ z2_z (gi S 177 4) bz2_z hS hM (lv_sub hl [1, 0] rfl) h
    · exact ret S _ _ _ _ (Option.some.inj h) hM hS dX4_readToken_61
  refine lv_aload_n hx hb dX4_readToken_0 rfl (lv_at hl 0 rfl) ?_
  obtain ⟨S1_z, cS1_z, h⟩ := w_b1E h
  refine g_callV (J := jX b kc T) (m_runV calV_X4_skipBlanks wd_713 (g_MarkReader_skipBlanks l D kc b T S hS cS1_z) C hM (i := 177) (by omega) (e_177 b kc T S) rfl hl.1 rfl rfl (Nat.le_of_ble_eq_true rfl) dX4_readToken_1 ⟨Nat.le_of_ble_eq_true rfl, Nat.le_of_ble_eq_true rfl⟩ ⟨Nat.le_of_ble_eq_true rfl, Nat.le_of_ble_eq_true rfl⟩) hM (fun H locs hM hS => ?_)
  refine lv_aload_n hx hb dX4_readToken_4 rfl (lv_at hl 0 rfl) ?_
  refine lv_aload_n hx hb dX4_readToken_5 rfl (lv_at hl 0 rfl) ?_
  refine g_get fl_X4_27_X4 C hM (i := 177) (r := 177) (by omega) (e_177 b kc T S1_z) rfl hS dX4_readToken_6 (fun z3_z bz3_z => ?_)
  refine g_put fl_X4_43_X4 C hM (i := 177) (by omega) (e_177 b kc T S1_z) rfl rfl (Nat.le_of_ble_eq_true rfl) (fs1 := [va_rf (os b (gq S1_z 177 0)), va_rf (os b (gq S1_z 177 1)), va_rf (os b (gq S1_z 177 2)), .int (oi (gi S1_z 177 3)), .int (oi (gi S1_z 177 4)), .int z3_z, .int (oi (gi S1_z 177 6))]) rfl (p_177_5 bz3_z) (rng_si hS (i32_of bz3_z)) h dX4_readToken_9 (fun S4_z H locs h hM hS => ?_)
  refine lv_aload_n hx hb dX4_readToken_12 rfl (lv_at hl 0 rfl) ?_
  refine lv_aload_n hx hb dX4_readToken_13 rfl (lv_at hl 0 rfl) ?_
  refine g_getqf fl_X4_9_X4 C hM (i := 177) (r := 177) (by omega) (e_177 b kc T S4_z) rfl h dX4_readToken_14 (fun h => ?_)
  refine lv_aload_n hx hb dX4_readToken_17 rfl (lv_at hl 0 rfl) ?_
  refine g_get fl_X4_27_X4 C hM (i := 177) (r := 177) (by omega) (e_177 b kc T S4_z) rfl hS dX4_readToken_18 (fun z5_z bz5_z => ?_)
  obtain ⟨r6_z, cr6_z, h⟩ := w_b1E h
  refine g_callI (J := jX b kc T) (m_runV calV_X10_byteAt wd_717 (g_Tape_byteAt l D kc b T S4_z z5_z (gi S4_z 177 4) bz5_z hS cr6_z) C hM (i := 1) (by omega) (e_1 b kc T S4_z) rfl hl.1 rfl rfl (Nat.le_of_ble_eq_true rfl) dX4_readToken_21 ⟨Nat.le_of_ble_eq_true rfl, Nat.le_of_ble_eq_true rfl⟩ ⟨Nat.le_of_ble_eq_true rfl, Nat.le_of_ble_eq_true rfl⟩) hM (fun z7_z H locs bz7_z hM hS => ?_)
  refine g_callI (J := jX b kc T) (m_runS calS_X4_sortOf wd_719 (g_MarkReader_sortOf l D kc b T S4_z z7_z r6_z bz7_z hS rfl) C hM hl.1 rfl rfl (Nat.le_of_ble_eq_true rfl) dX4_readToken_24 ⟨Nat.le_of_ble_eq_true rfl, Nat.le_of_ble_eq_true rfl⟩ ⟨Nat.le_of_ble_eq_true rfl, Nat.le_of_ble_eq_true rfl⟩) hM (fun z8_z H locs bz8_z hM hS => ?_)
  refine g_put fl_X4_124_X4 C hM (i := 177) (by omega) (e_177 b kc T S4_z) rfl rfl (Nat.le_of_ble_eq_true rfl) (fs1 := [va_rf (os b (gq S4_z 177 0)), va_rf (os b (gq S4_z 177 1)), va_rf (os b (gq S4_z 177 2)), .int (oi (gi S4_z 177 3)), .int (oi (gi S4_z 177 4)), .int (oi (gi S4_z 177 5)), .int z8_z]) rfl (p_177_6 bz8_z) (rng_si hS (i32_of bz8_z)) h dX4_readToken_27 (fun S9_z H locs h hM hS => ?_)
  refine lv_aload_n hx hb dX4_readToken_30 rfl (lv_at hl 0 rfl) ?_
  refine g_get fl_X4_27_X4 C hM (i := 177) (r := 177) (by omega) (e_177 b kc T S9_z) rfl hS dX4_readToken_31 (fun z10_z bz10_z => ?_)
  refine lv_aload_n hx hb dX4_readToken_34 rfl (lv_at hl 0 rfl) ?_
  refine g_getqf fl_X4_9_X4 C hM (i := 177) (r := 177) (by omega) (e_177 b kc T S9_z) rfl h dX4_readToken_35 (fun h => ?_)
  refine g_getN fl_X4_46_X10 C hM (i := 1) (r := 1) (by omega) (e_1 b kc T S9_z) rfl hS dX4_readToken_38 (fun z11_z bz11_z => ?_)
  refine g_icmp_ge (tgt := 54) hx hb bz10_z bz11_z h dX4_readToken_41 (by decide) (fun h => ?_) (fun h => ?_)
  · exact B54 S9_z _ _ _ hS hM (lv_sub hl [0] rfl) h
  · refine lv_aload_n hx hb dX4_readToken_44 rfl (lv_at hl 0 rfl) ?_
    refine lv_dup hx hb dX4_readToken_45 rfl ?_
    refine g_get fl_X4_27_X4 C hM (i := 177) (r := 177) (by omega) (e_177 b kc T S9_z) rfl hS dX4_readToken_46 (fun z12_z bz12_z => ?_)
    refine lv_iconst (v := 1) hx hb dX4_readToken_49 (by decide) ?_
    refine g_iadd hx hb bz12_z (show (1 : Int32).toInt = 1 by decide) h dX4_readToken_50 (fun z13_z bz13_z h => ?_)
    refine g_put fl_X4_27_X4 C hM (i := 177) (by omega) (e_177 b kc T S9_z) rfl rfl (Nat.le_of_ble_eq_true rfl) (fs1 := [va_rf (os b (gq S9_z 177 0)), va_rf (os b (gq S9_z 177 1)), va_rf (os b (gq S9_z 177 2)), .int (oi (gi S9_z 177 3)), .int z13_z, .int (oi (gi S9_z 177 5)), .int (oi (gi S9_z 177 6))]) rfl (p_177_4 bz13_z) (rng_si hS (i32_of bz13_z)) h dX4_readToken_51 (fun S14_z H locs h hM hS => ?_)
    exact B54 S14_z _ _ _ hS hM (lv_sub hl [0] rfl) h

def f_MarkReader_refuse (S : SS) (v1 : Int) : Option (Int × SS) := w_chk (gq S 177 2 = some 3) (w_b2 (f_Fault_tellOf S v1 (gi S 177 5)) (fun r3_z S2_z => w_chk (r3_z = 0 ∨ r3_z = 1) (some (r3_z, S2_z))))
set_option maxHeartbeats 4000000 in
set_option maxRecDepth 100000 in
theorem g_MarkReader_refuse (l : Launch) (D : va_G) (kc : Nat → ClassId) (b : Nat) (T S : SS) (x1 : Int32) (v1 : Int) (hx1 : x1.toInt = v1) (hS : rng S) {vr : Int} {Sr : SS} (h : f_MarkReader_refuse S v1 = some (vr, Sr)) : cI l yX4_refuse cX4_refuse 2 .boolean 2 D kc b (jX b kc T) S [.ref (b + 177), .int x1] vr Sr := by
  refine g_beg_z (by decide) (Nat.le_of_ble_eq_true rfl) ?_
  intro p e s m args below meth c Q C ret hM ls hl
  obtain ⟨hx, hb, hml, hown, hts, hE, hbs⟩ := id C
  have hl : lv_has ls 2 [(0, .ref (b + 177)), (1, .int x1)] := hl
  unfold f_MarkReader_refuse at h
  refine lv_aload_n hx hb dX4_refuse_0 rfl (lv_at hl 0 rfl) ?_
  refine g_getqf fl_X4_19_X4 C hM (i := 177) (r := 177) (by omega) (e_177 b kc T S) rfl h dX4_refuse_1 (fun h => ?_)
  refine lv_iload_n hx hb dX4_refuse_4 rfl (lv_at hl 1 rfl) ?_
  refine lv_aload_n hx hb dX4_refuse_5 rfl (lv_at hl 0 rfl) ?_
  refine g_get fl_X4_43_X4 C hM (i := 177) (r := 177) (by omega) (e_177 b kc T S) rfl hS dX4_refuse_6 (fun z1_z bz1_z => ?_)
  obtain ⟨r3_z, S2_z, cr3_z, h⟩ := w_b2E h
  refine g_callI (J := jX b kc T) (m_runV calV_X1_tellOf wd_764 (g_Fault_tellOf l D kc b T S x1 v1 hx1 z1_z (gi S 177 5) bz1_z hS cr3_z) C hM (i := 3) (by omega) (e_3 b kc T S) rfl hl.1 rfl rfl (Nat.le_of_ble_eq_true rfl) dX4_refuse_9 ⟨Nat.le_of_ble_eq_true rfl, Nat.le_of_ble_eq_true rfl⟩ ⟨Nat.le_of_ble_eq_true rfl, Nat.le_of_ble_eq_true rfl⟩) hM (fun z4_z H locs bz4_z hM hS => ?_)
  obtain ⟨c5_z, h⟩ := w_chkE h
  exact ret S2_z _ _ _ _ z4_z (bz4_z.trans (r_1 h)) (by rw [← (r_1 h)]; exact c5_z) (r_2 h) hM hS dX4_refuse_12

def f_MarkReader_numberRead_7_b (S : SS) (kf7_ : Int → Int → Option Int) (v1_ : Int) (v2_ : Int) : Option Int := (if gi S 177 4 ≤ v2_ then some v1_ else w_chk (i32 (v1_ * 10)) (w_chk (gq S 177 0 = some 1) (w_b1 (f_Tape_byteAt S v2_) (fun r3_z => w_chk (i32 ((v1_ * 10) + r3_z)) (w_chk (i32 (((v1_ * 10) + r3_z) - 48)) (w_chk (i32 (v2_ + 1)) (kf7_ (((v1_ * 10) + r3_z) - 48) (v2_ + 1))))))))
def f_MarkReader_numberRead_7 (S : SS) : Nat → Int → Int → Option Int
  | 0 => fun _ _ => none
  | n + 1 => f_MarkReader_numberRead_7_b S (f_MarkReader_numberRead_7 S n)
def f_MarkReader_numberRead (S : SS) : Option Int := f_MarkReader_numberRead_7 S FU 0 (gi S 177 5)
set_option maxHeartbeats 4000000 in
set_option maxRecDepth 100000 in
theorem g_MarkReader_numberRead (l : Launch) (D : va_G) (kc : Nat → ClassId) (b : Nat) (T S : SS) (hS : rng S) {vr : Int} (h : f_MarkReader_numberRead S = some vr) : cI l yX4_numberRead cX4_numberRead 3 .int 2 D kc b (jX b kc T) S [.ref (b + 177)] vr S := by
  refine g_beg_i (by decide) (Nat.le_of_ble_eq_true rfl) ?_
  intro p e s m args below meth c Q C ret hM ls hl
  obtain ⟨hx, hb, hml, hown, hts, hE, hbs⟩ := id C
  have hl : lv_has ls 3 [(0, .ref (b + 177))] := hl
  unfold f_MarkReader_numberRead at h
  have B7 : ∀ (n : Nat), ∀ (H : Heap) (locs : List Loc) (ls : Array Slot) (x1_ : Int32) (v1_ : Int) (hx1_ : x1_.toInt = v1_) (x2_ : Int32) (v2_ : Int) (hx2_ : x2_.toInt = v2_), rng S → mS D b s 220 (jX b kc T S) H locs → lv_has ls 3 [(0, .ref (b + 177)), (1, .int x1_), (2, .int x2_)] → f_MarkReader_numberRead_7 S n v1_ v2_ = some vr → W p l e (mR 2 0 0) s m args below meth c H locs 0 0 Q (F0 m 7 ls []) := by
    intro n
    induction n with
    | zero => intro H locs ls x1_ v1_ hx1_ x2_ v2_ hx2_ hS hM hl h; exact absurd (h : none = some _) (fun q => nomatch q)
    | succ n hkf7_ =>
      intro H locs ls x1_ v1_ hx1_ x2_ v2_ hx2_ hS hM hl h
      have h : f_MarkReader_numberRead_7_b S (f_MarkReader_numberRead_7 S n) v1_ v2_ = some vr := h
      unfold f_MarkReader_numberRead_7_b at h
      refine lv_iload_n hx hb dX4_numberRead_7 rfl (lv_at hl 2 rfl) ?_
      refine lv_aload_n hx hb dX4_numberRead_8 rfl (lv_at hl 0 rfl) ?_
      refine g_get fl_X4_27_X4 C hM (i := 177) (r := 177) (by omega) (e_177 b kc T S) rfl hS dX4_numberRead_9 (fun z1_z bz1_z => ?_)
      refine g_icmp_ge (tgt := 38) hx hb hx2_ bz1_z h dX4_numberRead_12 (by decide) (fun h => ?_) (fun h => ?_)
      · refine lv_iload_n hx hb dX4_numberRead_38 rfl (lv_at hl 1 rfl) ?_
        exact ret S _ _ _ _ x1_ (hx1_.trans (Option.some.inj h)) rfl hM hS dX4_numberRead_39
      · refine lv_iload_n hx hb dX4_numberRead_15 rfl (lv_at hl 1 rfl) ?_
        refine lv_bipush (v := 10) hx hb dX4_numberRead_16 (by decide) ?_
        refine g_imul hx hb hx1_ (show (10 : Int32).toInt = 10 by decide) h dX4_numberRead_18 (fun z2_z bz2_z h => ?_)
        refine lv_aload_n hx hb dX4_numberRead_19 rfl (lv_at hl 0 rfl) ?_
        refine g_getqf fl_X4_9_X4 C hM (i := 177) (r := 177) (by omega) (e_177 b kc T S) rfl h dX4_numberRead_20 (fun h => ?_)
        refine lv_iload_n hx hb dX4_numberRead_23 rfl (lv_at hl 2 rfl) ?_
        obtain ⟨r3_z, cr3_z, h⟩ := w_b1E h
        refine g_callI (J := jX b kc T) (m_runV calV_X10_byteAt wd_717 (g_Tape_byteAt l D kc b T S x2_ v2_ hx2_ hS cr3_z) C hM (i := 1) (by omega) (e_1 b kc T S) rfl hl.1 rfl rfl (Nat.le_of_ble_eq_true rfl) dX4_numberRead_24 ⟨Nat.le_of_ble_eq_true rfl, Nat.le_of_ble_eq_true rfl⟩ ⟨Nat.le_of_ble_eq_true rfl, Nat.le_of_ble_eq_true rfl⟩) hM (fun z4_z H locs bz4_z hM hS => ?_)
        refine g_iadd hx hb bz2_z bz4_z h dX4_numberRead_27 (fun z5_z bz5_z h => ?_)
        refine lv_bipush (v := 48) hx hb dX4_numberRead_28 (by decide) ?_
        refine g_isub hx hb bz5_z (show (48 : Int32).toInt = 48 by decide) h dX4_numberRead_30 (fun z6_z bz6_z h => ?_)
        refine lv_istore_n (lv' := [(1, .int z6_z), (0, .ref (b + 177)), (2, .int x2_)]) hx hb dX4_numberRead_31 rfl hl (by decide) rfl (fun ls hl => ?_)
        refine g_iinc (y := 1) hx hb hx2_ (by decide) (by decide) h dX4_numberRead_32 hl (k := 2) rfl (by decide) (fun z7_z ls bz7_z h hl => ?_)
        have hl : lv_has ls 3 [(2, .int z7_z), (1, .int z6_z), (0, .ref (b + 177))] := hl
        refine lv_goto (tgt := 7) hx hb dX4_numberRead_35 (by decide) ?_
        exact hkf7_ _ _ _ z6_z (((v1_ * 10) + r3_z) - 48) bz6_z z7_z (v2_ + 1) bz7_z hS hM (lv_sub hl [2, 1, 0] rfl) h
  refine lv_iconst (v := 0) hx hb dX4_numberRead_0 (by decide) ?_
  refine lv_istore_n (lv' := [(1, .int 0), (0, .ref (b + 177))]) hx hb dX4_numberRead_1 rfl hl (by decide) rfl (fun ls hl => ?_)
  refine lv_aload_n hx hb dX4_numberRead_2 rfl (lv_at hl 1 rfl) ?_
  refine g_get fl_X4_43_X4 C hM (i := 177) (r := 177) (by omega) (e_177 b kc T S) rfl hS dX4_numberRead_3 (fun z1_z bz1_z => ?_)
  refine lv_istore_n (lv' := [(2, .int z1_z), (1, .int 0), (0, .ref (b + 177))]) hx hb dX4_numberRead_6 rfl hl (by decide) rfl (fun ls hl => ?_)
  exact B7 FU _ _ _ 0 0 (show (0 : Int32).toInt = 0 by decide) z1_z (gi S 177 5) bz1_z hS hM (lv_sub hl [2, 1, 0] rfl) h

def f_MarkReader_mayBeginMove (S : SS) (v1 : Int) (v2 : Int) (v3 : Int) (v4 : Int) : Option Int := (if v4 = 0 then (if gi S 177 3 ≤ v1 then some 0 else (if 0 < v1 then some 1 else (if gi S 177 3 ≤ 1 then some 0 else some 1))) else (if v4 = 1 then (if v2 < v1 then some 0 else (if gi S 177 3 ≤ v2 then some 0 else (if 0 < v1 then some 1 else w_chk (i32 (v2 + 1)) ((if gi S 177 3 ≤ v2 + 1 then some 0 else some 1))))) else (if v3 < v1 then some 1 else w_chk (i32 (v2 + 1)) ((if v3 ≤ v2 + 1 then some 0 else (if gi S 177 3 < v3 then some 0 else some 1))))))
set_option maxHeartbeats 4000000 in
set_option maxRecDepth 100000 in
theorem g_MarkReader_mayBeginMove (l : Launch) (D : va_G) (kc : Nat → ClassId) (b : Nat) (T S : SS) (x1 : Int32) (v1 : Int) (hx1 : x1.toInt = v1) (x2 : Int32) (v2 : Int) (hx2 : x2.toInt = v2) (x3 : Int32) (v3 : Int) (hx3 : x3.toInt = v3) (x4 : Int32) (v4 : Int) (hx4 : x4.toInt = v4) (hS : rng S) {vr : Int} (h : f_MarkReader_mayBeginMove S v1 v2 v3 v4 = some vr) : cI l yX4_mayBeginMove cX4_mayBeginMove 5 .boolean 1 D kc b (jX b kc T) S [.ref (b + 177), .int x1, .int x2, .int x3, .int x4] vr S := by
  refine g_beg_z (by decide) (Nat.le_of_ble_eq_true rfl) ?_
  intro p e s m args below meth c Q C ret hM ls hl
  obtain ⟨hx, hb, hml, hown, hts, hE, hbs⟩ := id C
  have hl : lv_has ls 5 [(0, .ref (b + 177)), (1, .int x1), (2, .int x2), (3, .int x3), (4, .int x4)] := hl
  unfold f_MarkReader_mayBeginMove at h
  refine lv_iload hx hb dX4_mayBeginMove_0 (lv_at hl 4 rfl) ?_
  refine g_if_ne (tgt := 31) hx hb hx4 h dX4_mayBeginMove_2 (by decide) (fun h => ?_) (fun h => ?_)
  · refine lv_iload hx hb dX4_mayBeginMove_31 (lv_at hl 4 rfl) ?_
    refine lv_iconst (v := 1) hx hb dX4_mayBeginMove_33 (by decide) ?_
    refine g_icmp_ne (tgt := 70) hx hb hx4 (show (1 : Int32).toInt = 1 by decide) h dX4_mayBeginMove_34 (by decide) (fun h => ?_) (fun h => ?_)
    · refine lv_iload_n hx hb dX4_mayBeginMove_70 rfl (lv_at hl 3 rfl) ?_
      refine lv_iload_n hx hb dX4_mayBeginMove_71 rfl (lv_at hl 1 rfl) ?_
      refine g_icmp_lt (tgt := 90) hx hb hx3 hx1 h dX4_mayBeginMove_72 (by decide) (fun h => ?_) (fun h => ?_)
      · refine lv_iconst (v := 1) hx hb dX4_mayBeginMove_90 (by decide) ?_
        refine lv_goto (tgt := 95) hx hb dX4_mayBeginMove_91 (by decide) ?_
        exact ret S _ _ _ _ 1 ((show (1 : Int32).toInt = 1 by decide).trans (Option.some.inj h)) (by rw [← (Option.some.inj h)]; exact (by decide)) rfl hM hS dX4_mayBeginMove_95
      · refine lv_iload_n hx hb dX4_mayBeginMove_75 rfl (lv_at hl 3 rfl) ?_
        refine lv_iload_n hx hb dX4_mayBeginMove_76 rfl (lv_at hl 2 rfl) ?_
        refine lv_iconst (v := 1) hx hb dX4_mayBeginMove_77 (by decide) ?_
        refine g_iadd hx hb hx2 (show (1 : Int32).toInt = 1 by decide) h dX4_mayBeginMove_78 (fun z1_z bz1_z h => ?_)
        refine g_icmp_le (tgt := 94) hx hb hx3 bz1_z h dX4_mayBeginMove_79 (by decide) (fun h => ?_) (fun h => ?_)
        · refine lv_iconst (v := 0) hx hb dX4_mayBeginMove_94 (by decide) ?_
          exact ret S _ _ _ _ 0 ((show (0 : Int32).toInt = 0 by decide).trans (Option.some.inj h)) (by rw [← (Option.some.inj h)]; exact (by decide)) rfl hM hS dX4_mayBeginMove_95
        · refine lv_iload_n hx hb dX4_mayBeginMove_82 rfl (lv_at hl 3 rfl) ?_
          refine lv_aload_n hx hb dX4_mayBeginMove_83 rfl (lv_at hl 0 rfl) ?_
          refine g_get fl_X4_23_X4 C hM (i := 177) (r := 177) (by omega) (e_177 b kc T S) rfl hS dX4_mayBeginMove_84 (fun z2_z bz2_z => ?_)
          refine g_icmp_gt (tgt := 94) hx hb hx3 bz2_z h dX4_mayBeginMove_87 (by decide) (fun h => ?_) (fun h => ?_)
          · refine lv_iconst (v := 0) hx hb dX4_mayBeginMove_94 (by decide) ?_
            exact ret S _ _ _ _ 0 ((show (0 : Int32).toInt = 0 by decide).trans (Option.some.inj h)) (by rw [← (Option.some.inj h)]; exact (by decide)) rfl hM hS dX4_mayBeginMove_95
          · refine lv_iconst (v := 1) hx hb dX4_mayBeginMove_90 (by decide) ?_
            refine lv_goto (tgt := 95) hx hb dX4_mayBeginMove_91 (by decide) ?_
            exact ret S _ _ _ _ 1 ((show (1 : Int32).toInt = 1 by decide).trans (Option.some.inj h)) (by rw [← (Option.some.inj h)]; exact (by decide)) rfl hM hS dX4_mayBeginMove_95
    · refine lv_iload_n hx hb dX4_mayBeginMove_37 rfl (lv_at hl 1 rfl) ?_
      refine lv_iload_n hx hb dX4_mayBeginMove_38 rfl (lv_at hl 2 rfl) ?_
      refine g_icmp_gt (tgt := 68) hx hb hx1 hx2 h dX4_mayBeginMove_39 (by decide) (fun h => ?_) (fun h => ?_)
      · refine lv_iconst (v := 0) hx hb dX4_mayBeginMove_68 (by decide) ?_
        exact ret S _ _ _ _ 0 ((show (0 : Int32).toInt = 0 by decide).trans (Option.some.inj h)) (by rw [← (Option.some.inj h)]; exact (by decide)) rfl hM hS dX4_mayBeginMove_69
      · refine lv_iload_n hx hb dX4_mayBeginMove_42 rfl (lv_at hl 2 rfl) ?_
        refine lv_aload_n hx hb dX4_mayBeginMove_43 rfl (lv_at hl 0 rfl) ?_
        refine g_get fl_X4_23_X4 C hM (i := 177) (r := 177) (by omega) (e_177 b kc T S) rfl hS dX4_mayBeginMove_44 (fun z3_z bz3_z => ?_)
        refine g_icmp_ge (tgt := 68) hx hb hx2 bz3_z h dX4_mayBeginMove_47 (by decide) (fun h => ?_) (fun h => ?_)
        · refine lv_iconst (v := 0) hx hb dX4_mayBeginMove_68 (by decide) ?_
          exact ret S _ _ _ _ 0 ((show (0 : Int32).toInt = 0 by decide).trans (Option.some.inj h)) (by rw [← (Option.some.inj h)]; exact (by decide)) rfl hM hS dX4_mayBeginMove_69
        · refine lv_iload_n hx hb dX4_mayBeginMove_50 rfl (lv_at hl 1 rfl) ?_
          refine g_if_gt (tgt := 64) hx hb hx1 h dX4_mayBeginMove_51 (by decide) (fun h => ?_) (fun h => ?_)
          · refine lv_iconst (v := 1) hx hb dX4_mayBeginMove_64 (by decide) ?_
            refine lv_goto (tgt := 69) hx hb dX4_mayBeginMove_65 (by decide) ?_
            exact ret S _ _ _ _ 1 ((show (1 : Int32).toInt = 1 by decide).trans (Option.some.inj h)) (by rw [← (Option.some.inj h)]; exact (by decide)) rfl hM hS dX4_mayBeginMove_69
          · refine lv_iload_n hx hb dX4_mayBeginMove_54 rfl (lv_at hl 2 rfl) ?_
            refine lv_iconst (v := 1) hx hb dX4_mayBeginMove_55 (by decide) ?_
            refine g_iadd hx hb hx2 (show (1 : Int32).toInt = 1 by decide) h dX4_mayBeginMove_56 (fun z4_z bz4_z h => ?_)
            refine lv_aload_n hx hb dX4_mayBeginMove_57 rfl (lv_at hl 0 rfl) ?_
            refine g_get fl_X4_23_X4 C hM (i := 177) (r := 177) (by omega) (e_177 b kc T S) rfl hS dX4_mayBeginMove_58 (fun z5_z bz5_z => ?_)
            refine g_icmp_ge (tgt := 68) hx hb bz4_z bz5_z h dX4_mayBeginMove_61 (by decide) (fun h => ?_) (fun h => ?_)
            · refine lv_iconst (v := 0) hx hb dX4_mayBeginMove_68 (by decide) ?_
              exact ret S _ _ _ _ 0 ((show (0 : Int32).toInt = 0 by decide).trans (Option.some.inj h)) (by rw [← (Option.some.inj h)]; exact (by decide)) rfl hM hS dX4_mayBeginMove_69
            · refine lv_iconst (v := 1) hx hb dX4_mayBeginMove_64 (by decide) ?_
              refine lv_goto (tgt := 69) hx hb dX4_mayBeginMove_65 (by decide) ?_
              exact ret S _ _ _ _ 1 ((show (1 : Int32).toInt = 1 by decide).trans (Option.some.inj h)) (by rw [← (Option.some.inj h)]; exact (by decide)) rfl hM hS dX4_mayBeginMove_69
  · refine lv_iload_n hx hb dX4_mayBeginMove_5 rfl (lv_at hl 1 rfl) ?_
    refine lv_aload_n hx hb dX4_mayBeginMove_6 rfl (lv_at hl 0 rfl) ?_
    refine g_get fl_X4_23_X4 C hM (i := 177) (r := 177) (by omega) (e_177 b kc T S) rfl hS dX4_mayBeginMove_7 (fun z6_z bz6_z => ?_)
    refine g_icmp_ge (tgt := 29) hx hb hx1 bz6_z h dX4_mayBeginMove_10 (by decide) (fun h => ?_) (fun h => ?_)
    · refine lv_iconst (v := 0) hx hb dX4_mayBeginMove_29 (by decide) ?_
      exact ret S _ _ _ _ 0 ((show (0 : Int32).toInt = 0 by decide).trans (Option.some.inj h)) (by rw [← (Option.some.inj h)]; exact (by decide)) rfl hM hS dX4_mayBeginMove_30
    · refine lv_iload_n hx hb dX4_mayBeginMove_13 rfl (lv_at hl 1 rfl) ?_
      refine g_if_gt (tgt := 25) hx hb hx1 h dX4_mayBeginMove_14 (by decide) (fun h => ?_) (fun h => ?_)
      · refine lv_iconst (v := 1) hx hb dX4_mayBeginMove_25 (by decide) ?_
        refine lv_goto (tgt := 30) hx hb dX4_mayBeginMove_26 (by decide) ?_
        exact ret S _ _ _ _ 1 ((show (1 : Int32).toInt = 1 by decide).trans (Option.some.inj h)) (by rw [← (Option.some.inj h)]; exact (by decide)) rfl hM hS dX4_mayBeginMove_30
      · refine lv_aload_n hx hb dX4_mayBeginMove_17 rfl (lv_at hl 0 rfl) ?_
        refine g_get fl_X4_23_X4 C hM (i := 177) (r := 177) (by omega) (e_177 b kc T S) rfl hS dX4_mayBeginMove_18 (fun z7_z bz7_z => ?_)
        refine lv_iconst (v := 1) hx hb dX4_mayBeginMove_21 (by decide) ?_
        refine g_icmp_le (tgt := 29) hx hb bz7_z (show (1 : Int32).toInt = 1 by decide) h dX4_mayBeginMove_22 (by decide) (fun h => ?_) (fun h => ?_)
        · refine lv_iconst (v := 0) hx hb dX4_mayBeginMove_29 (by decide) ?_
          exact ret S _ _ _ _ 0 ((show (0 : Int32).toInt = 0 by decide).trans (Option.some.inj h)) (by rw [← (Option.some.inj h)]; exact (by decide)) rfl hM hS dX4_mayBeginMove_30
        · refine lv_iconst (v := 1) hx hb dX4_mayBeginMove_25 (by decide) ?_
          refine lv_goto (tgt := 30) hx hb dX4_mayBeginMove_26 (by decide) ?_
          exact ret S _ _ _ _ 1 ((show (1 : Int32).toInt = 1 by decide).trans (Option.some.inj h)) (by rw [← (Option.some.inj h)]; exact (by decide)) rfl hM hS dX4_mayBeginMove_30

def f_MarkReader_mayBegin (S : SS) (j1 : Nat) (v2 : Int) : Option Int := w_b1 (f_Mark_number S j1 0) (fun r1_z => w_b1 (f_Mark_number S j1 1) (fun r3_z => w_b1 (f_Mark_number S j1 2) (fun r5_z => (if gi S (14 + 4 * j1) 2 = 0 then (if v2 = 0 then (if gi S 177 3 ≤ r1_z then some 0 else some 1) else (if r3_z < r1_z then some 0 else (if gi S 177 3 ≤ r3_z then some 0 else some 1))) else (if gi S (14 + 4 * j1) 2 = 1 then (if gi S 177 3 < r1_z then some 0 else some 1) else (if gi S (14 + 4 * j1) 2 = 2 then (if v2 = 0 then (if gi S 177 3 ≤ r1_z then some 0 else some 1) else (if r3_z < r1_z then some 0 else (if gi S 177 3 ≤ r3_z then some 0 else some 1))) else (if gi S (14 + 4 * j1) 2 = 3 then (if v2 = 0 then w_chk (i32 (r1_z + 1)) ((if gi S 177 3 ≤ r1_z + 1 then some 0 else some 1)) else (if v2 = 1 then (if r3_z ≤ r1_z then some 0 else (if gi S 177 3 ≤ r3_z then some 0 else some 1)) else (if r5_z < r3_z then some 0 else (if gi S 177 3 ≤ r5_z then some 0 else some 1)))) else (if gi S (14 + 4 * j1) 2 = 4 then w_b1 (f_MarkReader_mayBeginMove S r1_z r3_z r5_z v2) (fun r22_z => w_chk (r22_z = 0 ∨ r22_z = 1) (some r22_z)) else w_chk (gq S 177 1 = some 10) (w_b1 (f_Pile_canBeStet S r1_z) (fun r25_z => w_chk (r25_z = 0 ∨ r25_z = 1) (some r25_z)))))))))))
set_option maxHeartbeats 4000000 in
set_option maxRecDepth 100000 in
theorem g_MarkReader_mayBegin (l : Launch) (D : va_G) (kc : Nat → ClassId) (b : Nat) (T S : SS) (j1 : Nat) (hj1 : j1 < 40) (x2 : Int32) (v2 : Int) (hx2 : x2.toInt = v2) (hS : rng S) {vr : Int} (h : f_MarkReader_mayBegin S j1 v2 = some vr) : cI l yX4_mayBegin cX4_mayBegin 6 .boolean 3 D kc b (jX b kc T) S [.ref (b + 177), .ref (b + (14 + 4 * j1)), .int x2] vr S := by
  refine g_beg_z (by decide) (Nat.le_of_ble_eq_true rfl) ?_
  intro p e s m args below meth c Q C ret hM ls hl
  obtain ⟨hx, hb, hml, hown, hts, hE, hbs⟩ := id C
  have hl : lv_has ls 6 [(0, .ref (b + 177)), (1, .ref (b + (14 + 4 * j1))), (2, .int x2)] := hl
  unfold f_MarkReader_mayBegin at h
  refine lv_aload_n hx hb dX4_mayBegin_0 rfl (lv_at hl 1 rfl) ?_
  refine lv_iconst (v := 0) hx hb dX4_mayBegin_1 (by decide) ?_
  obtain ⟨r1_z, cr1_z, h⟩ := w_b1E h
  refine g_callI (J := jX b kc T) (m_runV calV_X3_number wd_803 (g_Mark_number l D kc b T S j1 hj1 0 0 (show (0 : Int32).toInt = 0 by decide) hS cr1_z) C hM (i := 14 + 4 * j1) (by omega) (e_mk b kc T S hj1) rfl hl.1 rfl rfl (Nat.le_of_ble_eq_true rfl) dX4_mayBegin_2 ⟨Nat.le_of_ble_eq_true rfl, Nat.le_of_ble_eq_true rfl⟩ ⟨Nat.le_of_ble_eq_true rfl, Nat.le_of_ble_eq_true rfl⟩) hM (fun z2_z H locs bz2_z hM hS => ?_)
  refine lv_istore_n (lv' := [(3, .int z2_z), (0, .ref (b + 177)), (1, .ref (b + (14 + 4 * j1))), (2, .int x2)]) hx hb dX4_mayBegin_5 rfl hl (by decide) rfl (fun ls hl => ?_)
  refine lv_aload_n hx hb dX4_mayBegin_6 rfl (lv_at hl 2 rfl) ?_
  refine lv_iconst (v := 1) hx hb dX4_mayBegin_7 (by decide) ?_
  obtain ⟨r3_z, cr3_z, h⟩ := w_b1E h
  refine g_callI (J := jX b kc T) (m_runV calV_X3_number wd_803 (g_Mark_number l D kc b T S j1 hj1 1 1 (show (1 : Int32).toInt = 1 by decide) hS cr3_z) C hM (i := 14 + 4 * j1) (by omega) (e_mk b kc T S hj1) rfl hl.1 rfl rfl (Nat.le_of_ble_eq_true rfl) dX4_mayBegin_8 ⟨Nat.le_of_ble_eq_true rfl, Nat.le_of_ble_eq_true rfl⟩ ⟨Nat.le_of_ble_eq_true rfl, Nat.le_of_ble_eq_true rfl⟩) hM (fun z4_z H locs bz4_z hM hS => ?_)
  refine lv_istore (lv' := [(4, .int z4_z), (3, .int z2_z), (0, .ref (b + 177)), (1, .ref (b + (14 + 4 * j1))), (2, .int x2)]) hx hb dX4_mayBegin_11 hl (by decide) rfl (fun ls hl => ?_)
  refine lv_aload_n hx hb dX4_mayBegin_13 rfl (lv_at hl 3 rfl) ?_
  refine lv_iconst (v := 2) hx hb dX4_mayBegin_14 (by decide) ?_
  obtain ⟨r5_z, cr5_z, h⟩ := w_b1E h
  refine g_callI (J := jX b kc T) (m_runV calV_X3_number wd_803 (g_Mark_number l D kc b T S j1 hj1 2 2 (show (2 : Int32).toInt = 2 by decide) hS cr5_z) C hM (i := 14 + 4 * j1) (by omega) (e_mk b kc T S hj1) rfl hl.1 rfl rfl (Nat.le_of_ble_eq_true rfl) dX4_mayBegin_15 ⟨Nat.le_of_ble_eq_true rfl, Nat.le_of_ble_eq_true rfl⟩ ⟨Nat.le_of_ble_eq_true rfl, Nat.le_of_ble_eq_true rfl⟩) hM (fun z6_z H locs bz6_z hM hS => ?_)
  refine lv_istore (lv' := [(5, .int z6_z), (4, .int z4_z), (3, .int z2_z), (0, .ref (b + 177)), (1, .ref (b + (14 + 4 * j1))), (2, .int x2)]) hx hb dX4_mayBegin_18 hl (by decide) rfl (fun ls hl => ?_)
  refine lv_aload_n hx hb dX4_mayBegin_20 rfl (lv_at hl 4 rfl) ?_
  refine g_getN fl_X4_85_X3 C hM (i := 14 + 4 * j1) (r := 14 + 4 * j1) (by omega) (e_mk b kc T S hj1) rfl hS dX4_mayBegin_21 (fun z7_z bz7_z => ?_)
  by_cases c8_z : gi S (14 + 4 * j1) 2 = 0
  · replace h := w_it c8_z h
    refine lv_tableIn (tgt := 60) hx hb dX4_mayBegin_24 (by rw [bz7_z, c8_z]; decide) (by rw [bz7_z, c8_z]; decide) (by rw [bz7_z, c8_z]; rfl) (by decide) ?_
    refine lv_iload_n hx hb dX4_mayBegin_60 rfl (lv_at hl 5 rfl) ?_
    refine g_if_ne (tgt := 80) hx hb hx2 h dX4_mayBegin_61 (by decide) (fun h => ?_) (fun h => ?_)
    · refine lv_iload_n hx hb dX4_mayBegin_80 rfl (lv_at hl 2 rfl) ?_
      refine lv_iload hx hb dX4_mayBegin_81 (lv_at hl 1 rfl) ?_
      refine g_icmp_gt (tgt := 99) hx hb bz2_z bz4_z h dX4_mayBegin_83 (by decide) (fun h => ?_) (fun h => ?_)
      · refine lv_iconst (v := 0) hx hb dX4_mayBegin_99 (by decide) ?_
        exact ret S _ _ _ _ 0 ((show (0 : Int32).toInt = 0 by decide).trans (Option.some.inj h)) (by rw [← (Option.some.inj h)]; exact (by decide)) rfl hM hS dX4_mayBegin_100
      · refine lv_iload hx hb dX4_mayBegin_86 (lv_at hl 1 rfl) ?_
        refine lv_aload_n hx hb dX4_mayBegin_88 rfl (lv_at hl 3 rfl) ?_
        refine g_get fl_X4_23_X4 C hM (i := 177) (r := 177) (by omega) (e_177 b kc T S) rfl hS dX4_mayBegin_89 (fun z9_z bz9_z => ?_)
        refine g_icmp_ge (tgt := 99) hx hb bz4_z bz9_z h dX4_mayBegin_92 (by decide) (fun h => ?_) (fun h => ?_)
        · refine lv_iconst (v := 0) hx hb dX4_mayBegin_99 (by decide) ?_
          exact ret S _ _ _ _ 0 ((show (0 : Int32).toInt = 0 by decide).trans (Option.some.inj h)) (by rw [← (Option.some.inj h)]; exact (by decide)) rfl hM hS dX4_mayBegin_100
        · refine lv_iconst (v := 1) hx hb dX4_mayBegin_95 (by decide) ?_
          refine lv_goto (tgt := 100) hx hb dX4_mayBegin_96 (by decide) ?_
          exact ret S _ _ _ _ 1 ((show (1 : Int32).toInt = 1 by decide).trans (Option.some.inj h)) (by rw [← (Option.some.inj h)]; exact (by decide)) rfl hM hS dX4_mayBegin_100
    · refine lv_iload_n hx hb dX4_mayBegin_64 rfl (lv_at hl 2 rfl) ?_
      refine lv_aload_n hx hb dX4_mayBegin_65 rfl (lv_at hl 3 rfl) ?_
      refine g_get fl_X4_23_X4 C hM (i := 177) (r := 177) (by omega) (e_177 b kc T S) rfl hS dX4_mayBegin_66 (fun z10_z bz10_z => ?_)
      refine g_icmp_ge (tgt := 76) hx hb bz2_z bz10_z h dX4_mayBegin_69 (by decide) (fun h => ?_) (fun h => ?_)
      · refine lv_iconst (v := 0) hx hb dX4_mayBegin_76 (by decide) ?_
        refine lv_goto (tgt := 100) hx hb dX4_mayBegin_77 (by decide) ?_
        exact ret S _ _ _ _ 0 ((show (0 : Int32).toInt = 0 by decide).trans (Option.some.inj h)) (by rw [← (Option.some.inj h)]; exact (by decide)) rfl hM hS dX4_mayBegin_100
      · refine lv_iconst (v := 1) hx hb dX4_mayBegin_72 (by decide) ?_
        refine lv_goto (tgt := 100) hx hb dX4_mayBegin_73 (by decide) ?_
        exact ret S _ _ _ _ 1 ((show (1 : Int32).toInt = 1 by decide).trans (Option.some.inj h)) (by rw [← (Option.some.inj h)]; exact (by decide)) rfl hM hS dX4_mayBegin_100
  replace h := w_if c8_z h
  by_cases c11_z : gi S (14 + 4 * j1) 2 = 1
  · replace h := w_it c11_z h
    refine lv_tableIn (tgt := 101) hx hb dX4_mayBegin_24 (by rw [bz7_z, c11_z]; decide) (by rw [bz7_z, c11_z]; decide) (by rw [bz7_z, c11_z]; rfl) (by decide) ?_
    refine lv_iload_n hx hb dX4_mayBegin_101 rfl (lv_at hl 2 rfl) ?_
    refine lv_aload_n hx hb dX4_mayBegin_102 rfl (lv_at hl 3 rfl) ?_
    refine g_get fl_X4_23_X4 C hM (i := 177) (r := 177) (by omega) (e_177 b kc T S) rfl hS dX4_mayBegin_103 (fun z12_z bz12_z => ?_)
    refine g_icmp_gt (tgt := 113) hx hb bz2_z bz12_z h dX4_mayBegin_106 (by decide) (fun h => ?_) (fun h => ?_)
    · refine lv_iconst (v := 0) hx hb dX4_mayBegin_113 (by decide) ?_
      exact ret S _ _ _ _ 0 ((show (0 : Int32).toInt = 0 by decide).trans (Option.some.inj h)) (by rw [← (Option.some.inj h)]; exact (by decide)) rfl hM hS dX4_mayBegin_114
    · refine lv_iconst (v := 1) hx hb dX4_mayBegin_109 (by decide) ?_
      refine lv_goto (tgt := 114) hx hb dX4_mayBegin_110 (by decide) ?_
      exact ret S _ _ _ _ 1 ((show (1 : Int32).toInt = 1 by decide).trans (Option.some.inj h)) (by rw [← (Option.some.inj h)]; exact (by decide)) rfl hM hS dX4_mayBegin_114
  replace h := w_if c11_z h
  by_cases c13_z : gi S (14 + 4 * j1) 2 = 2
  · replace h := w_it c13_z h
    refine lv_tableIn (tgt := 60) hx hb dX4_mayBegin_24 (by rw [bz7_z, c13_z]; decide) (by rw [bz7_z, c13_z]; decide) (by rw [bz7_z, c13_z]; rfl) (by decide) ?_
    refine lv_iload_n hx hb dX4_mayBegin_60 rfl (lv_at hl 5 rfl) ?_
    refine g_if_ne (tgt := 80) hx hb hx2 h dX4_mayBegin_61 (by decide) (fun h => ?_) (fun h => ?_)
    · refine lv_iload_n hx hb dX4_mayBegin_80 rfl (lv_at hl 2 rfl) ?_
      refine lv_iload hx hb dX4_mayBegin_81 (lv_at hl 1 rfl) ?_
      refine g_icmp_gt (tgt := 99) hx hb bz2_z bz4_z h dX4_mayBegin_83 (by decide) (fun h => ?_) (fun h => ?_)
      · refine lv_iconst (v := 0) hx hb dX4_mayBegin_99 (by decide) ?_
        exact ret S _ _ _ _ 0 ((show (0 : Int32).toInt = 0 by decide).trans (Option.some.inj h)) (by rw [← (Option.some.inj h)]; exact (by decide)) rfl hM hS dX4_mayBegin_100
      · refine lv_iload hx hb dX4_mayBegin_86 (lv_at hl 1 rfl) ?_
        refine lv_aload_n hx hb dX4_mayBegin_88 rfl (lv_at hl 3 rfl) ?_
        refine g_get fl_X4_23_X4 C hM (i := 177) (r := 177) (by omega) (e_177 b kc T S) rfl hS dX4_mayBegin_89 (fun z14_z bz14_z => ?_)
        refine g_icmp_ge (tgt := 99) hx hb bz4_z bz14_z h dX4_mayBegin_92 (by decide) (fun h => ?_) (fun h => ?_)
        · refine lv_iconst (v := 0) hx hb dX4_mayBegin_99 (by decide) ?_
          exact ret S _ _ _ _ 0 ((show (0 : Int32).toInt = 0 by decide).trans (Option.some.inj h)) (by rw [← (Option.some.inj h)]; exact (by decide)) rfl hM hS dX4_mayBegin_100
        · refine lv_iconst (v := 1) hx hb dX4_mayBegin_95 (by decide) ?_
          refine lv_goto (tgt := 100) hx hb dX4_mayBegin_96 (by decide) ?_
          exact ret S _ _ _ _ 1 ((show (1 : Int32).toInt = 1 by decide).trans (Option.some.inj h)) (by rw [← (Option.some.inj h)]; exact (by decide)) rfl hM hS dX4_mayBegin_100
    · refine lv_iload_n hx hb dX4_mayBegin_64 rfl (lv_at hl 2 rfl) ?_
      refine lv_aload_n hx hb dX4_mayBegin_65 rfl (lv_at hl 3 rfl) ?_
      refine g_get fl_X4_23_X4 C hM (i := 177) (r := 177) (by omega) (e_177 b kc T S) rfl hS dX4_mayBegin_66 (fun z15_z bz15_z => ?_)
      refine g_icmp_ge (tgt := 76) hx hb bz2_z bz15_z h dX4_mayBegin_69 (by decide) (fun h => ?_) (fun h => ?_)
      · refine lv_iconst (v := 0) hx hb dX4_mayBegin_76 (by decide) ?_
        refine lv_goto (tgt := 100) hx hb dX4_mayBegin_77 (by decide) ?_
        exact ret S _ _ _ _ 0 ((show (0 : Int32).toInt = 0 by decide).trans (Option.some.inj h)) (by rw [← (Option.some.inj h)]; exact (by decide)) rfl hM hS dX4_mayBegin_100
      · refine lv_iconst (v := 1) hx hb dX4_mayBegin_72 (by decide) ?_
        refine lv_goto (tgt := 100) hx hb dX4_mayBegin_73 (by decide) ?_
        exact ret S _ _ _ _ 1 ((show (1 : Int32).toInt = 1 by decide).trans (Option.some.inj h)) (by rw [← (Option.some.inj h)]; exact (by decide)) rfl hM hS dX4_mayBegin_100
  replace h := w_if c13_z h
  by_cases c16_z : gi S (14 + 4 * j1) 2 = 3
  · replace h := w_it c16_z h
    refine lv_tableIn (tgt := 115) hx hb dX4_mayBegin_24 (by rw [bz7_z, c16_z]; decide) (by rw [bz7_z, c16_z]; decide) (by rw [bz7_z, c16_z]; rfl) (by decide) ?_
    refine lv_iload_n hx hb dX4_mayBegin_115 rfl (lv_at hl 5 rfl) ?_
    refine g_if_ne (tgt := 135) hx hb hx2 h dX4_mayBegin_116 (by decide) (fun h => ?_) (fun h => ?_)
    · refine lv_iload_n hx hb dX4_mayBegin_135 rfl (lv_at hl 5 rfl) ?_
      refine lv_iconst (v := 1) hx hb dX4_mayBegin_136 (by decide) ?_
      refine g_icmp_ne (tgt := 163) hx hb hx2 (show (1 : Int32).toInt = 1 by decide) h dX4_mayBegin_137 (by decide) (fun h => ?_) (fun h => ?_)
      · refine lv_iload hx hb dX4_mayBegin_163 (lv_at hl 1 rfl) ?_
        refine lv_iload hx hb dX4_mayBegin_165 (lv_at hl 0 rfl) ?_
        refine g_icmp_gt (tgt := 183) hx hb bz4_z bz6_z h dX4_mayBegin_167 (by decide) (fun h => ?_) (fun h => ?_)
        · refine lv_iconst (v := 0) hx hb dX4_mayBegin_183 (by decide) ?_
          exact ret S _ _ _ _ 0 ((show (0 : Int32).toInt = 0 by decide).trans (Option.some.inj h)) (by rw [← (Option.some.inj h)]; exact (by decide)) rfl hM hS dX4_mayBegin_184
        · refine lv_iload hx hb dX4_mayBegin_170 (lv_at hl 0 rfl) ?_
          refine lv_aload_n hx hb dX4_mayBegin_172 rfl (lv_at hl 3 rfl) ?_
          refine g_get fl_X4_23_X4 C hM (i := 177) (r := 177) (by omega) (e_177 b kc T S) rfl hS dX4_mayBegin_173 (fun z17_z bz17_z => ?_)
          refine g_icmp_ge (tgt := 183) hx hb bz6_z bz17_z h dX4_mayBegin_176 (by decide) (fun h => ?_) (fun h => ?_)
          · refine lv_iconst (v := 0) hx hb dX4_mayBegin_183 (by decide) ?_
            exact ret S _ _ _ _ 0 ((show (0 : Int32).toInt = 0 by decide).trans (Option.some.inj h)) (by rw [← (Option.some.inj h)]; exact (by decide)) rfl hM hS dX4_mayBegin_184
          · refine lv_iconst (v := 1) hx hb dX4_mayBegin_179 (by decide) ?_
            refine lv_goto (tgt := 184) hx hb dX4_mayBegin_180 (by decide) ?_
            exact ret S _ _ _ _ 1 ((show (1 : Int32).toInt = 1 by decide).trans (Option.some.inj h)) (by rw [← (Option.some.inj h)]; exact (by decide)) rfl hM hS dX4_mayBegin_184
      · refine lv_iload_n hx hb dX4_mayBegin_140 rfl (lv_at hl 2 rfl) ?_
        refine lv_iload hx hb dX4_mayBegin_141 (lv_at hl 1 rfl) ?_
        refine g_icmp_ge (tgt := 159) hx hb bz2_z bz4_z h dX4_mayBegin_143 (by decide) (fun h => ?_) (fun h => ?_)
        · refine lv_iconst (v := 0) hx hb dX4_mayBegin_159 (by decide) ?_
          refine lv_goto (tgt := 184) hx hb dX4_mayBegin_160 (by decide) ?_
          exact ret S _ _ _ _ 0 ((show (0 : Int32).toInt = 0 by decide).trans (Option.some.inj h)) (by rw [← (Option.some.inj h)]; exact (by decide)) rfl hM hS dX4_mayBegin_184
        · refine lv_iload hx hb dX4_mayBegin_146 (lv_at hl 1 rfl) ?_
          refine lv_aload_n hx hb dX4_mayBegin_148 rfl (lv_at hl 3 rfl) ?_
          refine g_get fl_X4_23_X4 C hM (i := 177) (r := 177) (by omega) (e_177 b kc T S) rfl hS dX4_mayBegin_149 (fun z18_z bz18_z => ?_)
          refine g_icmp_ge (tgt := 159) hx hb bz4_z bz18_z h dX4_mayBegin_152 (by decide) (fun h => ?_) (fun h => ?_)
          · refine lv_iconst (v := 0) hx hb dX4_mayBegin_159 (by decide) ?_
            refine lv_goto (tgt := 184) hx hb dX4_mayBegin_160 (by decide) ?_
            exact ret S _ _ _ _ 0 ((show (0 : Int32).toInt = 0 by decide).trans (Option.some.inj h)) (by rw [← (Option.some.inj h)]; exact (by decide)) rfl hM hS dX4_mayBegin_184
          · refine lv_iconst (v := 1) hx hb dX4_mayBegin_155 (by decide) ?_
            refine lv_goto (tgt := 184) hx hb dX4_mayBegin_156 (by decide) ?_
            exact ret S _ _ _ _ 1 ((show (1 : Int32).toInt = 1 by decide).trans (Option.some.inj h)) (by rw [← (Option.some.inj h)]; exact (by decide)) rfl hM hS dX4_mayBegin_184
    · refine lv_iload_n hx hb dX4_mayBegin_119 rfl (lv_at hl 2 rfl) ?_
      refine lv_iconst (v := 1) hx hb dX4_mayBegin_120 (by decide) ?_
      refine g_iadd hx hb bz2_z (show (1 : Int32).toInt = 1 by decide) h dX4_mayBegin_121 (fun z19_z bz19_z h => ?_)
      refine lv_aload_n hx hb dX4_mayBegin_122 rfl (lv_at hl 3 rfl) ?_
      refine g_get fl_X4_23_X4 C hM (i := 177) (r := 177) (by omega) (e_177 b kc T S) rfl hS dX4_mayBegin_123 (fun z20_z bz20_z => ?_)
      refine g_icmp_ge (tgt := 133) hx hb bz19_z bz20_z h dX4_mayBegin_126 (by decide) (fun h => ?_) (fun h => ?_)
      · refine lv_iconst (v := 0) hx hb dX4_mayBegin_133 (by decide) ?_
        exact ret S _ _ _ _ 0 ((show (0 : Int32).toInt = 0 by decide).trans (Option.some.inj h)) (by rw [← (Option.some.inj h)]; exact (by decide)) rfl hM hS dX4_mayBegin_134
      · refine lv_iconst (v := 1) hx hb dX4_mayBegin_129 (by decide) ?_
        refine lv_goto (tgt := 134) hx hb dX4_mayBegin_130 (by decide) ?_
        exact ret S _ _ _ _ 1 ((show (1 : Int32).toInt = 1 by decide).trans (Option.some.inj h)) (by rw [← (Option.some.inj h)]; exact (by decide)) rfl hM hS dX4_mayBegin_134
  replace h := w_if c16_z h
  by_cases c21_z : gi S (14 + 4 * j1) 2 = 4
  · replace h := w_it c21_z h
    refine lv_tableIn (tgt := 185) hx hb dX4_mayBegin_24 (by rw [bz7_z, c21_z]; decide) (by rw [bz7_z, c21_z]; decide) (by rw [bz7_z, c21_z]; rfl) (by decide) ?_
    refine lv_aload_n hx hb dX4_mayBegin_185 rfl (lv_at hl 3 rfl) ?_
    refine lv_iload_n hx hb dX4_mayBegin_186 rfl (lv_at hl 2 rfl) ?_
    refine lv_iload hx hb dX4_mayBegin_187 (lv_at hl 1 rfl) ?_
    refine lv_iload hx hb dX4_mayBegin_189 (lv_at hl 0 rfl) ?_
    refine lv_iload_n hx hb dX4_mayBegin_191 rfl (lv_at hl 5 rfl) ?_
    obtain ⟨r22_z, cr22_z, h⟩ := w_b1E h
    refine g_callI (J := jX b kc T) (m_runV calV_X4_mayBeginMove wd_804 (g_MarkReader_mayBeginMove l D kc b T S z2_z r1_z bz2_z z4_z r3_z bz4_z z6_z r5_z bz6_z x2 v2 hx2 hS cr22_z) C hM (i := 177) (by omega) (e_177 b kc T S) rfl hl.1 rfl rfl (Nat.le_of_ble_eq_true rfl) dX4_mayBegin_192 ⟨Nat.le_of_ble_eq_true rfl, Nat.le_of_ble_eq_true rfl⟩ ⟨Nat.le_of_ble_eq_true rfl, Nat.le_of_ble_eq_true rfl⟩) hM (fun z23_z H locs bz23_z hM hS => ?_)
    obtain ⟨c24_z, h⟩ := w_chkE h
    exact ret S _ _ _ _ z23_z (bz23_z.trans (Option.some.inj h)) (by rw [← (Option.some.inj h)]; exact c24_z) rfl hM hS dX4_mayBegin_195
  replace h := w_if c21_z h
  refine lv_tableOut (tgt := 196) hx hb dX4_mayBegin_24 (by rw [bz7_z]; omega) (by decide) ?_
  refine lv_aload_n hx hb dX4_mayBegin_196 rfl (lv_at hl 3 rfl) ?_
  refine g_getqf fl_X4_15_X4 C hM (i := 177) (r := 177) (by omega) (e_177 b kc T S) rfl h dX4_mayBegin_197 (fun h => ?_)
  refine lv_iload_n hx hb dX4_mayBegin_200 rfl (lv_at hl 2 rfl) ?_
  obtain ⟨r25_z, cr25_z, h⟩ := w_b1E h
  refine g_callI (J := jX b kc T) (m_runV calV_X5_canBeStet wd_808 (g_Pile_canBeStet l D kc b T S z2_z r1_z bz2_z hS cr25_z) C hM (i := 10) (by omega) (e_10 b kc T S) rfl hl.1 rfl rfl (Nat.le_of_ble_eq_true rfl) dX4_mayBegin_201 ⟨Nat.le_of_ble_eq_true rfl, Nat.le_of_ble_eq_true rfl⟩ ⟨Nat.le_of_ble_eq_true rfl, Nat.le_of_ble_eq_true rfl⟩) hM (fun z26_z H locs bz26_z hM hS => ?_)
  obtain ⟨c27_z, h⟩ := w_chkE h
  exact ret S _ _ _ _ z26_z (bz26_z.trans (Option.some.inj h)) (by rw [← (Option.some.inj h)]; exact c27_z) rfl hM hS dX4_mayBegin_204

def f_MP_sheetOf (S : SS) (v1 : Int) : Option Nat := (if v1 = 0 then some 4 else (if v1 = 1 then some 6 else (if v1 = 2 then some 8 else none)))
set_option maxHeartbeats 4000000 in
set_option maxRecDepth 100000 in
theorem g_MP_sheetOf (l : Launch) (D : va_G) (kc : Nat → ClassId) (b : Nat) (T S : SS) (x1 : Int32) (v1 : Int) (hx1 : x1.toInt = v1) (hS : rng S) {vr : Option Nat} (h : f_MP_sheetOf S v1 = vr) : cQ l yX11_sheetOf cX11_sheetOf 2 (.object "MarkedProof$Sheet") 1 D kc b (jX b kc T) S [.ref (b + 0), .int x1] (os b vr) S := by
  refine g_beg_q (by decide) (Nat.le_of_ble_eq_true rfl) ?_
  intro p e s m args below meth c Q C ret hM ls hl
  obtain ⟨hx, hb, hml, hown, hts, hE, hbs⟩ := id C
  have hl : lv_has ls 2 [(0, .ref (b + 0)), (1, .int x1)] := hl
  unfold f_MP_sheetOf at h
  refine lv_iload_n hx hb dX11_sheetOf_0 rfl (lv_at hl 1 rfl) ?_
  by_cases c1_z : v1 = 0
  · replace h := w_it c1_z h
    refine lv_tableIn (tgt := 28) hx hb dX11_sheetOf_1 (by rw [hx1, c1_z]; decide) (by rw [hx1, c1_z]; decide) (by rw [hx1, c1_z]; rfl) (by decide) ?_
    refine lv_aload_n hx hb dX11_sheetOf_28 rfl (lv_at hl 0 rfl) ?_
    refine m_get fl_X11_28_X11 C hM (i := 0) (by omega) (e_0 b kc T S) (v := .ref (b + 4)) rfl dX11_sheetOf_29 ?_
    exact ret S _ _ _ _ (os b (some 4)) (by rw [h]) rfl hM hS dX11_sheetOf_32
  replace h := w_if c1_z h
  by_cases c2_z : v1 = 1
  · replace h := w_it c2_z h
    refine lv_tableIn (tgt := 33) hx hb dX11_sheetOf_1 (by rw [hx1, c2_z]; decide) (by rw [hx1, c2_z]; decide) (by rw [hx1, c2_z]; rfl) (by decide) ?_
    refine lv_aload_n hx hb dX11_sheetOf_33 rfl (lv_at hl 0 rfl) ?_
    refine m_get fl_X11_32_X11 C hM (i := 0) (by omega) (e_0 b kc T S) (v := .ref (b + 6)) rfl dX11_sheetOf_34 ?_
    exact ret S _ _ _ _ (os b (some 6)) (by rw [h]) rfl hM hS dX11_sheetOf_37
  replace h := w_if c2_z h
  by_cases c3_z : v1 = 2
  · replace h := w_it c3_z h
    refine lv_tableIn (tgt := 38) hx hb dX11_sheetOf_1 (by rw [hx1, c3_z]; decide) (by rw [hx1, c3_z]; decide) (by rw [hx1, c3_z]; rfl) (by decide) ?_
    refine lv_aload_n hx hb dX11_sheetOf_38 rfl (lv_at hl 0 rfl) ?_
    refine m_get fl_X11_35_X11 C hM (i := 0) (by omega) (e_0 b kc T S) (v := .ref (b + 8)) rfl dX11_sheetOf_39 ?_
    exact ret S _ _ _ _ (os b (some 8)) (by rw [h]) rfl hM hS dX11_sheetOf_42
  replace h := w_if c3_z h
  refine lv_tableOut (tgt := 43) hx hb dX11_sheetOf_1 (by rw [hx1]; omega) (by decide) ?_
  refine lv_null hx hb dX11_sheetOf_43 ?_
  exact ret S _ _ _ _ (os b none) (by rw [h]) rfl hM hS dX11_sheetOf_44

def f_MP_sizeOf (S : SS) (v1 : Int) : Option Int := w_lt (f_MP_sheetOf S v1) (fun o1_z => w_on o1_z (some (-1)) (fun q3_z => w_chk (shOk q3_z) (some (gi S q3_z 1))))
set_option maxHeartbeats 4000000 in
set_option maxRecDepth 100000 in
theorem g_MP_sizeOf (l : Launch) (D : va_G) (kc : Nat → ClassId) (b : Nat) (T S : SS) (x1 : Int32) (v1 : Int) (hx1 : x1.toInt = v1) (hS : rng S) {vr : Int} (h : f_MP_sizeOf S v1 = some vr) : cI l yX11_sizeOf cX11_sizeOf 3 .int 2 D kc b (jX b kc T) S [.ref (b + 0), .int x1] vr S := by
  refine g_beg_i (by decide) (Nat.le_of_ble_eq_true rfl) ?_
  intro p e s m args below meth c Q C ret hM ls hl
  obtain ⟨hx, hb, hml, hown, hts, hE, hbs⟩ := id C
  have hl : lv_has ls 3 [(0, .ref (b + 0)), (1, .int x1)] := hl
  unfold f_MP_sizeOf at h
  refine lv_aload_n hx hb dX11_sizeOf_0 rfl (lv_at hl 0 rfl) ?_
  refine lv_iload_n hx hb dX11_sizeOf_1 rfl (lv_at hl 1 rfl) ?_
  obtain ⟨o1_z, co1_z, h⟩ := w_ltE h
  refine g_callQ (J := jX b kc T) (m_runV calV_X11_sheetOf wd_845 (g_MP_sheetOf l D kc b T S x1 v1 hx1 hS co1_z.symm) C hM (i := 0) (by omega) (e_0 b kc T S) rfl hl.1 rfl rfl (Nat.le_of_ble_eq_true rfl) dX11_sizeOf_2 ⟨Nat.le_of_ble_eq_true rfl, Nat.le_of_ble_eq_true rfl⟩ ⟨Nat.le_of_ble_eq_true rfl, Nat.le_of_ble_eq_true rfl⟩) hM (fun z2_z H locs bz2_z hM hS => ?_)
  subst bz2_z
  refine lv_astore_nq (lv' := [(2, va_rf (os b o1_z)), (0, .ref (b + 0)), (1, .int x1)]) hx hb dX11_sizeOf_5 rfl hl (by decide) rfl (fun ls hl => ?_)
  refine lv_aload_nq hx hb dX11_sizeOf_6 rfl (lv_at hl 0 rfl) ?_
  cases o1_z with
  | none =>
    replace h := w_onN h
    have hl : lv_has ls 3 [(2, .null), (0, .ref (b + 0)), (1, .int x1)] := hl
    refine lv_ifnonnullN hx hb dX11_sizeOf_7 ?_
    refine lv_iconst (v := (-1)) hx hb dX11_sizeOf_10 (by decide) ?_
    refine lv_goto (tgt := 18) hx hb dX11_sizeOf_11 (by decide) ?_
    exact ret S _ _ _ _ (-1) ((show ((-1) : Int32).toInt = (-1) by decide).trans (Option.some.inj h)) rfl hM hS dX11_sizeOf_18
  | some q3_z =>
    obtain ⟨hq3_z, h⟩ := w_chkE (w_onS h)
    have hl : lv_has ls 3 [(2, .ref (b + q3_z)), (0, .ref (b + 0)), (1, .int x1)] := hl
    refine lv_ifnonnull (tgt := 14) hx hb dX11_sizeOf_7 (by decide) ?_
    refine lv_aload_n hx hb dX11_sizeOf_14 rfl (lv_at hl 0 rfl) ?_
    refine g_getN fl_X11_111_X8 C hM (i := q3_z) (r := q3_z) (by omega) (e_sh b kc T S hq3_z) rfl hS dX11_sizeOf_15 (fun z4_z bz4_z => ?_)
    exact ret S _ _ _ _ z4_z (bz4_z.trans (Option.some.inj h)) rfl hM hS dX11_sizeOf_18

def f_MP_feed (S : SS) (v1 : Int) (v2 : Int) (v3 : Int) (v4 : Int) (v5 : Int) : Option (Int × SS) := w_chk (i32 ((gi S 1 1) + 20)) ((if (gi S 1 1) + 20 ≤ 2000 then w_b1 (f_Tape_addFour S v1) (fun S3_z => w_b1 (f_Tape_addFour S3_z v2) (fun S5_z => w_b1 (f_Tape_addFour S5_z v3) (fun S7_z => w_b1 (f_Tape_addFour S7_z v4) (fun S9_z => w_b1 (f_Tape_addFour S9_z v5) (fun S11_z => some (gi S11_z 1 1, S11_z)))))) else some ((-3), S)))
set_option maxHeartbeats 4000000 in
set_option maxRecDepth 100000 in
theorem g_MP_feed (l : Launch) (D : va_G) (kc : Nat → ClassId) (b : Nat) (T S : SS) (x1 : Int32) (v1 : Int) (hx1 : x1.toInt = v1) (x2 : Int32) (v2 : Int) (hx2 : x2.toInt = v2) (x3 : Int32) (v3 : Int) (hx3 : x3.toInt = v3) (x4 : Int32) (v4 : Int) (hx4 : x4.toInt = v4) (x5 : Int32) (v5 : Int) (hx5 : x5.toInt = v5) (hS : rng S) {vr : Int} {Sr : SS} (h : f_MP_feed S v1 v2 v3 v4 v5 = some (vr, Sr)) : cI l yX11_feed cX11_feed 6 .int 2 D kc b (jX b kc T) S [.ref (b + 0), .int x1, .int x2, .int x3, .int x4, .int x5] vr Sr := by
  refine g_beg_i (by decide) (Nat.le_of_ble_eq_true rfl) ?_
  intro p e s m args below meth c Q C ret hM ls hl
  obtain ⟨hx, hb, hml, hown, hts, hE, hbs⟩ := id C
  have hl : lv_has ls 6 [(0, .ref (b + 0)), (1, .int x1), (2, .int x2), (3, .int x3), (4, .int x4), (5, .int x5)] := hl
  unfold f_MP_feed at h
  refine lv_aload_n hx hb dX11_feed_0 rfl (lv_at hl 0 rfl) ?_
  refine m_get fl_X11_12_X11 C hM (i := 0) (by omega) (e_0 b kc T S) (v := .ref (b + 1)) rfl dX11_feed_1 ?_
  refine g_getN fl_X11_87_X10 C hM (i := 1) (r := 1) (by omega) (e_1 b kc T S) rfl hS dX11_feed_4 (fun z1_z bz1_z => ?_)
  refine lv_bipush (v := 20) hx hb dX11_feed_7 (by decide) ?_
  refine g_iadd hx hb bz1_z (show (20 : Int32).toInt = 20 by decide) h dX11_feed_9 (fun z2_z bz2_z h => ?_)
  refine lv_sipush (v := 2000) hx hb dX11_feed_10 (by decide) ?_
  refine g_icmp_le (tgt := 19) hx hb bz2_z (show (2000 : Int32).toInt = 2000 by decide) h dX11_feed_13 (by decide) (fun h => ?_) (fun h => ?_)
  · refine lv_aload_n hx hb dX11_feed_19 rfl (lv_at hl 0 rfl) ?_
    refine m_get fl_X11_12_X11 C hM (i := 0) (by omega) (e_0 b kc T S) (v := .ref (b + 1)) rfl dX11_feed_20 ?_
    refine lv_iload_n hx hb dX11_feed_23 rfl (lv_at hl 1 rfl) ?_
    obtain ⟨S3_z, cS3_z, h⟩ := w_b1E h
    refine g_callV (J := jX b kc T) (m_runV calV_X10_addFour wd_441 (g_Tape_addFour l D kc b T S x1 v1 hx1 hS cS3_z) C hM (i := 1) (by omega) (e_1 b kc T S) rfl hl.1 rfl rfl (Nat.le_of_ble_eq_true rfl) dX11_feed_24 ⟨Nat.le_of_ble_eq_true rfl, Nat.le_of_ble_eq_true rfl⟩ ⟨Nat.le_of_ble_eq_true rfl, Nat.le_of_ble_eq_true rfl⟩) hM (fun H locs hM hS => ?_)
    refine lv_aload_n hx hb dX11_feed_27 rfl (lv_at hl 0 rfl) ?_
    refine m_get fl_X11_12_X11 C hM (i := 0) (by omega) (e_0 b kc T S3_z) (v := .ref (b + 1)) rfl dX11_feed_28 ?_
    refine lv_iload_n hx hb dX11_feed_31 rfl (lv_at hl 2 rfl) ?_
    obtain ⟨S5_z, cS5_z, h⟩ := w_b1E h
    refine g_callV (J := jX b kc T) (m_runV calV_X10_addFour wd_441 (g_Tape_addFour l D kc b T S3_z x2 v2 hx2 hS cS5_z) C hM (i := 1) (by omega) (e_1 b kc T S3_z) rfl hl.1 rfl rfl (Nat.le_of_ble_eq_true rfl) dX11_feed_32 ⟨Nat.le_of_ble_eq_true rfl, Nat.le_of_ble_eq_true rfl⟩ ⟨Nat.le_of_ble_eq_true rfl, Nat.le_of_ble_eq_true rfl⟩) hM (fun H locs hM hS => ?_)
    refine lv_aload_n hx hb dX11_feed_35 rfl (lv_at hl 0 rfl) ?_
    refine m_get fl_X11_12_X11 C hM (i := 0) (by omega) (e_0 b kc T S5_z) (v := .ref (b + 1)) rfl dX11_feed_36 ?_
    refine lv_iload_n hx hb dX11_feed_39 rfl (lv_at hl 3 rfl) ?_
    obtain ⟨S7_z, cS7_z, h⟩ := w_b1E h
    refine g_callV (J := jX b kc T) (m_runV calV_X10_addFour wd_441 (g_Tape_addFour l D kc b T S5_z x3 v3 hx3 hS cS7_z) C hM (i := 1) (by omega) (e_1 b kc T S5_z) rfl hl.1 rfl rfl (Nat.le_of_ble_eq_true rfl) dX11_feed_40 ⟨Nat.le_of_ble_eq_true rfl, Nat.le_of_ble_eq_true rfl⟩ ⟨Nat.le_of_ble_eq_true rfl, Nat.le_of_ble_eq_true rfl⟩) hM (fun H locs hM hS => ?_)
    refine lv_aload_n hx hb dX11_feed_43 rfl (lv_at hl 0 rfl) ?_
    refine m_get fl_X11_12_X11 C hM (i := 0) (by omega) (e_0 b kc T S7_z) (v := .ref (b + 1)) rfl dX11_feed_44 ?_
    refine lv_iload hx hb dX11_feed_47 (lv_at hl 4 rfl) ?_
    obtain ⟨S9_z, cS9_z, h⟩ := w_b1E h
    refine g_callV (J := jX b kc T) (m_runV calV_X10_addFour wd_441 (g_Tape_addFour l D kc b T S7_z x4 v4 hx4 hS cS9_z) C hM (i := 1) (by omega) (e_1 b kc T S7_z) rfl hl.1 rfl rfl (Nat.le_of_ble_eq_true rfl) dX11_feed_49 ⟨Nat.le_of_ble_eq_true rfl, Nat.le_of_ble_eq_true rfl⟩ ⟨Nat.le_of_ble_eq_true rfl, Nat.le_of_ble_eq_true rfl⟩) hM (fun H locs hM hS => ?_)
    refine lv_aload_n hx hb dX11_feed_52 rfl (lv_at hl 0 rfl) ?_
    refine m_get fl_X11_12_X11 C hM (i := 0) (by omega) (e_0 b kc T S9_z) (v := .ref (b + 1)) rfl dX11_feed_53 ?_
    refine lv_iload hx hb dX11_feed_56 (lv_at hl 5 rfl) ?_
    obtain ⟨S11_z, cS11_z, h⟩ := w_b1E h
    refine g_callV (J := jX b kc T) (m_runV calV_X10_addFour wd_441 (g_Tape_addFour l D kc b T S9_z x5 v5 hx5 hS cS11_z) C hM (i := 1) (by omega) (e_1 b kc T S9_z) rfl hl.1 rfl rfl (Nat.le_of_ble_eq_true rfl) dX11_feed_58 ⟨Nat.le_of_ble_eq_true rfl, Nat.le_of_ble_eq_true rfl⟩ ⟨Nat.le_of_ble_eq_true rfl, Nat.le_of_ble_eq_true rfl⟩) hM (fun H locs hM hS => ?_)
    refine lv_aload_n hx hb dX11_feed_61 rfl (lv_at hl 0 rfl) ?_
    refine m_get fl_X11_12_X11 C hM (i := 0) (by omega) (e_0 b kc T S11_z) (v := .ref (b + 1)) rfl dX11_feed_62 ?_
    refine g_getN fl_X11_87_X10 C hM (i := 1) (r := 1) (by omega) (e_1 b kc T S11_z) rfl hS dX11_feed_65 (fun z13_z bz13_z => ?_)
    exact ret S11_z _ _ _ _ z13_z (bz13_z.trans (r_1 h)) (r_2 h) hM hS dX11_feed_68
  · refine lv_bipush (v := (-3)) hx hb dX11_feed_16 (by decide) ?_
    exact ret S _ _ _ _ (-3) ((show ((-3) : Int32).toInt = (-3) by decide).trans (r_1 h)) (r_2 h) hM hS dX11_feed_18

def f_MP_end (S : SS) (v1 : Int) : Option (Int × SS) := (if v1 < 0 then some ((-1), S) else (if v1 ≤ gi S 1 1 then w_lt (si S 1 1 v1) (fun S2_z => some (v1, S2_z)) else some ((-1), S)))
set_option maxHeartbeats 4000000 in
set_option maxRecDepth 100000 in
theorem g_MP_end (l : Launch) (D : va_G) (kc : Nat → ClassId) (b : Nat) (T S : SS) (x1 : Int32) (v1 : Int) (hx1 : x1.toInt = v1) (hS : rng S) {vr : Int} {Sr : SS} (h : f_MP_end S v1 = some (vr, Sr)) : cI l yX11_end cX11_end 2 .int 1 D kc b (jX b kc T) S [.ref (b + 0), .int x1] vr Sr := by
  refine g_beg_i (by decide) (Nat.le_of_ble_eq_true rfl) ?_
  intro p e s m args below meth c Q C ret hM ls hl
  obtain ⟨hx, hb, hml, hown, hts, hE, hbs⟩ := id C
  have hl : lv_has ls 2 [(0, .ref (b + 0)), (1, .int x1)] := hl
  unfold f_MP_end at h
  refine lv_iload_n hx hb dX11_end_0 rfl (lv_at hl 1 rfl) ?_
  refine g_if_lt (tgt := 15) hx hb hx1 h dX11_end_1 (by decide) (fun h => ?_) (fun h => ?_)
  · refine lv_iconst (v := (-1)) hx hb dX11_end_15 (by decide) ?_
    exact ret S _ _ _ _ (-1) ((show ((-1) : Int32).toInt = (-1) by decide).trans (r_1 h)) (r_2 h) hM hS dX11_end_16
  · refine lv_iload_n hx hb dX11_end_4 rfl (lv_at hl 1 rfl) ?_
    refine lv_aload_n hx hb dX11_end_5 rfl (lv_at hl 0 rfl) ?_
    refine m_get fl_X11_12_X11 C hM (i := 0) (by omega) (e_0 b kc T S) (v := .ref (b + 1)) rfl dX11_end_6 ?_
    refine g_getN fl_X11_87_X10 C hM (i := 1) (r := 1) (by omega) (e_1 b kc T S) rfl hS dX11_end_9 (fun z1_z bz1_z => ?_)
    refine g_icmp_le (tgt := 17) hx hb hx1 bz1_z h dX11_end_12 (by decide) (fun h => ?_) (fun h => ?_)
    · refine lv_aload_n hx hb dX11_end_17 rfl (lv_at hl 0 rfl) ?_
      refine m_get fl_X11_12_X11 C hM (i := 0) (by omega) (e_0 b kc T S) (v := .ref (b + 1)) rfl dX11_end_18 ?_
      refine lv_iload_n hx hb dX11_end_21 rfl (lv_at hl 1 rfl) ?_
      refine g_putN fl_X11_87_X10 C hM (i := 1) (by omega) (e_1 b kc T S) rfl rfl (Nat.le_of_ble_eq_true rfl) (fs1 := [.ref (b + 2), .int x1]) rfl (p_1_1 hx1) (rng_si hS (i32_of hx1)) h dX11_end_22 (fun S2_z H locs h hM hS => ?_)
      refine lv_iload_n hx hb dX11_end_25 rfl (lv_at hl 1 rfl) ?_
      exact ret S2_z _ _ _ _ x1 (hx1.trans (r_1 h)) (r_2 h) hM hS dX11_end_26
    · refine lv_iconst (v := (-1)) hx hb dX11_end_15 (by decide) ?_
      exact ret S _ _ _ _ (-1) ((show ((-1) : Int32).toInt = (-1) by decide).trans (r_1 h)) (r_2 h) hM hS dX11_end_16

def f_MP_fault (S : SS) (v1 : Int) : Int := (if v1 = 0 then gi S 3 0 else (if v1 = 1 then gi S 3 1 else (-1)))
set_option maxHeartbeats 4000000 in
set_option maxRecDepth 100000 in
theorem g_MP_fault (l : Launch) (D : va_G) (kc : Nat → ClassId) (b : Nat) (T S : SS) (x1 : Int32) (v1 : Int) (hx1 : x1.toInt = v1) (hS : rng S) {vr : Int} (h : f_MP_fault S v1 = vr) : cI l yX11_fault cX11_fault 2 .int 1 D kc b (jX b kc T) S [.ref (b + 0), .int x1] vr S := by
  refine g_beg_i (by decide) (Nat.le_of_ble_eq_true rfl) ?_
  intro p e s m args below meth c Q C ret hM ls hl
  obtain ⟨hx, hb, hml, hown, hts, hE, hbs⟩ := id C
  have hl : lv_has ls 2 [(0, .ref (b + 0)), (1, .int x1)] := hl
  unfold f_MP_fault at h
  refine lv_iload_n hx hb dX11_fault_0 rfl (lv_at hl 1 rfl) ?_
  refine g_if_ne (tgt := 12) hx hb hx1 h dX11_fault_1 (by decide) (fun h => ?_) (fun h => ?_)
  · refine lv_iload_n hx hb dX11_fault_12 rfl (lv_at hl 1 rfl) ?_
    refine lv_iconst (v := 1) hx hb dX11_fault_13 (by decide) ?_
    refine g_icmp_ne (tgt := 27) hx hb hx1 (show (1 : Int32).toInt = 1 by decide) h dX11_fault_14 (by decide) (fun h => ?_) (fun h => ?_)
    · refine lv_iconst (v := (-1)) hx hb dX11_fault_27 (by decide) ?_
      exact ret S _ _ _ _ (-1) ((show ((-1) : Int32).toInt = (-1) by decide).trans h) rfl hM hS dX11_fault_28
    · refine lv_aload_n hx hb dX11_fault_17 rfl (lv_at hl 0 rfl) ?_
      refine m_get fl_X11_19_X11 C hM (i := 0) (by omega) (e_0 b kc T S) (v := .ref (b + 3)) rfl dX11_fault_18 ?_
      refine g_getN fl_X11_123_X1 C hM (i := 3) (r := 3) (by omega) (e_3 b kc T S) rfl hS dX11_fault_21 (fun z1_z bz1_z => ?_)
      refine lv_goto (tgt := 28) hx hb dX11_fault_24 (by decide) ?_
      exact ret S _ _ _ _ z1_z (bz1_z.trans h) rfl hM hS dX11_fault_28
  · refine lv_aload_n hx hb dX11_fault_4 rfl (lv_at hl 0 rfl) ?_
    refine m_get fl_X11_19_X11 C hM (i := 0) (by omega) (e_0 b kc T S) (v := .ref (b + 3)) rfl dX11_fault_5 ?_
    refine g_getN fl_X11_120_X1 C hM (i := 3) (r := 3) (by omega) (e_3 b kc T S) rfl hS dX11_fault_8 (fun z2_z bz2_z => ?_)
    exact ret S _ _ _ _ z2_z (bz2_z.trans h) rfl hM hS dX11_fault_11

def f_MP_word (S : SS) (v1 : Int) (v2 : Int) : Option Int64 := w_lt (f_MP_sheetOf S v1) (fun o1_z => w_on o1_z (some 0) (fun q3_z => w_chk (shOk q3_z) (w_b1 (f_Sheet_wordAt S q3_z v2) (fun w4_z => some w4_z))))
set_option maxHeartbeats 4000000 in
set_option maxRecDepth 100000 in
theorem g_MP_word (l : Launch) (D : va_G) (kc : Nat → ClassId) (b : Nat) (T S : SS) (x1 : Int32) (v1 : Int) (hx1 : x1.toInt = v1) (x2 : Int32) (v2 : Int) (hx2 : x2.toInt = v2) (hS : rng S) {wr : Int64} (h : f_MP_word S v1 v2 = some wr) : cL l yX11_word cX11_word 4 2 D kc b (jX b kc T) S [.ref (b + 0), .int x1, .int x2] wr S := by
  refine g_beg_l (by decide) (Nat.le_of_ble_eq_true rfl) ?_
  intro p e s m args below meth c Q C ret hM ls hl
  obtain ⟨hx, hb, hml, hown, hts, hE, hbs⟩ := id C
  have hl : lv_has ls 4 [(0, .ref (b + 0)), (1, .int x1), (2, .int x2)] := hl
  unfold f_MP_word at h
  refine lv_aload_n hx hb dX11_word_0 rfl (lv_at hl 0 rfl) ?_
  refine lv_iload_n hx hb dX11_word_1 rfl (lv_at hl 1 rfl) ?_
  obtain ⟨o1_z, co1_z, h⟩ := w_ltE h
  refine g_callQ (J := jX b kc T) (m_runV calV_X11_sheetOf wd_845 (g_MP_sheetOf l D kc b T S x1 v1 hx1 hS co1_z.symm) C hM (i := 0) (by omega) (e_0 b kc T S) rfl hl.1 rfl rfl (Nat.le_of_ble_eq_true rfl) dX11_word_2 ⟨Nat.le_of_ble_eq_true rfl, Nat.le_of_ble_eq_true rfl⟩ ⟨Nat.le_of_ble_eq_true rfl, Nat.le_of_ble_eq_true rfl⟩) hM (fun z2_z H locs bz2_z hM hS => ?_)
  subst bz2_z
  refine lv_astore_nq (lv' := [(3, va_rf (os b o1_z)), (0, .ref (b + 0)), (1, .int x1), (2, .int x2)]) hx hb dX11_word_5 rfl hl (by decide) rfl (fun ls hl => ?_)
  refine lv_aload_nq hx hb dX11_word_6 rfl (lv_at hl 0 rfl) ?_
  cases o1_z with
  | none =>
    replace h := w_onN h
    have hl : lv_has ls 4 [(3, .null), (0, .ref (b + 0)), (1, .int x1), (2, .int x2)] := hl
    refine lv_ifnonnullN hx hb dX11_word_7 ?_
    refine lv_lconst (v := 0) hx hb dX11_word_10 (by decide) ?_
    refine lv_goto (tgt := 19) hx hb dX11_word_11 (by decide) ?_
    exact ret S _ _ _ _ 0 (Option.some.inj h) rfl hM hS dX11_word_19
  | some q3_z =>
    obtain ⟨hq3_z, h⟩ := w_chkE (w_onS h)
    have hl : lv_has ls 4 [(3, .ref (b + q3_z)), (0, .ref (b + 0)), (1, .int x1), (2, .int x2)] := hl
    refine lv_ifnonnull (tgt := 14) hx hb dX11_word_7 (by decide) ?_
    refine lv_aload_n hx hb dX11_word_14 rfl (lv_at hl 0 rfl) ?_
    refine lv_iload_n hx hb dX11_word_15 rfl (lv_at hl 3 rfl) ?_
    obtain ⟨w4_z, cw4_z, h⟩ := w_b1E h
    refine g_callL (J := jX b kc T) (m_runV calV_X8_wordAt wd_849 (g_Sheet_wordAt l D kc b T S q3_z hq3_z x2 v2 hx2 hS cw4_z) C hM (i := q3_z) (by omega) (e_sh b kc T S hq3_z) rfl hl.1 rfl rfl (Nat.le_of_ble_eq_true rfl) dX11_word_16 ⟨Nat.le_of_ble_eq_true rfl, Nat.le_of_ble_eq_true rfl⟩ ⟨Nat.le_of_ble_eq_true rfl, Nat.le_of_ble_eq_true rfl⟩) hM (fun z5_z H locs bz5_z hM hS => ?_)
    have ez5_z := bz5_z.symm
    subst ez5_z
    exact ret S _ _ _ _ w4_z (Option.some.inj h) rfl hM hS dX11_word_19

def f_MP_mark (S : SS) (v1 : Int) (v2 : Int) : Option Int := w_b1 (f_Pile_find S v1) (fun o1_z => w_on o1_z (some (-9)) (fun j3_z => w_chk (j3_z < 40) ((if 10 ≤ v2 then w_chk (i32 (v2 - 10)) (w_b1 (f_Mark_tellWord S j3_z (v2 - 10)) (fun r5_z => some r5_z)) else w_b1 (f_Mark_tell S j3_z v2) (fun r7_z => some r7_z)))))
set_option maxHeartbeats 4000000 in
set_option maxRecDepth 100000 in
theorem g_MP_mark (l : Launch) (D : va_G) (kc : Nat → ClassId) (b : Nat) (T S : SS) (x1 : Int32) (v1 : Int) (hx1 : x1.toInt = v1) (x2 : Int32) (v2 : Int) (hx2 : x2.toInt = v2) (hS : rng S) {vr : Int} (h : f_MP_mark S v1 v2 = some vr) : cI l yX11_mark cX11_mark 4 .int 3 D kc b (jX b kc T) S [.ref (b + 0), .int x1, .int x2] vr S := by
  refine g_beg_i (by decide) (Nat.le_of_ble_eq_true rfl) ?_
  intro p e s m args below meth c Q C ret hM ls hl
  obtain ⟨hx, hb, hml, hown, hts, hE, hbs⟩ := id C
  have hl : lv_has ls 4 [(0, .ref (b + 0)), (1, .int x1), (2, .int x2)] := hl
  unfold f_MP_mark at h
  refine lv_aload_n hx hb dX11_mark_0 rfl (lv_at hl 0 rfl) ?_
  refine m_get fl_X11_41_X11 C hM (i := 0) (by omega) (e_0 b kc T S) (v := .ref (b + 10)) rfl dX11_mark_1 ?_
  refine lv_iload_n hx hb dX11_mark_4 rfl (lv_at hl 1 rfl) ?_
  obtain ⟨o1_z, co1_z, h⟩ := w_b1E h
  refine g_callQ (J := jX b kc T) (m_runV calV_X5_find wd_854 (g_Pile_find l D kc b T S x1 v1 hx1 hS co1_z) C hM (i := 10) (by omega) (e_10 b kc T S) rfl hl.1 rfl rfl (Nat.le_of_ble_eq_true rfl) dX11_mark_5 ⟨Nat.le_of_ble_eq_true rfl, Nat.le_of_ble_eq_true rfl⟩ ⟨Nat.le_of_ble_eq_true rfl, Nat.le_of_ble_eq_true rfl⟩) hM (fun z2_z H locs bz2_z hM hS => ?_)
  subst bz2_z
  refine lv_astore_nq (lv' := [(3, va_rf (om b o1_z)), (0, .ref (b + 0)), (1, .int x1), (2, .int x2)]) hx hb dX11_mark_8 rfl hl (by decide) rfl (fun ls hl => ?_)
  refine lv_aload_nq hx hb dX11_mark_9 rfl (lv_at hl 0 rfl) ?_
  cases o1_z with
  | none =>
    replace h := w_onN h
    have hl : lv_has ls 4 [(3, .null), (0, .ref (b + 0)), (1, .int x1), (2, .int x2)] := hl
    refine lv_ifnonnullN hx hb dX11_mark_10 ?_
    refine lv_bipush (v := (-9)) hx hb dX11_mark_13 (by decide) ?_
    exact ret S _ _ _ _ (-9) ((show ((-9) : Int32).toInt = (-9) by decide).trans (Option.some.inj h)) rfl hM hS dX11_mark_15
  | some j3_z =>
    obtain ⟨hj3_z, h⟩ := w_chkE (w_onS h)
    have hl : lv_has ls 4 [(3, .ref (b + (14 + 4 * j3_z))), (0, .ref (b + 0)), (1, .int x1), (2, .int x2)] := hl
    refine lv_ifnonnull (tgt := 16) hx hb dX11_mark_10 (by decide) ?_
    refine lv_iload_n hx hb dX11_mark_16 rfl (lv_at hl 3 rfl) ?_
    refine lv_bipush (v := 10) hx hb dX11_mark_17 (by decide) ?_
    refine g_icmp_ge (tgt := 30) hx hb hx2 (show (10 : Int32).toInt = 10 by decide) h dX11_mark_19 (by decide) (fun h => ?_) (fun h => ?_)
    · refine lv_aload_n hx hb dX11_mark_30 rfl (lv_at hl 0 rfl) ?_
      refine lv_iload_n hx hb dX11_mark_31 rfl (lv_at hl 3 rfl) ?_
      refine lv_bipush (v := 10) hx hb dX11_mark_32 (by decide) ?_
      refine g_isub hx hb hx2 (show (10 : Int32).toInt = 10 by decide) h dX11_mark_34 (fun z4_z bz4_z h => ?_)
      obtain ⟨r5_z, cr5_z, h⟩ := w_b1E h
      refine g_callI (J := jX b kc T) (m_runV calV_X3_tellWord wd_863 (g_Mark_tellWord l D kc b T S j3_z hj3_z z4_z (v2 - 10) bz4_z hS cr5_z) C hM (i := 14 + 4 * j3_z) (by omega) (e_mk b kc T S hj3_z) rfl hl.1 rfl rfl (Nat.le_of_ble_eq_true rfl) dX11_mark_35 ⟨Nat.le_of_ble_eq_true rfl, Nat.le_of_ble_eq_true rfl⟩ ⟨Nat.le_of_ble_eq_true rfl, Nat.le_of_ble_eq_true rfl⟩) hM (fun z6_z H locs bz6_z hM hS => ?_)
      exact ret S _ _ _ _ z6_z (bz6_z.trans (Option.some.inj h)) rfl hM hS dX11_mark_38
    · refine lv_aload_n hx hb dX11_mark_22 rfl (lv_at hl 0 rfl) ?_
      refine lv_iload_n hx hb dX11_mark_23 rfl (lv_at hl 3 rfl) ?_
      obtain ⟨r7_z, cr7_z, h⟩ := w_b1E h
      refine g_callI (J := jX b kc T) (m_runV calV_X3_tell wd_855 (g_Mark_tell l D kc b T S j3_z hj3_z x2 v2 hx2 hS cr7_z) C hM (i := 14 + 4 * j3_z) (by omega) (e_mk b kc T S hj3_z) rfl hl.1 rfl rfl (Nat.le_of_ble_eq_true rfl) dX11_mark_24 ⟨Nat.le_of_ble_eq_true rfl, Nat.le_of_ble_eq_true rfl⟩ ⟨Nat.le_of_ble_eq_true rfl, Nat.le_of_ble_eq_true rfl⟩) hM (fun z8_z H locs bz8_z hM hS => ?_)
      refine lv_goto (tgt := 38) hx hb dX11_mark_27 (by decide) ?_
      exact ret S _ _ _ _ z8_z (bz8_z.trans (Option.some.inj h)) rfl hM hS dX11_mark_38

def f_MP_meet (S : SS) (v1 : Int) (v2 : Int) : Option Int := w_b1 (f_Pile_findNoStet S v1) (fun o1_z => w_b1 (f_Pile_findNoStet S v2) (fun o3_z => w_on o1_z (some (-2)) (fun j5_z => w_chk (j5_z < 40) (w_on o3_z (some (-2)) (fun j6_z => w_chk (j6_z < 40) ((if v1 = v2 then some (-2) else w_b1 (f_Mark_meets S j5_z j6_z) (fun r7_z => (if r7_z = 0 then some 0 else some 1)))))))))
set_option maxHeartbeats 4000000 in
set_option maxRecDepth 100000 in
theorem g_MP_meet (l : Launch) (D : va_G) (kc : Nat → ClassId) (b : Nat) (T S : SS) (x1 : Int32) (v1 : Int) (hx1 : x1.toInt = v1) (x2 : Int32) (v2 : Int) (hx2 : x2.toInt = v2) (hS : rng S) {vr : Int} (h : f_MP_meet S v1 v2 = some vr) : cI l yX11_meet cX11_meet 5 .int 4 D kc b (jX b kc T) S [.ref (b + 0), .int x1, .int x2] vr S := by
  refine g_beg_i (by decide) (Nat.le_of_ble_eq_true rfl) ?_
  intro p e s m args below meth c Q C ret hM ls hl
  obtain ⟨hx, hb, hml, hown, hts, hE, hbs⟩ := id C
  have hl : lv_has ls 5 [(0, .ref (b + 0)), (1, .int x1), (2, .int x2)] := hl
  unfold f_MP_meet at h
  refine lv_aload_n hx hb dX11_meet_0 rfl (lv_at hl 0 rfl) ?_
  refine m_get fl_X11_41_X11 C hM (i := 0) (by omega) (e_0 b kc T S) (v := .ref (b + 10)) rfl dX11_meet_1 ?_
  refine lv_iload_n hx hb dX11_meet_4 rfl (lv_at hl 1 rfl) ?_
  obtain ⟨o1_z, co1_z, h⟩ := w_b1E h
  refine g_callQ (J := jX b kc T) (m_runV calV_X5_findNoStet wd_881 (g_Pile_findNoStet l D kc b T S x1 v1 hx1 hS co1_z) C hM (i := 10) (by omega) (e_10 b kc T S) rfl hl.1 rfl rfl (Nat.le_of_ble_eq_true rfl) dX11_meet_5 ⟨Nat.le_of_ble_eq_true rfl, Nat.le_of_ble_eq_true rfl⟩ ⟨Nat.le_of_ble_eq_true rfl, Nat.le_of_ble_eq_true rfl⟩) hM (fun z2_z H locs bz2_z hM hS => ?_)
  subst bz2_z
  refine lv_astore_nq (lv' := [(3, va_rf (om b o1_z)), (0, .ref (b + 0)), (1, .int x1), (2, .int x2)]) hx hb dX11_meet_8 rfl hl (by decide) rfl (fun ls hl => ?_)
  refine lv_aload_n hx hb dX11_meet_9 rfl (lv_at hl 1 rfl) ?_
  refine m_get fl_X11_41_X11 C hM (i := 0) (by omega) (e_0 b kc T S) (v := .ref (b + 10)) rfl dX11_meet_10 ?_
  refine lv_iload_n hx hb dX11_meet_13 rfl (lv_at hl 3 rfl) ?_
  obtain ⟨o3_z, co3_z, h⟩ := w_b1E h
  refine g_callQ (J := jX b kc T) (m_runV calV_X5_findNoStet wd_881 (g_Pile_findNoStet l D kc b T S x2 v2 hx2 hS co3_z) C hM (i := 10) (by omega) (e_10 b kc T S) rfl hl.1 rfl rfl (Nat.le_of_ble_eq_true rfl) dX11_meet_14 ⟨Nat.le_of_ble_eq_true rfl, Nat.le_of_ble_eq_true rfl⟩ ⟨Nat.le_of_ble_eq_true rfl, Nat.le_of_ble_eq_true rfl⟩) hM (fun z4_z H locs bz4_z hM hS => ?_)
  subst bz4_z
  refine lv_astoreq (lv' := [(4, va_rf (om b o3_z)), (3, va_rf (om b o1_z)), (0, .ref (b + 0)), (1, .int x1), (2, .int x2)]) hx hb dX11_meet_17 hl (by decide) (by simp [cat_rf]) (fun ls hl => ?_)
  refine lv_aload_nq hx hb dX11_meet_19 rfl (lv_at hl 1 rfl) ?_
  cases o1_z with
  | none =>
    replace h := w_onN h
    have hl : lv_has ls 5 [(4, va_rf (om b o3_z)), (3, .null), (0, .ref (b + 0)), (1, .int x1), (2, .int x2)] := hl
    refine lv_ifnullN (tgt := 33) hx hb dX11_meet_20 (by decide) ?_
    refine lv_bipush (v := (-2)) hx hb dX11_meet_33 (by decide) ?_
    exact ret S _ _ _ _ (-2) ((show ((-2) : Int32).toInt = (-2) by decide).trans (Option.some.inj h)) rfl hM hS dX11_meet_35
  | some j5_z =>
    obtain ⟨hj5_z, h⟩ := w_chkE (w_onS h)
    have hl : lv_has ls 5 [(4, va_rf (om b o3_z)), (3, .ref (b + (14 + 4 * j5_z))), (0, .ref (b + 0)), (1, .int x1), (2, .int x2)] := hl
    refine lv_ifnull hx hb dX11_meet_20 ?_
    refine lv_aloadq hx hb dX11_meet_23 (lv_at hl 0 rfl) ?_
    cases o3_z with
    | none =>
      replace h := w_onN h
      have hl : lv_has ls 5 [(4, .null), (3, .ref (b + (14 + 4 * j5_z))), (0, .ref (b + 0)), (1, .int x1), (2, .int x2)] := hl
      refine lv_ifnullN (tgt := 33) hx hb dX11_meet_25 (by decide) ?_
      refine lv_bipush (v := (-2)) hx hb dX11_meet_33 (by decide) ?_
      exact ret S _ _ _ _ (-2) ((show ((-2) : Int32).toInt = (-2) by decide).trans (Option.some.inj h)) rfl hM hS dX11_meet_35
    | some j6_z =>
      obtain ⟨hj6_z, h⟩ := w_chkE (w_onS h)
      have hl : lv_has ls 5 [(4, .ref (b + (14 + 4 * j6_z))), (3, .ref (b + (14 + 4 * j5_z))), (0, .ref (b + 0)), (1, .int x1), (2, .int x2)] := hl
      refine lv_ifnull hx hb dX11_meet_25 ?_
      refine lv_iload_n hx hb dX11_meet_28 rfl (lv_at hl 3 rfl) ?_
      refine lv_iload_n hx hb dX11_meet_29 rfl (lv_at hl 4 rfl) ?_
      refine g_icmp_ne (tgt := 36) hx hb hx1 hx2 h dX11_meet_30 (by decide) (fun h => ?_) (fun h => ?_)
      · refine lv_aload_n hx hb dX11_meet_36 rfl (lv_at hl 1 rfl) ?_
        refine lv_aload hx hb dX11_meet_37 (lv_at hl 0 rfl) ?_
        obtain ⟨r7_z, cr7_z, h⟩ := w_b1E h
        refine g_callI (J := jX b kc T) (m_runV calV_X3_meets wd_885 (g_Mark_meets l D kc b T S j5_z hj5_z j6_z hj6_z hS cr7_z) C hM (i := 14 + 4 * j5_z) (by omega) (e_mk b kc T S hj5_z) rfl hl.1 rfl rfl (Nat.le_of_ble_eq_true rfl) dX11_meet_39 ⟨Nat.le_of_ble_eq_true rfl, Nat.le_of_ble_eq_true rfl⟩ ⟨Nat.le_of_ble_eq_true rfl, Nat.le_of_ble_eq_true rfl⟩) hM (fun z8_z H locs bz8_z hM hS => ?_)
        refine g_if_eq (tgt := 49) hx hb bz8_z h dX11_meet_42 (by decide) (fun h => ?_) (fun h => ?_)
        · refine lv_iconst (v := 0) hx hb dX11_meet_49 (by decide) ?_
          exact ret S _ _ _ _ 0 ((show (0 : Int32).toInt = 0 by decide).trans (Option.some.inj h)) rfl hM hS dX11_meet_50
        · refine lv_iconst (v := 1) hx hb dX11_meet_45 (by decide) ?_
          refine lv_goto (tgt := 50) hx hb dX11_meet_46 (by decide) ?_
          exact ret S _ _ _ _ 1 ((show (1 : Int32).toInt = 1 by decide).trans (Option.some.inj h)) rfl hM hS dX11_meet_50
      · refine lv_bipush (v := (-2)) hx hb dX11_meet_33 (by decide) ?_
        exact ret S _ _ _ _ (-2) ((show ((-2) : Int32).toInt = (-2) by decide).trans (Option.some.inj h)) rfl hM hS dX11_meet_35

def f_MP_within (S : SS) (v1 : Int) (v2 : Int) : Option Int := w_b1 (f_Pile_findNoStet S v1) (fun o1_z => w_b1 (f_Pile_findNoStet S v2) (fun o3_z => w_on o1_z (some (-2)) (fun j5_z => w_chk (j5_z < 40) (w_on o3_z (some (-2)) (fun j6_z => w_chk (j6_z < 40) ((if v1 = v2 then some (-2) else w_b1 (f_Mark_isWithin S j5_z j6_z) (fun r7_z => (if r7_z = 0 then some 0 else some 1)))))))))
set_option maxHeartbeats 4000000 in
set_option maxRecDepth 100000 in
theorem g_MP_within (l : Launch) (D : va_G) (kc : Nat → ClassId) (b : Nat) (T S : SS) (x1 : Int32) (v1 : Int) (hx1 : x1.toInt = v1) (x2 : Int32) (v2 : Int) (hx2 : x2.toInt = v2) (hS : rng S) {vr : Int} (h : f_MP_within S v1 v2 = some vr) : cI l yX11_within cX11_within 5 .int 4 D kc b (jX b kc T) S [.ref (b + 0), .int x1, .int x2] vr S := by
  refine g_beg_i (by decide) (Nat.le_of_ble_eq_true rfl) ?_
  intro p e s m args below meth c Q C ret hM ls hl
  obtain ⟨hx, hb, hml, hown, hts, hE, hbs⟩ := id C
  have hl : lv_has ls 5 [(0, .ref (b + 0)), (1, .int x1), (2, .int x2)] := hl
  unfold f_MP_within at h
  refine lv_aload_n hx hb dX11_within_0 rfl (lv_at hl 0 rfl) ?_
  refine m_get fl_X11_41_X11 C hM (i := 0) (by omega) (e_0 b kc T S) (v := .ref (b + 10)) rfl dX11_within_1 ?_
  refine lv_iload_n hx hb dX11_within_4 rfl (lv_at hl 1 rfl) ?_
  obtain ⟨o1_z, co1_z, h⟩ := w_b1E h
  refine g_callQ (J := jX b kc T) (m_runV calV_X5_findNoStet wd_881 (g_Pile_findNoStet l D kc b T S x1 v1 hx1 hS co1_z) C hM (i := 10) (by omega) (e_10 b kc T S) rfl hl.1 rfl rfl (Nat.le_of_ble_eq_true rfl) dX11_within_5 ⟨Nat.le_of_ble_eq_true rfl, Nat.le_of_ble_eq_true rfl⟩ ⟨Nat.le_of_ble_eq_true rfl, Nat.le_of_ble_eq_true rfl⟩) hM (fun z2_z H locs bz2_z hM hS => ?_)
  subst bz2_z
  refine lv_astore_nq (lv' := [(3, va_rf (om b o1_z)), (0, .ref (b + 0)), (1, .int x1), (2, .int x2)]) hx hb dX11_within_8 rfl hl (by decide) rfl (fun ls hl => ?_)
  refine lv_aload_n hx hb dX11_within_9 rfl (lv_at hl 1 rfl) ?_
  refine m_get fl_X11_41_X11 C hM (i := 0) (by omega) (e_0 b kc T S) (v := .ref (b + 10)) rfl dX11_within_10 ?_
  refine lv_iload_n hx hb dX11_within_13 rfl (lv_at hl 3 rfl) ?_
  obtain ⟨o3_z, co3_z, h⟩ := w_b1E h
  refine g_callQ (J := jX b kc T) (m_runV calV_X5_findNoStet wd_881 (g_Pile_findNoStet l D kc b T S x2 v2 hx2 hS co3_z) C hM (i := 10) (by omega) (e_10 b kc T S) rfl hl.1 rfl rfl (Nat.le_of_ble_eq_true rfl) dX11_within_14 ⟨Nat.le_of_ble_eq_true rfl, Nat.le_of_ble_eq_true rfl⟩ ⟨Nat.le_of_ble_eq_true rfl, Nat.le_of_ble_eq_true rfl⟩) hM (fun z4_z H locs bz4_z hM hS => ?_)
  subst bz4_z
  refine lv_astoreq (lv' := [(4, va_rf (om b o3_z)), (3, va_rf (om b o1_z)), (0, .ref (b + 0)), (1, .int x1), (2, .int x2)]) hx hb dX11_within_17 hl (by decide) (by simp [cat_rf]) (fun ls hl => ?_)
  refine lv_aload_nq hx hb dX11_within_19 rfl (lv_at hl 1 rfl) ?_
  cases o1_z with
  | none =>
    replace h := w_onN h
    have hl : lv_has ls 5 [(4, va_rf (om b o3_z)), (3, .null), (0, .ref (b + 0)), (1, .int x1), (2, .int x2)] := hl
    refine lv_ifnullN (tgt := 33) hx hb dX11_within_20 (by decide) ?_
    refine lv_bipush (v := (-2)) hx hb dX11_within_33 (by decide) ?_
    exact ret S _ _ _ _ (-2) ((show ((-2) : Int32).toInt = (-2) by decide).trans (Option.some.inj h)) rfl hM hS dX11_within_35
  | some j5_z =>
    obtain ⟨hj5_z, h⟩ := w_chkE (w_onS h)
    have hl : lv_has ls 5 [(4, va_rf (om b o3_z)), (3, .ref (b + (14 + 4 * j5_z))), (0, .ref (b + 0)), (1, .int x1), (2, .int x2)] := hl
    refine lv_ifnull hx hb dX11_within_20 ?_
    refine lv_aloadq hx hb dX11_within_23 (lv_at hl 0 rfl) ?_
    cases o3_z with
    | none =>
      replace h := w_onN h
      have hl : lv_has ls 5 [(4, .null), (3, .ref (b + (14 + 4 * j5_z))), (0, .ref (b + 0)), (1, .int x1), (2, .int x2)] := hl
      refine lv_ifnullN (tgt := 33) hx hb dX11_within_25 (by decide) ?_
      refine lv_bipush (v := (-2)) hx hb dX11_within_33 (by decide) ?_
      exact ret S _ _ _ _ (-2) ((show ((-2) : Int32).toInt = (-2) by decide).trans (Option.some.inj h)) rfl hM hS dX11_within_35
    | some j6_z =>
      obtain ⟨hj6_z, h⟩ := w_chkE (w_onS h)
      have hl : lv_has ls 5 [(4, .ref (b + (14 + 4 * j6_z))), (3, .ref (b + (14 + 4 * j5_z))), (0, .ref (b + 0)), (1, .int x1), (2, .int x2)] := hl
      refine lv_ifnull hx hb dX11_within_25 ?_
      refine lv_iload_n hx hb dX11_within_28 rfl (lv_at hl 3 rfl) ?_
      refine lv_iload_n hx hb dX11_within_29 rfl (lv_at hl 4 rfl) ?_
      refine g_icmp_ne (tgt := 36) hx hb hx1 hx2 h dX11_within_30 (by decide) (fun h => ?_) (fun h => ?_)
      · refine lv_aload_n hx hb dX11_within_36 rfl (lv_at hl 1 rfl) ?_
        refine lv_aload hx hb dX11_within_37 (lv_at hl 0 rfl) ?_
        obtain ⟨r7_z, cr7_z, h⟩ := w_b1E h
        refine g_callI (J := jX b kc T) (m_runV calV_X3_isWithin wd_890 (g_Mark_isWithin l D kc b T S j5_z hj5_z j6_z hj6_z hS cr7_z) C hM (i := 14 + 4 * j5_z) (by omega) (e_mk b kc T S hj5_z) rfl hl.1 rfl rfl (Nat.le_of_ble_eq_true rfl) dX11_within_39 ⟨Nat.le_of_ble_eq_true rfl, Nat.le_of_ble_eq_true rfl⟩ ⟨Nat.le_of_ble_eq_true rfl, Nat.le_of_ble_eq_true rfl⟩) hM (fun z8_z H locs bz8_z hM hS => ?_)
        refine g_if_eq (tgt := 49) hx hb bz8_z h dX11_within_42 (by decide) (fun h => ?_) (fun h => ?_)
        · refine lv_iconst (v := 0) hx hb dX11_within_49 (by decide) ?_
          exact ret S _ _ _ _ 0 ((show (0 : Int32).toInt = 0 by decide).trans (Option.some.inj h)) rfl hM hS dX11_within_50
        · refine lv_iconst (v := 1) hx hb dX11_within_45 (by decide) ?_
          refine lv_goto (tgt := 50) hx hb dX11_within_46 (by decide) ?_
          exact ret S _ _ _ _ 1 ((show (1 : Int32).toInt = 1 by decide).trans (Option.some.inj h)) rfl hM hS dX11_within_50
      · refine lv_bipush (v := (-2)) hx hb dX11_within_33 (by decide) ?_
        exact ret S _ _ _ _ (-2) ((show ((-2) : Int32).toInt = (-2) by decide).trans (Option.some.inj h)) rfl hM hS dX11_within_35

def f_MP_costs (S : SS) (v1 : Int) (v2 : Int) : Option (Int × SS) := (if v1 < 1 then some ((-2), S) else (if 9 < v1 then some ((-2), S) else (if v2 < 1 then some ((-2), S) else (if v2 ≤ 9 then w_lt (si S 183 5 v1) (fun S1_z => w_lt (si S1_z 183 6 v2) (fun S2_z => some (1, S2_z))) else some ((-2), S)))))
set_option maxHeartbeats 4000000 in
set_option maxRecDepth 100000 in
theorem g_MP_costs (l : Launch) (D : va_G) (kc : Nat → ClassId) (b : Nat) (T S : SS) (x1 : Int32) (v1 : Int) (hx1 : x1.toInt = v1) (x2 : Int32) (v2 : Int) (hx2 : x2.toInt = v2) (hS : rng S) {vr : Int} {Sr : SS} (h : f_MP_costs S v1 v2 = some (vr, Sr)) : cI l yX11_costs cX11_costs 3 .int 1 D kc b (jX b kc T) S [.ref (b + 0), .int x1, .int x2] vr Sr := by
  refine g_beg_i (by decide) (Nat.le_of_ble_eq_true rfl) ?_
  intro p e s m args below meth c Q C ret hM ls hl
  obtain ⟨hx, hb, hml, hown, hts, hE, hbs⟩ := id C
  have hl : lv_has ls 3 [(0, .ref (b + 0)), (1, .int x1), (2, .int x2)] := hl
  unfold f_MP_costs at h
  refine lv_iload_n hx hb dX11_costs_0 rfl (lv_at hl 1 rfl) ?_
  refine lv_iconst (v := 1) hx hb dX11_costs_1 (by decide) ?_
  refine g_icmp_lt (tgt := 22) hx hb hx1 (show (1 : Int32).toInt = 1 by decide) h dX11_costs_2 (by decide) (fun h => ?_) (fun h => ?_)
  · refine lv_bipush (v := (-2)) hx hb dX11_costs_22 (by decide) ?_
    exact ret S _ _ _ _ (-2) ((show ((-2) : Int32).toInt = (-2) by decide).trans (r_1 h)) (r_2 h) hM hS dX11_costs_24
  · refine lv_iload_n hx hb dX11_costs_5 rfl (lv_at hl 1 rfl) ?_
    refine lv_bipush (v := 9) hx hb dX11_costs_6 (by decide) ?_
    refine g_icmp_gt (tgt := 22) hx hb hx1 (show (9 : Int32).toInt = 9 by decide) h dX11_costs_8 (by decide) (fun h => ?_) (fun h => ?_)
    · refine lv_bipush (v := (-2)) hx hb dX11_costs_22 (by decide) ?_
      exact ret S _ _ _ _ (-2) ((show ((-2) : Int32).toInt = (-2) by decide).trans (r_1 h)) (r_2 h) hM hS dX11_costs_24
    · refine lv_iload_n hx hb dX11_costs_11 rfl (lv_at hl 2 rfl) ?_
      refine lv_iconst (v := 1) hx hb dX11_costs_12 (by decide) ?_
      refine g_icmp_lt (tgt := 22) hx hb hx2 (show (1 : Int32).toInt = 1 by decide) h dX11_costs_13 (by decide) (fun h => ?_) (fun h => ?_)
      · refine lv_bipush (v := (-2)) hx hb dX11_costs_22 (by decide) ?_
        exact ret S _ _ _ _ (-2) ((show ((-2) : Int32).toInt = (-2) by decide).trans (r_1 h)) (r_2 h) hM hS dX11_costs_24
      · refine lv_iload_n hx hb dX11_costs_16 rfl (lv_at hl 2 rfl) ?_
        refine lv_bipush (v := 9) hx hb dX11_costs_17 (by decide) ?_
        refine g_icmp_le (tgt := 25) hx hb hx2 (show (9 : Int32).toInt = 9 by decide) h dX11_costs_19 (by decide) (fun h => ?_) (fun h => ?_)
        · refine lv_aload_n hx hb dX11_costs_25 rfl (lv_at hl 0 rfl) ?_
          refine m_get fl_X11_76_X11 C hM (i := 0) (by omega) (e_0 b kc T S) (v := .ref (b + 183)) rfl dX11_costs_26 ?_
          refine lv_iload_n hx hb dX11_costs_29 rfl (lv_at hl 1 rfl) ?_
          refine g_putN fl_X11_174_X2 C hM (i := 183) (by omega) (e_183 b kc T S) rfl rfl (Nat.le_of_ble_eq_true rfl) (fs1 := [.ref (b + 184), .ref (b + 186), .ref (b + 187), .ref (b + 188), .ref (b + 189), .int x1, .int (oi (gi S 183 6)), .int (oi (gi S 183 7)), .int (oi (gi S 183 8)), .int (oi (gi S 183 9)), .int (oi (gi S 183 10)), .int (oi (gi S 183 11))]) rfl (p_183_5 hx1) (rng_si hS (i32_of hx1)) h dX11_costs_30 (fun S1_z H locs h hM hS => ?_)
          refine lv_aload_n hx hb dX11_costs_33 rfl (lv_at hl 0 rfl) ?_
          refine m_get fl_X11_76_X11 C hM (i := 0) (by omega) (e_0 b kc T S1_z) (v := .ref (b + 183)) rfl dX11_costs_34 ?_
          refine lv_iload_n hx hb dX11_costs_37 rfl (lv_at hl 2 rfl) ?_
          refine g_putN fl_X11_177_X2 C hM (i := 183) (by omega) (e_183 b kc T S1_z) rfl rfl (Nat.le_of_ble_eq_true rfl) (fs1 := [.ref (b + 184), .ref (b + 186), .ref (b + 187), .ref (b + 188), .ref (b + 189), .int (oi (gi S1_z 183 5)), .int x2, .int (oi (gi S1_z 183 7)), .int (oi (gi S1_z 183 8)), .int (oi (gi S1_z 183 9)), .int (oi (gi S1_z 183 10)), .int (oi (gi S1_z 183 11))]) rfl (p_183_6 hx2) (rng_si hS (i32_of hx2)) h dX11_costs_38 (fun S2_z H locs h hM hS => ?_)
          refine lv_iconst (v := 1) hx hb dX11_costs_41 (by decide) ?_
          exact ret S2_z _ _ _ _ 1 ((show (1 : Int32).toInt = 1 by decide).trans (r_1 h)) (r_2 h) hM hS dX11_costs_42
        · refine lv_bipush (v := (-2)) hx hb dX11_costs_22 (by decide) ?_
          exact ret S _ _ _ _ (-2) ((show ((-2) : Int32).toInt = (-2) by decide).trans (r_1 h)) (r_2 h) hM hS dX11_costs_24

def f_MP_held (S : SS) (v1 : Int) : Option Int := w_b1 (f_Holding_tell S v1) (fun r1_z => some r1_z)
set_option maxHeartbeats 4000000 in
set_option maxRecDepth 100000 in
theorem g_MP_held (l : Launch) (D : va_G) (kc : Nat → ClassId) (b : Nat) (T S : SS) (x1 : Int32) (v1 : Int) (hx1 : x1.toInt = v1) (hS : rng S) {vr : Int} (h : f_MP_held S v1 = some vr) : cI l yX11_held cX11_held 2 .int 3 D kc b (jX b kc T) S [.ref (b + 0), .int x1] vr S := by
  refine g_beg_i (by decide) (Nat.le_of_ble_eq_true rfl) ?_
  intro p e s m args below meth c Q C ret hM ls hl
  obtain ⟨hx, hb, hml, hown, hts, hE, hbs⟩ := id C
  have hl : lv_has ls 2 [(0, .ref (b + 0)), (1, .int x1)] := hl
  unfold f_MP_held at h
  refine lv_aload_n hx hb dX11_held_0 rfl (lv_at hl 0 rfl) ?_
  refine m_get fl_X11_76_X11 C hM (i := 0) (by omega) (e_0 b kc T S) (v := .ref (b + 183)) rfl dX11_held_1 ?_
  refine lv_iload_n hx hb dX11_held_4 rfl (lv_at hl 1 rfl) ?_
  obtain ⟨r1_z, cr1_z, h⟩ := w_b1E h
  refine g_callI (J := jX b kc T) (m_runV calV_X2_tell wd_949 (g_Holding_tell l D kc b T S x1 v1 hx1 hS cr1_z) C hM (i := 183) (by omega) (e_183 b kc T S) rfl hl.1 rfl rfl (Nat.le_of_ble_eq_true rfl) dX11_held_5 ⟨Nat.le_of_ble_eq_true rfl, Nat.le_of_ble_eq_true rfl⟩ ⟨Nat.le_of_ble_eq_true rfl, Nat.le_of_ble_eq_true rfl⟩) hM (fun z2_z H locs bz2_z hM hS => ?_)
  exact ret S _ _ _ _ z2_z (bz2_z.trans (Option.some.inj h)) rfl hM hS dX11_held_8

def f_MP_unasked (S : SS) (v1 : Int) (v2 : Int) : Option Int := w_b1 (f_Holding_tellChange S v1 v2) (fun r1_z => some r1_z)
set_option maxHeartbeats 4000000 in
set_option maxRecDepth 100000 in
theorem g_MP_unasked (l : Launch) (D : va_G) (kc : Nat → ClassId) (b : Nat) (T S : SS) (x1 : Int32) (v1 : Int) (hx1 : x1.toInt = v1) (x2 : Int32) (v2 : Int) (hx2 : x2.toInt = v2) (hS : rng S) {vr : Int} (h : f_MP_unasked S v1 v2 = some vr) : cI l yX11_unasked cX11_unasked 3 .int 2 D kc b (jX b kc T) S [.ref (b + 0), .int x1, .int x2] vr S := by
  refine g_beg_i (by decide) (Nat.le_of_ble_eq_true rfl) ?_
  intro p e s m args below meth c Q C ret hM ls hl
  obtain ⟨hx, hb, hml, hown, hts, hE, hbs⟩ := id C
  have hl : lv_has ls 3 [(0, .ref (b + 0)), (1, .int x1), (2, .int x2)] := hl
  unfold f_MP_unasked at h
  refine lv_aload_n hx hb dX11_unasked_0 rfl (lv_at hl 0 rfl) ?_
  refine m_get fl_X11_76_X11 C hM (i := 0) (by omega) (e_0 b kc T S) (v := .ref (b + 183)) rfl dX11_unasked_1 ?_
  refine lv_iload_n hx hb dX11_unasked_4 rfl (lv_at hl 1 rfl) ?_
  refine lv_iload_n hx hb dX11_unasked_5 rfl (lv_at hl 2 rfl) ?_
  obtain ⟨r1_z, cr1_z, h⟩ := w_b1E h
  refine g_callI (J := jX b kc T) (m_runV calV_X2_tellChange wd_961 (g_Holding_tellChange l D kc b T S x1 v1 hx1 x2 v2 hx2 hS cr1_z) C hM (i := 183) (by omega) (e_183 b kc T S) rfl hl.1 rfl rfl (Nat.le_of_ble_eq_true rfl) dX11_unasked_6 ⟨Nat.le_of_ble_eq_true rfl, Nat.le_of_ble_eq_true rfl⟩ ⟨Nat.le_of_ble_eq_true rfl, Nat.le_of_ble_eq_true rfl⟩) hM (fun z2_z H locs bz2_z hM hS => ?_)
  exact ret S _ _ _ _ z2_z (bz2_z.trans (Option.some.inj h)) rfl hM hS dX11_unasked_9

def f_MP_distance (S : SS) (v1 : Int) (v2 : Int) : Option (Int × SS) := w_lt (f_MP_sheetOf S v1) (fun o1_z => w_lt (f_MP_sheetOf S v2) (fun o3_z => w_on o1_z (some ((-2), S)) (fun q5_z => w_chk (shOk q5_z) (w_on o3_z (some ((-2), S)) (fun q6_z => w_chk (shOk q6_z) (w_b2 (f_Ruler_measure S q5_z 0 q6_z 0 300) (fun r8_z S7_z => some (r8_z, S7_z))))))))
set_option maxHeartbeats 4000000 in
set_option maxRecDepth 100000 in
theorem g_MP_distance (l : Launch) (D : va_G) (kc : Nat → ClassId) (b : Nat) (T S : SS) (x1 : Int32) (v1 : Int) (hx1 : x1.toInt = v1) (x2 : Int32) (v2 : Int) (hx2 : x2.toInt = v2) (hS : rng S) {vr : Int} {Sr : SS} (h : f_MP_distance S v1 v2 = some (vr, Sr)) : cI l yX11_distance cX11_distance 5 .int 4 D kc b (jX b kc T) S [.ref (b + 0), .int x1, .int x2] vr Sr := by
  refine g_beg_i (by decide) (Nat.le_of_ble_eq_true rfl) ?_
  intro p e s m args below meth c Q C ret hM ls hl
  obtain ⟨hx, hb, hml, hown, hts, hE, hbs⟩ := id C
  have hl : lv_has ls 5 [(0, .ref (b + 0)), (1, .int x1), (2, .int x2)] := hl
  unfold f_MP_distance at h
  refine lv_aload_n hx hb dX11_distance_0 rfl (lv_at hl 0 rfl) ?_
  refine lv_iload_n hx hb dX11_distance_1 rfl (lv_at hl 1 rfl) ?_
  obtain ⟨o1_z, co1_z, h⟩ := w_ltE h
  refine g_callQ (J := jX b kc T) (m_runV calV_X11_sheetOf wd_845 (g_MP_sheetOf l D kc b T S x1 v1 hx1 hS co1_z.symm) C hM (i := 0) (by omega) (e_0 b kc T S) rfl hl.1 rfl rfl (Nat.le_of_ble_eq_true rfl) dX11_distance_2 ⟨Nat.le_of_ble_eq_true rfl, Nat.le_of_ble_eq_true rfl⟩ ⟨Nat.le_of_ble_eq_true rfl, Nat.le_of_ble_eq_true rfl⟩) hM (fun z2_z H locs bz2_z hM hS => ?_)
  subst bz2_z
  refine lv_astore_nq (lv' := [(3, va_rf (os b o1_z)), (0, .ref (b + 0)), (1, .int x1), (2, .int x2)]) hx hb dX11_distance_5 rfl hl (by decide) rfl (fun ls hl => ?_)
  refine lv_aload_n hx hb dX11_distance_6 rfl (lv_at hl 1 rfl) ?_
  refine lv_iload_n hx hb dX11_distance_7 rfl (lv_at hl 3 rfl) ?_
  obtain ⟨o3_z, co3_z, h⟩ := w_ltE h
  refine g_callQ (J := jX b kc T) (m_runV calV_X11_sheetOf wd_845 (g_MP_sheetOf l D kc b T S x2 v2 hx2 hS co3_z.symm) C hM (i := 0) (by omega) (e_0 b kc T S) rfl hl.1 rfl rfl (Nat.le_of_ble_eq_true rfl) dX11_distance_8 ⟨Nat.le_of_ble_eq_true rfl, Nat.le_of_ble_eq_true rfl⟩ ⟨Nat.le_of_ble_eq_true rfl, Nat.le_of_ble_eq_true rfl⟩) hM (fun z4_z H locs bz4_z hM hS => ?_)
  subst bz4_z
  refine lv_astoreq (lv' := [(4, va_rf (os b o3_z)), (3, va_rf (os b o1_z)), (0, .ref (b + 0)), (1, .int x1), (2, .int x2)]) hx hb dX11_distance_11 hl (by decide) (by simp [cat_rf]) (fun ls hl => ?_)
  refine lv_aload_nq hx hb dX11_distance_13 rfl (lv_at hl 1 rfl) ?_
  cases o1_z with
  | none =>
    replace h := w_onN h
    have hl : lv_has ls 5 [(4, va_rf (os b o3_z)), (3, .null), (0, .ref (b + 0)), (1, .int x1), (2, .int x2)] := hl
    refine lv_ifnullN (tgt := 22) hx hb dX11_distance_14 (by decide) ?_
    refine lv_bipush (v := (-2)) hx hb dX11_distance_22 (by decide) ?_
    exact ret S _ _ _ _ (-2) ((show ((-2) : Int32).toInt = (-2) by decide).trans (r_1 h)) (r_2 h) hM hS dX11_distance_24
  | some q5_z =>
    obtain ⟨hq5_z, h⟩ := w_chkE (w_onS h)
    have hl : lv_has ls 5 [(4, va_rf (os b o3_z)), (3, .ref (b + q5_z)), (0, .ref (b + 0)), (1, .int x1), (2, .int x2)] := hl
    refine lv_ifnull hx hb dX11_distance_14 ?_
    refine lv_aloadq hx hb dX11_distance_17 (lv_at hl 0 rfl) ?_
    cases o3_z with
    | none =>
      replace h := w_onN h
      have hl : lv_has ls 5 [(4, .null), (3, .ref (b + q5_z)), (0, .ref (b + 0)), (1, .int x1), (2, .int x2)] := hl
      refine lv_ifnonnullN hx hb dX11_distance_19 ?_
      refine lv_bipush (v := (-2)) hx hb dX11_distance_22 (by decide) ?_
      exact ret S _ _ _ _ (-2) ((show ((-2) : Int32).toInt = (-2) by decide).trans (r_1 h)) (r_2 h) hM hS dX11_distance_24
    | some q6_z =>
      obtain ⟨hq6_z, h⟩ := w_chkE (w_onS h)
      have hl : lv_has ls 5 [(4, .ref (b + q6_z)), (3, .ref (b + q5_z)), (0, .ref (b + 0)), (1, .int x1), (2, .int x2)] := hl
      refine lv_ifnonnull (tgt := 25) hx hb dX11_distance_19 (by decide) ?_
      refine lv_aload_n hx hb dX11_distance_25 rfl (lv_at hl 2 rfl) ?_
      refine m_get fl_X11_69_X11 C hM (i := 0) (by omega) (e_0 b kc T S) (v := .ref (b + 181)) rfl dX11_distance_26 ?_
      refine lv_aload_n hx hb dX11_distance_29 rfl (lv_at hl 1 rfl) ?_
      refine lv_iconst (v := 0) hx hb dX11_distance_30 (by decide) ?_
      refine lv_aload hx hb dX11_distance_31 (lv_at hl 0 rfl) ?_
      refine lv_iconst (v := 0) hx hb dX11_distance_33 (by decide) ?_
      refine lv_sipush (v := 300) hx hb dX11_distance_34 (by decide) ?_
      obtain ⟨r8_z, S7_z, cr8_z, h⟩ := w_b2E h
      refine g_callI (J := jX b kc T) (m_runV calV_X6_measure wd_969 (g_Ruler_measure l D kc b T S q5_z hq5_z 0 0 (show (0 : Int32).toInt = 0 by decide) q6_z hq6_z 0 0 (show (0 : Int32).toInt = 0 by decide) 300 300 (show (300 : Int32).toInt = 300 by decide) hS cr8_z) C hM (i := 181) (by omega) (e_181 b kc T S) rfl hl.1 rfl rfl (Nat.le_of_ble_eq_true rfl) dX11_distance_37 ⟨Nat.le_of_ble_eq_true rfl, Nat.le_of_ble_eq_true rfl⟩ ⟨Nat.le_of_ble_eq_true rfl, Nat.le_of_ble_eq_true rfl⟩) hM (fun z9_z H locs bz9_z hM hS => ?_)
      exact ret S7_z _ _ _ _ z9_z (bz9_z.trans (r_1 h)) (r_2 h) hM hS dX11_distance_40

def f_MP_error (S : SS) (v1 : Int) (v2 : Int) : Option (Int × SS) := w_b1 (f_Pile_findNoStet S v1) (fun o1_z => w_on o1_z (some ((-2), S)) (fun j3_z => w_chk (j3_z < 40) (w_chk (v2 = 0 ∨ v2 = 1) (w_lt (si S (14 + 4 * j3_z) 9 v2) (fun S6_z => (if gi S (14 + 4 * j3_z) 9 = v2 then some (0, S6_z) else some (1, S6_z)))))))
set_option maxHeartbeats 4000000 in
set_option maxRecDepth 100000 in
theorem g_MP_error (l : Launch) (D : va_G) (kc : Nat → ClassId) (b : Nat) (T S : SS) (x1 : Int32) (v1 : Int) (hx1 : x1.toInt = v1) (x2 : Int32) (v2 : Int) (hx2 : x2.toInt = v2) (hS : rng S) {vr : Int} {Sr : SS} (h : f_MP_error S v1 v2 = some (vr, Sr)) : cI l yX11_error cX11_error 5 .int 4 D kc b (jX b kc T) S [.ref (b + 0), .int x1, .int x2] vr Sr := by
  refine g_beg_i (by decide) (Nat.le_of_ble_eq_true rfl) ?_
  intro p e s m args below meth c Q C ret hM ls hl
  obtain ⟨hx, hb, hml, hown, hts, hE, hbs⟩ := id C
  have hl : lv_has ls 5 [(0, .ref (b + 0)), (1, .int x1), (2, .int x2)] := hl
  unfold f_MP_error at h
  refine lv_aload_n hx hb dX11_error_0 rfl (lv_at hl 0 rfl) ?_
  refine m_get fl_X11_41_X11 C hM (i := 0) (by omega) (e_0 b kc T S) (v := .ref (b + 10)) rfl dX11_error_1 ?_
  refine lv_iload_n hx hb dX11_error_4 rfl (lv_at hl 1 rfl) ?_
  obtain ⟨o1_z, co1_z, h⟩ := w_b1E h
  refine g_callQ (J := jX b kc T) (m_runV calV_X5_findNoStet wd_881 (g_Pile_findNoStet l D kc b T S x1 v1 hx1 hS co1_z) C hM (i := 10) (by omega) (e_10 b kc T S) rfl hl.1 rfl rfl (Nat.le_of_ble_eq_true rfl) dX11_error_5 ⟨Nat.le_of_ble_eq_true rfl, Nat.le_of_ble_eq_true rfl⟩ ⟨Nat.le_of_ble_eq_true rfl, Nat.le_of_ble_eq_true rfl⟩) hM (fun z2_z H locs bz2_z hM hS => ?_)
  subst bz2_z
  refine lv_astore_nq (lv' := [(3, va_rf (om b o1_z)), (0, .ref (b + 0)), (1, .int x1), (2, .int x2)]) hx hb dX11_error_8 rfl hl (by decide) rfl (fun ls hl => ?_)
  refine lv_aload_nq hx hb dX11_error_9 rfl (lv_at hl 0 rfl) ?_
  cases o1_z with
  | none =>
    replace h := w_onN h
    have hl : lv_has ls 5 [(3, .null), (0, .ref (b + 0)), (1, .int x1), (2, .int x2)] := hl
    refine lv_ifnonnullN hx hb dX11_error_10 ?_
    refine lv_bipush (v := (-2)) hx hb dX11_error_13 (by decide) ?_
    exact ret S _ _ _ _ (-2) ((show ((-2) : Int32).toInt = (-2) by decide).trans (r_1 h)) (r_2 h) hM hS dX11_error_15
  | some j3_z =>
    obtain ⟨hj3_z, h⟩ := w_chkE (w_onS h)
    have hl : lv_has ls 5 [(3, .ref (b + (14 + 4 * j3_z))), (0, .ref (b + 0)), (1, .int x1), (2, .int x2)] := hl
    refine lv_ifnonnull (tgt := 16) hx hb dX11_error_10 (by decide) ?_
    refine lv_aload_n hx hb dX11_error_16 rfl (lv_at hl 0 rfl) ?_
    refine g_getN fl_X11_197_X3 C hM (i := 14 + 4 * j3_z) (r := 14 + 4 * j3_z) (by omega) (e_mk b kc T S hj3_z) rfl hS dX11_error_17 (fun z4_z bz4_z => ?_)
    refine lv_istore (lv' := [(4, .int z4_z), (3, .ref (b + (14 + 4 * j3_z))), (0, .ref (b + 0)), (1, .int x1), (2, .int x2)]) hx hb dX11_error_20 hl (by decide) rfl (fun ls hl => ?_)
    refine lv_aload_n hx hb dX11_error_22 rfl (lv_at hl 1 rfl) ?_
    refine lv_iload_n hx hb dX11_error_23 rfl (lv_at hl 4 rfl) ?_
    obtain ⟨c5_z, h⟩ := w_chkE h
    refine g_putN fl_X11_197_X3 C hM (i := 14 + 4 * j3_z) (by omega) (e_mk b kc T S hj3_z) (z_nar hx2 c5_z) (z_fit hx2 c5_z) (Nat.le_of_ble_eq_true rfl) (fs1 := [.ref (b + (14 + 4 * j3_z + 1)), .ref (b + (14 + 4 * j3_z + 2)), .int (oi (gi S (14 + 4 * j3_z) 2)), .int (oi (gi S (14 + 4 * j3_z) 3)), .int (oi (gi S (14 + 4 * j3_z) 4)), .int (oi (gi S (14 + 4 * j3_z) 5)), .int (oi (gi S (14 + 4 * j3_z) 6)), .int (oi (gi S (14 + 4 * j3_z) 7)), .int (oi (gi S (14 + 4 * j3_z) 8)), .int x2, .int (oi (gi S (14 + 4 * j3_z) 10)), .int (oi (gi S (14 + 4 * j3_z) 11)), .int (oi (gi S (14 + 4 * j3_z) 12))]) rfl (p_mk_9 hj3_z hx2) (rng_si hS (i32_of hx2)) h dX11_error_24 (fun S6_z H locs h hM hS => ?_)
    refine lv_iload hx hb dX11_error_27 (lv_at hl 0 rfl) ?_
    refine lv_iload_n hx hb dX11_error_29 rfl (lv_at hl 4 rfl) ?_
    refine g_icmp_ne (tgt := 37) hx hb bz4_z hx2 h dX11_error_30 (by decide) (fun h => ?_) (fun h => ?_)
    · refine lv_iconst (v := 1) hx hb dX11_error_37 (by decide) ?_
      exact ret S6_z _ _ _ _ 1 ((show (1 : Int32).toInt = 1 by decide).trans (r_1 h)) (r_2 h) hM hS dX11_error_38
    · refine lv_iconst (v := 0) hx hb dX11_error_33 (by decide) ?_
      refine lv_goto (tgt := 38) hx hb dX11_error_34 (by decide) ?_
      exact ret S6_z _ _ _ _ 0 ((show (0 : Int32).toInt = 0 by decide).trans (r_1 h)) (r_2 h) hM hS dX11_error_38

def f_MP_price (S : SS) (v1 : Int) (v2 : Int) : Option (Int × SS) := (if v1 < 0 then some ((-2), S) else (if 5 ≤ v1 then some ((-2), S) else (if v2 < 0 then some ((-2), S) else (if v2 ≤ 999 then w_b2 (f_Bill_setPrice S v1 v2) (fun r2_z S1_z => some (r2_z, S1_z)) else some ((-2), S)))))
set_option maxHeartbeats 4000000 in
set_option maxRecDepth 100000 in
theorem g_MP_price (l : Launch) (D : va_G) (kc : Nat → ClassId) (b : Nat) (T S : SS) (x1 : Int32) (v1 : Int) (hx1 : x1.toInt = v1) (x2 : Int32) (v2 : Int) (hx2 : x2.toInt = v2) (hS : rng S) {vr : Int} {Sr : SS} (h : f_MP_price S v1 v2 = some (vr, Sr)) : cI l yX11_price cX11_price 3 .int 3 D kc b (jX b kc T) S [.ref (b + 0), .int x1, .int x2] vr Sr := by
  refine g_beg_i (by decide) (Nat.le_of_ble_eq_true rfl) ?_
  intro p e s m args below meth c Q C ret hM ls hl
  obtain ⟨hx, hb, hml, hown, hts, hE, hbs⟩ := id C
  have hl : lv_has ls 3 [(0, .ref (b + 0)), (1, .int x1), (2, .int x2)] := hl
  unfold f_MP_price at h
  refine lv_iload_n hx hb dX11_price_0 rfl (lv_at hl 1 rfl) ?_
  refine g_if_lt (tgt := 20) hx hb hx1 h dX11_price_1 (by decide) (fun h => ?_) (fun h => ?_)
  · refine lv_bipush (v := (-2)) hx hb dX11_price_20 (by decide) ?_
    exact ret S _ _ _ _ (-2) ((show ((-2) : Int32).toInt = (-2) by decide).trans (r_1 h)) (r_2 h) hM hS dX11_price_22
  · refine lv_iload_n hx hb dX11_price_4 rfl (lv_at hl 1 rfl) ?_
    refine lv_iconst (v := 5) hx hb dX11_price_5 (by decide) ?_
    refine g_icmp_ge (tgt := 20) hx hb hx1 (show (5 : Int32).toInt = 5 by decide) h dX11_price_6 (by decide) (fun h => ?_) (fun h => ?_)
    · refine lv_bipush (v := (-2)) hx hb dX11_price_20 (by decide) ?_
      exact ret S _ _ _ _ (-2) ((show ((-2) : Int32).toInt = (-2) by decide).trans (r_1 h)) (r_2 h) hM hS dX11_price_22
    · refine lv_iload_n hx hb dX11_price_9 rfl (lv_at hl 2 rfl) ?_
      refine g_if_lt (tgt := 20) hx hb hx2 h dX11_price_10 (by decide) (fun h => ?_) (fun h => ?_)
      · refine lv_bipush (v := (-2)) hx hb dX11_price_20 (by decide) ?_
        exact ret S _ _ _ _ (-2) ((show ((-2) : Int32).toInt = (-2) by decide).trans (r_1 h)) (r_2 h) hM hS dX11_price_22
      · refine lv_iload_n hx hb dX11_price_13 rfl (lv_at hl 2 rfl) ?_
        refine lv_sipush (v := 999) hx hb dX11_price_14 (by decide) ?_
        refine g_icmp_le (tgt := 23) hx hb hx2 (show (999 : Int32).toInt = 999 by decide) h dX11_price_17 (by decide) (fun h => ?_) (fun h => ?_)
        · refine lv_aload_n hx hb dX11_price_23 rfl (lv_at hl 0 rfl) ?_
          refine m_get fl_X11_83_X11 C hM (i := 0) (by omega) (e_0 b kc T S) (v := .ref (b + 190)) rfl dX11_price_24 ?_
          refine lv_iload_n hx hb dX11_price_27 rfl (lv_at hl 1 rfl) ?_
          refine lv_iload_n hx hb dX11_price_28 rfl (lv_at hl 2 rfl) ?_
          obtain ⟨r2_z, S1_z, cr2_z, h⟩ := w_b2E h
          refine g_callI (J := jX b kc T) (m_runV calV_X0_setPrice wd_983 (g_Bill_setPrice l D kc b T S x1 v1 hx1 x2 v2 hx2 hS cr2_z) C hM (i := 190) (by omega) (e_190 b kc T S) rfl hl.1 rfl rfl (Nat.le_of_ble_eq_true rfl) dX11_price_29 ⟨Nat.le_of_ble_eq_true rfl, Nat.le_of_ble_eq_true rfl⟩ ⟨Nat.le_of_ble_eq_true rfl, Nat.le_of_ble_eq_true rfl⟩) hM (fun z3_z H locs bz3_z hM hS => ?_)
          exact ret S1_z _ _ _ _ z3_z (bz3_z.trans (r_1 h)) (r_2 h) hM hS dX11_price_32
        · refine lv_bipush (v := (-2)) hx hb dX11_price_20 (by decide) ?_
          exact ret S _ _ _ _ (-2) ((show ((-2) : Int32).toInt = (-2) by decide).trans (r_1 h)) (r_2 h) hM hS dX11_price_22

def f_MP_pays_30 (S : SS) (v1 : Int) (vt0_ : Int) : Option Int := w_b1 (f_Bill_sum S vt0_) (fun r1_z => some r1_z)
def f_MP_pays_12 (S : SS) (v1 : Int) : Option Int := (if v1 = 1 then f_MP_pays_30 S v1 1 else f_MP_pays_30 S v1 0)
def f_MP_pays (S : SS) (v1 : Int) : Option Int := (if v1 = 0 then f_MP_pays_12 S v1  else (if v1 = 1 then f_MP_pays_12 S v1  else some (-2)))
set_option maxHeartbeats 4000000 in
set_option maxRecDepth 100000 in
theorem g_MP_pays (l : Launch) (D : va_G) (kc : Nat → ClassId) (b : Nat) (T S : SS) (x1 : Int32) (v1 : Int) (hx1 : x1.toInt = v1) (hS : rng S) {vr : Int} (h : f_MP_pays S v1 = some vr) : cI l yX11_pays cX11_pays 2 .int 4 D kc b (jX b kc T) S [.ref (b + 0), .int x1] vr S := by
  refine g_beg_i (by decide) (Nat.le_of_ble_eq_true rfl) ?_
  intro p e s m args below meth c Q C ret hM ls hl
  obtain ⟨hx, hb, hml, hown, hts, hE, hbs⟩ := id C
  have hl : lv_has ls 2 [(0, .ref (b + 0)), (1, .int x1)] := hl
  unfold f_MP_pays at h
  have B30 : ∀ (H : Heap) (locs : List Loc) (ls : Array Slot) (xt0_ : Int32) (vt0_ : Int) (hxt0_ : xt0_.toInt = vt0_), rng S → mS D b s 220 (jX b kc T S) H locs → lv_has ls 2 [] → f_MP_pays_30 S v1 vt0_ = some vr → W p l e (mR 4 0 0) s m args below meth c H locs 0 0 Q (F0 m 30 ls [.int xt0_, .ref (b + 10), .ref (b + 190)]) := by
    intro H locs ls xt0_ vt0_ hxt0_ hS hM hl h
    unfold f_MP_pays_30 at h
    obtain ⟨r1_z, cr1_z, h⟩ := w_b1E h
    refine g_callI (J := jX b kc T) (m_runV calV_X0_sum wd_995 (g_Bill_sum l D kc b T S xt0_ vt0_ hxt0_ hS cr1_z) C hM (i := 190) (by omega) (e_190 b kc T S) rfl hl.1 rfl rfl (Nat.le_of_ble_eq_true rfl) dX11_pays_30 ⟨Nat.le_of_ble_eq_true rfl, Nat.le_of_ble_eq_true rfl⟩ ⟨Nat.le_of_ble_eq_true rfl, Nat.le_of_ble_eq_true rfl⟩) hM (fun z2_z H locs bz2_z hM hS => ?_)
    exact ret S _ _ _ _ z2_z (bz2_z.trans (Option.some.inj h)) rfl hM hS dX11_pays_33
  have B12 : ∀ (H : Heap) (locs : List Loc) (ls : Array Slot), rng S → mS D b s 220 (jX b kc T S) H locs → lv_has ls 2 [(0, .ref (b + 0)), (1, .int x1)] → f_MP_pays_12 S v1 = some vr → W p l e (mR 4 0 0) s m args below meth c H locs 0 0 Q (F0 m 12 ls []) := by
    intro H locs ls hS hM hl h
    unfold f_MP_pays_12 at h
    refine lv_aload_n hx hb dX11_pays_12 rfl (lv_at hl 0 rfl) ?_
    refine m_get fl_X11_83_X11 C hM (i := 0) (by omega) (e_0 b kc T S) (v := .ref (b + 190)) rfl dX11_pays_13 ?_
    refine lv_aload_n hx hb dX11_pays_16 rfl (lv_at hl 0 rfl) ?_
    refine m_get fl_X11_41_X11 C hM (i := 0) (by omega) (e_0 b kc T S) (v := .ref (b + 10)) rfl dX11_pays_17 ?_
    refine lv_iload_n hx hb dX11_pays_20 rfl (lv_at hl 1 rfl) ?_
    refine lv_iconst (v := 1) hx hb dX11_pays_21 (by decide) ?_
    refine g_icmp_ne (tgt := 29) hx hb hx1 (show (1 : Int32).toInt = 1 by decide) h dX11_pays_22 (by decide) (fun h => ?_) (fun h => ?_)
    · refine lv_iconst (v := 0) hx hb dX11_pays_29 (by decide) ?_
      exact B30 _ _ _ 0 0 (show (0 : Int32).toInt = 0 by decide) hS hM (lv_sub hl [] rfl) h
    · refine lv_iconst (v := 1) hx hb dX11_pays_25 (by decide) ?_
      refine lv_goto (tgt := 30) hx hb dX11_pays_26 (by decide) ?_
      exact B30 _ _ _ 1 1 (show (1 : Int32).toInt = 1 by decide) hS hM (lv_sub hl [] rfl) h
  refine lv_iload_n hx hb dX11_pays_0 rfl (lv_at hl 1 rfl) ?_
  refine g_if_eq (tgt := 12) hx hb hx1 h dX11_pays_1 (by decide) (fun h => ?_) (fun h => ?_)
  · exact B12 _ _ _ hS hM (lv_sub hl [0, 1] rfl) h
  · refine lv_iload_n hx hb dX11_pays_4 rfl (lv_at hl 1 rfl) ?_
    refine lv_iconst (v := 1) hx hb dX11_pays_5 (by decide) ?_
    refine g_icmp_eq (tgt := 12) hx hb hx1 (show (1 : Int32).toInt = 1 by decide) h dX11_pays_6 (by decide) (fun h => ?_) (fun h => ?_)
    · exact B12 _ _ _ hS hM (lv_sub hl [0, 1] rfl) h
    · refine lv_bipush (v := (-2)) hx hb dX11_pays_9 (by decide) ?_
      exact ret S _ _ _ _ (-2) ((show ((-2) : Int32).toInt = (-2) by decide).trans (Option.some.inj h)) rfl hM hS dX11_pays_11

def f_MP_count (S : SS) (v1 : Int) : Option Int := (if v1 = 0 then w_b1 (f_MP_sizeOf S v1) (fun r2_z => some r2_z) else (if v1 = 1 then w_b1 (f_MP_sizeOf S v1) (fun r5_z => some r5_z) else (if v1 = 2 then w_b1 (f_MP_sizeOf S v1) (fun r8_z => some r8_z) else (if v1 = 3 then some (gi S 10 3) else (if v1 = 4 then w_b1 (f_Pile_tally S 0) (fun r13_z => w_b1 (f_Pile_tally S 1) (fun r15_z => w_chk (i32 (r13_z + r15_z)) (some (r13_z + r15_z)))) else (if v1 = 5 then w_b1 (f_Pile_tally S 0) (fun r19_z => some r19_z) else (if v1 = 6 then w_b1 (f_Pile_tally S 1) (fun r22_z => some r22_z) else (if v1 = 7 then w_b1 (f_Pile_tally S 2) (fun r25_z => some r25_z) else (if v1 = 8 then w_b1 (f_Pile_tally S 3) (fun r28_z => some r28_z) else (if v1 = 9 then some (gi S 1 1) else (if v1 = 10 then w_chk (i32 (v1 - 10)) (w_b1 (f_Pile_rankOf S (v1 - 10)) (fun r34_z => some r34_z)) else (if v1 = 11 then w_chk (i32 (v1 - 10)) (w_b1 (f_Pile_rankOf S (v1 - 10)) (fun r38_z => some r38_z)) else (if v1 = 12 then w_chk (i32 (v1 - 10)) (w_b1 (f_Pile_rankOf S (v1 - 10)) (fun r42_z => some r42_z)) else some (-1))))))))))))))
set_option maxHeartbeats 4000000 in
set_option maxRecDepth 100000 in
theorem g_MP_count (l : Launch) (D : va_G) (kc : Nat → ClassId) (b : Nat) (T S : SS) (x1 : Int32) (v1 : Int) (hx1 : x1.toInt = v1) (hS : rng S) {vr : Int} (h : f_MP_count S v1 = some vr) : cI l yX11_count cX11_count 2 .int 4 D kc b (jX b kc T) S [.ref (b + 0), .int x1] vr S := by
  refine g_beg_i (by decide) (Nat.le_of_ble_eq_true rfl) ?_
  intro p e s m args below meth c Q C ret hM ls hl
  obtain ⟨hx, hb, hml, hown, hts, hE, hbs⟩ := id C
  have hl : lv_has ls 2 [(0, .ref (b + 0)), (1, .int x1)] := hl
  unfold f_MP_count at h
  refine lv_iload_n hx hb dX11_count_0 rfl (lv_at hl 1 rfl) ?_
  by_cases c1_z : v1 = 0
  · replace h := w_it c1_z h
    refine lv_tableIn (tgt := 68) hx hb dX11_count_1 (by rw [hx1, c1_z]; decide) (by rw [hx1, c1_z]; decide) (by rw [hx1, c1_z]; rfl) (by decide) ?_
    refine lv_aload_n hx hb dX11_count_68 rfl (lv_at hl 0 rfl) ?_
    refine lv_iload_n hx hb dX11_count_69 rfl (lv_at hl 1 rfl) ?_
    obtain ⟨r2_z, cr2_z, h⟩ := w_b1E h
    refine g_callI (J := jX b kc T) (m_runV calV_X11_sizeOf wd_1005 (g_MP_sizeOf l D kc b T S x1 v1 hx1 hS cr2_z) C hM (i := 0) (by omega) (e_0 b kc T S) rfl hl.1 rfl rfl (Nat.le_of_ble_eq_true rfl) dX11_count_70 ⟨Nat.le_of_ble_eq_true rfl, Nat.le_of_ble_eq_true rfl⟩ ⟨Nat.le_of_ble_eq_true rfl, Nat.le_of_ble_eq_true rfl⟩) hM (fun z3_z H locs bz3_z hM hS => ?_)
    exact ret S _ _ _ _ z3_z (bz3_z.trans (Option.some.inj h)) rfl hM hS dX11_count_73
  replace h := w_if c1_z h
  by_cases c4_z : v1 = 1
  · replace h := w_it c4_z h
    refine lv_tableIn (tgt := 68) hx hb dX11_count_1 (by rw [hx1, c4_z]; decide) (by rw [hx1, c4_z]; decide) (by rw [hx1, c4_z]; rfl) (by decide) ?_
    refine lv_aload_n hx hb dX11_count_68 rfl (lv_at hl 0 rfl) ?_
    refine lv_iload_n hx hb dX11_count_69 rfl (lv_at hl 1 rfl) ?_
    obtain ⟨r5_z, cr5_z, h⟩ := w_b1E h
    refine g_callI (J := jX b kc T) (m_runV calV_X11_sizeOf wd_1005 (g_MP_sizeOf l D kc b T S x1 v1 hx1 hS cr5_z) C hM (i := 0) (by omega) (e_0 b kc T S) rfl hl.1 rfl rfl (Nat.le_of_ble_eq_true rfl) dX11_count_70 ⟨Nat.le_of_ble_eq_true rfl, Nat.le_of_ble_eq_true rfl⟩ ⟨Nat.le_of_ble_eq_true rfl, Nat.le_of_ble_eq_true rfl⟩) hM (fun z6_z H locs bz6_z hM hS => ?_)
    exact ret S _ _ _ _ z6_z (bz6_z.trans (Option.some.inj h)) rfl hM hS dX11_count_73
  replace h := w_if c4_z h
  by_cases c7_z : v1 = 2
  · replace h := w_it c7_z h
    refine lv_tableIn (tgt := 68) hx hb dX11_count_1 (by rw [hx1, c7_z]; decide) (by rw [hx1, c7_z]; decide) (by rw [hx1, c7_z]; rfl) (by decide) ?_
    refine lv_aload_n hx hb dX11_count_68 rfl (lv_at hl 0 rfl) ?_
    refine lv_iload_n hx hb dX11_count_69 rfl (lv_at hl 1 rfl) ?_
    obtain ⟨r8_z, cr8_z, h⟩ := w_b1E h
    refine g_callI (J := jX b kc T) (m_runV calV_X11_sizeOf wd_1005 (g_MP_sizeOf l D kc b T S x1 v1 hx1 hS cr8_z) C hM (i := 0) (by omega) (e_0 b kc T S) rfl hl.1 rfl rfl (Nat.le_of_ble_eq_true rfl) dX11_count_70 ⟨Nat.le_of_ble_eq_true rfl, Nat.le_of_ble_eq_true rfl⟩ ⟨Nat.le_of_ble_eq_true rfl, Nat.le_of_ble_eq_true rfl⟩) hM (fun z9_z H locs bz9_z hM hS => ?_)
    exact ret S _ _ _ _ z9_z (bz9_z.trans (Option.some.inj h)) rfl hM hS dX11_count_73
  replace h := w_if c7_z h
  by_cases c10_z : v1 = 3
  · replace h := w_it c10_z h
    refine lv_tableIn (tgt := 74) hx hb dX11_count_1 (by rw [hx1, c10_z]; decide) (by rw [hx1, c10_z]; decide) (by rw [hx1, c10_z]; rfl) (by decide) ?_
    refine lv_aload_n hx hb dX11_count_74 rfl (lv_at hl 0 rfl) ?_
    refine m_get fl_X11_41_X11 C hM (i := 0) (by omega) (e_0 b kc T S) (v := .ref (b + 10)) rfl dX11_count_75 ?_
    refine g_getN fl_X11_210_X5 C hM (i := 10) (r := 10) (by omega) (e_10 b kc T S) rfl hS dX11_count_78 (fun z11_z bz11_z => ?_)
    exact ret S _ _ _ _ z11_z (bz11_z.trans (Option.some.inj h)) rfl hM hS dX11_count_81
  replace h := w_if c10_z h
  by_cases c12_z : v1 = 4
  · replace h := w_it c12_z h
    refine lv_tableIn (tgt := 82) hx hb dX11_count_1 (by rw [hx1, c12_z]; decide) (by rw [hx1, c12_z]; decide) (by rw [hx1, c12_z]; rfl) (by decide) ?_
    refine lv_aload_n hx hb dX11_count_82 rfl (lv_at hl 0 rfl) ?_
    refine m_get fl_X11_41_X11 C hM (i := 0) (by omega) (e_0 b kc T S) (v := .ref (b + 10)) rfl dX11_count_83 ?_
    refine lv_iconst (v := 0) hx hb dX11_count_86 (by decide) ?_
    obtain ⟨r13_z, cr13_z, h⟩ := w_b1E h
    refine g_callI (J := jX b kc T) (m_runV calV_X5_tally wd_1009 (g_Pile_tally l D kc b T S 0 0 (show (0 : Int32).toInt = 0 by decide) hS cr13_z) C hM (i := 10) (by omega) (e_10 b kc T S) rfl hl.1 rfl rfl (Nat.le_of_ble_eq_true rfl) dX11_count_87 ⟨Nat.le_of_ble_eq_true rfl, Nat.le_of_ble_eq_true rfl⟩ ⟨Nat.le_of_ble_eq_true rfl, Nat.le_of_ble_eq_true rfl⟩) hM (fun z14_z H locs bz14_z hM hS => ?_)
    refine lv_aload_n hx hb dX11_count_90 rfl (lv_at hl 0 rfl) ?_
    refine m_get fl_X11_41_X11 C hM (i := 0) (by omega) (e_0 b kc T S) (v := .ref (b + 10)) rfl dX11_count_91 ?_
    refine lv_iconst (v := 1) hx hb dX11_count_94 (by decide) ?_
    obtain ⟨r15_z, cr15_z, h⟩ := w_b1E h
    refine g_callI (J := jX b kc T) (m_runV calV_X5_tally wd_1009 (g_Pile_tally l D kc b T S 1 1 (show (1 : Int32).toInt = 1 by decide) hS cr15_z) C hM (i := 10) (by omega) (e_10 b kc T S) rfl hl.1 rfl rfl (Nat.le_of_ble_eq_true rfl) dX11_count_95 ⟨Nat.le_of_ble_eq_true rfl, Nat.le_of_ble_eq_true rfl⟩ ⟨Nat.le_of_ble_eq_true rfl, Nat.le_of_ble_eq_true rfl⟩) hM (fun z16_z H locs bz16_z hM hS => ?_)
    refine g_iadd hx hb bz14_z bz16_z h dX11_count_98 (fun z17_z bz17_z h => ?_)
    exact ret S _ _ _ _ z17_z (bz17_z.trans (Option.some.inj h)) rfl hM hS dX11_count_99
  replace h := w_if c12_z h
  by_cases c18_z : v1 = 5
  · replace h := w_it c18_z h
    refine lv_tableIn (tgt := 100) hx hb dX11_count_1 (by rw [hx1, c18_z]; decide) (by rw [hx1, c18_z]; decide) (by rw [hx1, c18_z]; rfl) (by decide) ?_
    refine lv_aload_n hx hb dX11_count_100 rfl (lv_at hl 0 rfl) ?_
    refine m_get fl_X11_41_X11 C hM (i := 0) (by omega) (e_0 b kc T S) (v := .ref (b + 10)) rfl dX11_count_101 ?_
    refine lv_iconst (v := 0) hx hb dX11_count_104 (by decide) ?_
    obtain ⟨r19_z, cr19_z, h⟩ := w_b1E h
    refine g_callI (J := jX b kc T) (m_runV calV_X5_tally wd_1009 (g_Pile_tally l D kc b T S 0 0 (show (0 : Int32).toInt = 0 by decide) hS cr19_z) C hM (i := 10) (by omega) (e_10 b kc T S) rfl hl.1 rfl rfl (Nat.le_of_ble_eq_true rfl) dX11_count_105 ⟨Nat.le_of_ble_eq_true rfl, Nat.le_of_ble_eq_true rfl⟩ ⟨Nat.le_of_ble_eq_true rfl, Nat.le_of_ble_eq_true rfl⟩) hM (fun z20_z H locs bz20_z hM hS => ?_)
    exact ret S _ _ _ _ z20_z (bz20_z.trans (Option.some.inj h)) rfl hM hS dX11_count_108
  replace h := w_if c18_z h
  by_cases c21_z : v1 = 6
  · replace h := w_it c21_z h
    refine lv_tableIn (tgt := 109) hx hb dX11_count_1 (by rw [hx1, c21_z]; decide) (by rw [hx1, c21_z]; decide) (by rw [hx1, c21_z]; rfl) (by decide) ?_
    refine lv_aload_n hx hb dX11_count_109 rfl (lv_at hl 0 rfl) ?_
    refine m_get fl_X11_41_X11 C hM (i := 0) (by omega) (e_0 b kc T S) (v := .ref (b + 10)) rfl dX11_count_110 ?_
    refine lv_iconst (v := 1) hx hb dX11_count_113 (by decide) ?_
    obtain ⟨r22_z, cr22_z, h⟩ := w_b1E h
    refine g_callI (J := jX b kc T) (m_runV calV_X5_tally wd_1009 (g_Pile_tally l D kc b T S 1 1 (show (1 : Int32).toInt = 1 by decide) hS cr22_z) C hM (i := 10) (by omega) (e_10 b kc T S) rfl hl.1 rfl rfl (Nat.le_of_ble_eq_true rfl) dX11_count_114 ⟨Nat.le_of_ble_eq_true rfl, Nat.le_of_ble_eq_true rfl⟩ ⟨Nat.le_of_ble_eq_true rfl, Nat.le_of_ble_eq_true rfl⟩) hM (fun z23_z H locs bz23_z hM hS => ?_)
    exact ret S _ _ _ _ z23_z (bz23_z.trans (Option.some.inj h)) rfl hM hS dX11_count_117
  replace h := w_if c21_z h
  by_cases c24_z : v1 = 7
  · replace h := w_it c24_z h
    refine lv_tableIn (tgt := 118) hx hb dX11_count_1 (by rw [hx1, c24_z]; decide) (by rw [hx1, c24_z]; decide) (by rw [hx1, c24_z]; rfl) (by decide) ?_
    refine lv_aload_n hx hb dX11_count_118 rfl (lv_at hl 0 rfl) ?_
    refine m_get fl_X11_41_X11 C hM (i := 0) (by omega) (e_0 b kc T S) (v := .ref (b + 10)) rfl dX11_count_119 ?_
    refine lv_iconst (v := 2) hx hb dX11_count_122 (by decide) ?_
    obtain ⟨r25_z, cr25_z, h⟩ := w_b1E h
    refine g_callI (J := jX b kc T) (m_runV calV_X5_tally wd_1009 (g_Pile_tally l D kc b T S 2 2 (show (2 : Int32).toInt = 2 by decide) hS cr25_z) C hM (i := 10) (by omega) (e_10 b kc T S) rfl hl.1 rfl rfl (Nat.le_of_ble_eq_true rfl) dX11_count_123 ⟨Nat.le_of_ble_eq_true rfl, Nat.le_of_ble_eq_true rfl⟩ ⟨Nat.le_of_ble_eq_true rfl, Nat.le_of_ble_eq_true rfl⟩) hM (fun z26_z H locs bz26_z hM hS => ?_)
    exact ret S _ _ _ _ z26_z (bz26_z.trans (Option.some.inj h)) rfl hM hS dX11_count_126
  replace h := w_if c24_z h
  by_cases c27_z : v1 = 8
  · replace h := w_it c27_z h
    refine lv_tableIn (tgt := 127) hx hb dX11_count_1 (by rw [hx1, c27_z]; decide) (by rw [hx1, c27_z]; decide) (by rw [hx1, c27_z]; rfl) (by decide) ?_
    refine lv_aload_n hx hb dX11_count_127 rfl (lv_at hl 0 rfl) ?_
    refine m_get fl_X11_41_X11 C hM (i := 0) (by omega) (e_0 b kc T S) (v := .ref (b + 10)) rfl dX11_count_128 ?_
    refine lv_iconst (v := 3) hx hb dX11_count_131 (by decide) ?_
    obtain ⟨r28_z, cr28_z, h⟩ := w_b1E h
    refine g_callI (J := jX b kc T) (m_runV calV_X5_tally wd_1009 (g_Pile_tally l D kc b T S 3 3 (show (3 : Int32).toInt = 3 by decide) hS cr28_z) C hM (i := 10) (by omega) (e_10 b kc T S) rfl hl.1 rfl rfl (Nat.le_of_ble_eq_true rfl) dX11_count_132 ⟨Nat.le_of_ble_eq_true rfl, Nat.le_of_ble_eq_true rfl⟩ ⟨Nat.le_of_ble_eq_true rfl, Nat.le_of_ble_eq_true rfl⟩) hM (fun z29_z H locs bz29_z hM hS => ?_)
    exact ret S _ _ _ _ z29_z (bz29_z.trans (Option.some.inj h)) rfl hM hS dX11_count_135
  replace h := w_if c27_z h
  by_cases c30_z : v1 = 9
  · replace h := w_it c30_z h
    refine lv_tableIn (tgt := 136) hx hb dX11_count_1 (by rw [hx1, c30_z]; decide) (by rw [hx1, c30_z]; decide) (by rw [hx1, c30_z]; rfl) (by decide) ?_
    refine lv_aload_n hx hb dX11_count_136 rfl (lv_at hl 0 rfl) ?_
    refine m_get fl_X11_12_X11 C hM (i := 0) (by omega) (e_0 b kc T S) (v := .ref (b + 1)) rfl dX11_count_137 ?_
    refine g_getN fl_X11_87_X10 C hM (i := 1) (r := 1) (by omega) (e_1 b kc T S) rfl hS dX11_count_140 (fun z31_z bz31_z => ?_)
    exact ret S _ _ _ _ z31_z (bz31_z.trans (Option.some.inj h)) rfl hM hS dX11_count_143
  replace h := w_if c30_z h
  by_cases c32_z : v1 = 10
  · replace h := w_it c32_z h
    refine lv_tableIn (tgt := 144) hx hb dX11_count_1 (by rw [hx1, c32_z]; decide) (by rw [hx1, c32_z]; decide) (by rw [hx1, c32_z]; rfl) (by decide) ?_
    refine lv_aload_n hx hb dX11_count_144 rfl (lv_at hl 0 rfl) ?_
    refine m_get fl_X11_41_X11 C hM (i := 0) (by omega) (e_0 b kc T S) (v := .ref (b + 10)) rfl dX11_count_145 ?_
    refine lv_iload_n hx hb dX11_count_148 rfl (lv_at hl 1 rfl) ?_
    refine lv_bipush (v := 10) hx hb dX11_count_149 (by decide) ?_
    refine g_isub hx hb hx1 (show (10 : Int32).toInt = 10 by decide) h dX11_count_151 (fun z33_z bz33_z h => ?_)
    obtain ⟨r34_z, cr34_z, h⟩ := w_b1E h
    refine g_callI (J := jX b kc T) (m_runV calV_X5_rankOf wd_876 (g_Pile_rankOf l D kc b T S z33_z (v1 - 10) bz33_z hS cr34_z) C hM (i := 10) (by omega) (e_10 b kc T S) rfl hl.1 rfl rfl (Nat.le_of_ble_eq_true rfl) dX11_count_152 ⟨Nat.le_of_ble_eq_true rfl, Nat.le_of_ble_eq_true rfl⟩ ⟨Nat.le_of_ble_eq_true rfl, Nat.le_of_ble_eq_true rfl⟩) hM (fun z35_z H locs bz35_z hM hS => ?_)
    exact ret S _ _ _ _ z35_z (bz35_z.trans (Option.some.inj h)) rfl hM hS dX11_count_155
  replace h := w_if c32_z h
  by_cases c36_z : v1 = 11
  · replace h := w_it c36_z h
    refine lv_tableIn (tgt := 144) hx hb dX11_count_1 (by rw [hx1, c36_z]; decide) (by rw [hx1, c36_z]; decide) (by rw [hx1, c36_z]; rfl) (by decide) ?_
    refine lv_aload_n hx hb dX11_count_144 rfl (lv_at hl 0 rfl) ?_
    refine m_get fl_X11_41_X11 C hM (i := 0) (by omega) (e_0 b kc T S) (v := .ref (b + 10)) rfl dX11_count_145 ?_
    refine lv_iload_n hx hb dX11_count_148 rfl (lv_at hl 1 rfl) ?_
    refine lv_bipush (v := 10) hx hb dX11_count_149 (by decide) ?_
    refine g_isub hx hb hx1 (show (10 : Int32).toInt = 10 by decide) h dX11_count_151 (fun z37_z bz37_z h => ?_)
    obtain ⟨r38_z, cr38_z, h⟩ := w_b1E h
    refine g_callI (J := jX b kc T) (m_runV calV_X5_rankOf wd_876 (g_Pile_rankOf l D kc b T S z37_z (v1 - 10) bz37_z hS cr38_z) C hM (i := 10) (by omega) (e_10 b kc T S) rfl hl.1 rfl rfl (Nat.le_of_ble_eq_true rfl) dX11_count_152 ⟨Nat.le_of_ble_eq_true rfl, Nat.le_of_ble_eq_true rfl⟩ ⟨Nat.le_of_ble_eq_true rfl, Nat.le_of_ble_eq_true rfl⟩) hM (fun z39_z H locs bz39_z hM hS => ?_)
    exact ret S _ _ _ _ z39_z (bz39_z.trans (Option.some.inj h)) rfl hM hS dX11_count_155
  replace h := w_if c36_z h
  by_cases c40_z : v1 = 12
  · replace h := w_it c40_z h
    refine lv_tableIn (tgt := 144) hx hb dX11_count_1 (by rw [hx1, c40_z]; decide) (by rw [hx1, c40_z]; decide) (by rw [hx1, c40_z]; rfl) (by decide) ?_
    refine lv_aload_n hx hb dX11_count_144 rfl (lv_at hl 0 rfl) ?_
    refine m_get fl_X11_41_X11 C hM (i := 0) (by omega) (e_0 b kc T S) (v := .ref (b + 10)) rfl dX11_count_145 ?_
    refine lv_iload_n hx hb dX11_count_148 rfl (lv_at hl 1 rfl) ?_
    refine lv_bipush (v := 10) hx hb dX11_count_149 (by decide) ?_
    refine g_isub hx hb hx1 (show (10 : Int32).toInt = 10 by decide) h dX11_count_151 (fun z41_z bz41_z h => ?_)
    obtain ⟨r42_z, cr42_z, h⟩ := w_b1E h
    refine g_callI (J := jX b kc T) (m_runV calV_X5_rankOf wd_876 (g_Pile_rankOf l D kc b T S z41_z (v1 - 10) bz41_z hS cr42_z) C hM (i := 10) (by omega) (e_10 b kc T S) rfl hl.1 rfl rfl (Nat.le_of_ble_eq_true rfl) dX11_count_152 ⟨Nat.le_of_ble_eq_true rfl, Nat.le_of_ble_eq_true rfl⟩ ⟨Nat.le_of_ble_eq_true rfl, Nat.le_of_ble_eq_true rfl⟩) hM (fun z43_z H locs bz43_z hM hS => ?_)
    exact ret S _ _ _ _ z43_z (bz43_z.trans (Option.some.inj h)) rfl hM hS dX11_count_155
  replace h := w_if c40_z h
  refine lv_tableOut (tgt := 156) hx hb dX11_count_1 (by rw [hx1]; omega) (by decide) ?_
  refine lv_iconst (v := (-1)) hx hb dX11_count_156 (by decide) ?_
  exact ret S _ _ _ _ (-1) ((show ((-1) : Int32).toInt = (-1) by decide).trans (Option.some.inj h)) rfl hM hS dX11_count_157
