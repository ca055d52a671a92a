def f_M_layGap_66 (rk : SS → Int → Int → Int → Option SS) (v1 : Int) (kf2_ : SS → Int → Option SS) (S : SS) (v2_ : Int) : Option SS := w_chk (i32 (v2_ + 1)) (kf2_ S (v2_ + 1))
def f_M_layGap_2_b (rk : SS → Int → Int → Int → Option SS) (v1 : Int) (kf2_ : SS → Int → Option SS) (S : SS) (v2_ : Int) : Option SS := (if gi S 192 27 ≤ v2_ then some S else w_chk (0 ≤ v2_ ∧ v2_ < 40) ((if gi S 214 (v2_).toNat = 0 then f_M_layGap_66 rk v1 kf2_ S v2_ else w_b1 (f_M_gapOf S v2_) (fun r3_z => (if r3_z = v1 then w_chk (0 ≤ v2_ ∧ v2_ < 41) ((if gi S 199 (v2_).toNat = 1 then w_b1 (f_M_putWords S v2_) (fun S10_z => f_M_layGap_66 rk v1 kf2_ S10_z v2_) else w_chk (0 ≤ v2_ ∧ v2_ < 41) (w_chk (0 ≤ v2_ ∧ v2_ < 41) (w_b1 (rk S (gi S 201 (v2_).toNat) (gi S 202 (v2_).toNat) v2_) (fun S8_z => f_M_layGap_66 rk v1 kf2_ S8_z v2_))))) else f_M_layGap_66 rk v1 kf2_ S v2_)))))
def f_M_layGap_2 (rk : SS → Int → Int → Int → Option SS) (v1 : Int) : Nat → SS → Int → Option SS
  | 0 => fun _ _ => none
  | n + 1 => f_M_layGap_2_b rk v1 (f_M_layGap_2 rk v1 n)
def f_M_layGap (rk : SS → Int → Int → Int → Option SS) (S : SS) (v1 : Int) : Option SS := f_M_layGap_2 rk v1 FU S 0
set_option maxHeartbeats 4000000 in
set_option maxRecDepth 100000 in
theorem g_M_layGap (l : Launch) (D : va_G) (kc : Nat → ClassId) (b : Nat) (T : SS) (dr : Nat) (hdr : 5 ≤ dr) (rk : SS → Int → Int → Int → Option SS) (hrk : ∀ (S : SS) (x1 : Int32) (v1 : Int) (hx1 : x1.toInt = v1) (x2 : Int32) (v2 : Int) (hx2 : x2.toInt = v2) (x3 : Int32) (v3 : Int) (hx3 : x3.toInt = v3) (hS : rng S) (Sr : SS), rk S v1 v2 v3 = some Sr → cV l yX13_layRow cX13_layRow 6 dr D kc b (jM b kc T) S [.ref (b + 192), .int x1, .int x2, .int x3] Sr) (S : SS) (x1 : Int32) (v1 : Int) (hx1 : x1.toInt = v1) (hS : rng S) {Sr : SS} (h : f_M_layGap rk S v1 = some Sr) : cV l yX13_layGap cX13_layGap 3 (dr + 1) D kc b (jM b kc T) S [.ref (b + 192), .int x1] Sr := by
  refine g_beg_v (by decide) (Nat.le_of_ble_eq_true rfl) ?_
  intro p e s m args below meth c Q C ret hM ls hl
  obtain ⟨hx, hb, hml, hown, hts, hE, hbs⟩ := id C
  have hl : lv_has ls 3 [(0, .ref (b + 192)), (1, .int x1)] := hl
  unfold f_M_layGap at h
  have B66 : ∀ (kf2_ : SS → Int → Option SS) (hkf2_ : ∀ (S : SS) (H : Heap) (locs : List Loc) (ls : Array Slot) (x2_ : Int32) (v2_ : Int) (hx2_ : x2_.toInt = v2_), rng S → mS D b s 220 (jM b kc T S) H locs → lv_has ls 3 [(0, .ref (b + 192)), (1, .int x1), (2, .int x2_)] → kf2_ S v2_ = some Sr → W p l e (mR (dr + 1) 0 0) s m args below meth c H locs 0 0 Q (F0 m 2 ls [])), ∀ (S : SS) (H : Heap) (locs : List Loc) (ls : Array Slot) (x2_ : Int32) (v2_ : Int) (hx2_ : x2_.toInt = v2_), rng S → mS D b s 220 (jM b kc T S) H locs → lv_has ls 3 [(0, .ref (b + 192)), (1, .int x1), (2, .int x2_)] → f_M_layGap_66 rk v1 kf2_ S v2_ = some Sr → W p l e (mR (dr + 1) 0 0) s m args below meth c H locs 0 0 Q (F0 m 66 ls []) := by
    intro kf2_ hkf2_ S H locs ls x2_ v2_ hx2_ hS hM hl h
    unfold f_M_layGap_66 at h
    refine g_iinc (y := 1) hx hb hx2_ (by decide) (by decide) h dX13_layGap_66 hl (k := 2) rfl (by decide) (fun z1_z ls bz1_z h hl => ?_)
    have hl : lv_has ls 3 [(2, .int z1_z), (0, .ref (b + 192)), (1, .int x1)] := hl
    refine lv_goto (tgt := 2) hx hb dX13_layGap_69 (by decide) ?_
    exact hkf2_ S _ _ _ z1_z (v2_ + 1) bz1_z hS hM (lv_sub hl [1, 2, 0] rfl) h
  have B2 : ∀ (n : Nat), ∀ (S : SS) (H : Heap) (locs : List Loc) (ls : Array Slot) (x2_ : Int32) (v2_ : Int) (hx2_ : x2_.toInt = v2_), rng S → mS D b s 220 (jM b kc T S) H locs → lv_has ls 3 [(0, .ref (b + 192)), (1, .int x1), (2, .int x2_)] → f_M_layGap_2 rk v1 n S v2_ = some Sr → W p l e (mR (dr + 1) 0 0) s m args below meth c H locs 0 0 Q (F0 m 2 ls []) := by
    intro n
    induction n with
    | zero => intro S H locs ls x2_ v2_ hx2_ hS hM hl h; exact absurd (h : none = some _) (fun q => nomatch q)
    | succ n hkf2_ =>
      intro S H locs ls x2_ v2_ hx2_ hS hM hl h
      have h : f_M_layGap_2_b rk v1 (f_M_layGap_2 rk v1 n) S v2_ = some Sr := h
      unfold f_M_layGap_2_b at h
      refine lv_iload_n hx hb dX13_layGap_2 rfl (lv_at hl 2 rfl) ?_
      refine lv_aload_n hx hb dX13_layGap_3 rfl (lv_at hl 0 rfl) ?_
      refine g_get fl_X13_153_X13 C hM (i := 192) (r := 192) (by omega) (e_192 b kc T S) rfl hS dX13_layGap_4 (fun z1_z bz1_z => ?_)
      refine g_icmp_ge (tgt := 72) hx hb hx2_ bz1_z h dX13_layGap_7 (by decide) (fun h => ?_) (fun h => ?_)
      · exact ret S _ _ _ _ (Option.some.inj h) hM hS dX13_layGap_72
      · refine lv_aload_n hx hb dX13_layGap_10 rfl (lv_at hl 0 rfl) ?_
        refine m_get fl_X13_117_X13 C hM (i := 192) (by omega) (e_192 b kc T S) (v := .ref (b + 214)) rfl dX13_layGap_11 ?_
        refine lv_iload_n hx hb dX13_layGap_14 rfl (lv_at hl 2 rfl) ?_
        refine g_zald C hM (j := 214) (by omega) (jK_M b kc T (by omega)) (a_214 b kc) hS hx2_ (B := 40) rfl h dX13_layGap_15 (fun z2_z bz2_z h => ?_)
        refine g_if_eq (tgt := 66) hx hb bz2_z h dX13_layGap_16 (by decide) (fun h => ?_) (fun h => ?_)
        · exact B66 (f_M_layGap_2 rk v1 n) hkf2_ S _ _ _ x2_ v2_ hx2_ hS hM (lv_sub hl [0, 1, 2] rfl) h
        · refine lv_aload_n hx hb dX13_layGap_19 rfl (lv_at hl 0 rfl) ?_
          refine lv_iload_n hx hb dX13_layGap_20 rfl (lv_at hl 2 rfl) ?_
          obtain ⟨r3_z, cr3_z, h⟩ := w_b1E h
          refine g_callI (J := jM b kc T) (m_runV calV_X13_gapOf wd_1334 (g_M_gapOf l D kc b T S x2_ v2_ hx2_ hS cr3_z) C hM (i := 192) (by omega) (e_192 b kc T S) rfl hl.1 rfl rfl (Nat.le_of_ble_eq_true rfl) dX13_layGap_21 (m_room (by omega) (by omega)) ⟨Nat.le_of_ble_eq_true rfl, Nat.le_of_ble_eq_true rfl⟩) hM (fun z4_z H locs bz4_z hM hS => ?_)
          refine lv_iload_n hx hb dX13_layGap_24 rfl (lv_at hl 1 rfl) ?_
          refine g_icmp_eq (tgt := 31) hx hb bz4_z hx1 h dX13_layGap_25 (by decide) (fun h => ?_) (fun h => ?_)
          · refine lv_aload_n hx hb dX13_layGap_31 rfl (lv_at hl 0 rfl) ?_
            refine m_get fl_X13_70_X13 C hM (i := 192) (by omega) (e_192 b kc T S) (v := .ref (b + 199)) rfl dX13_layGap_32 ?_
            refine lv_iload_n hx hb dX13_layGap_35 rfl (lv_at hl 2 rfl) ?_
            refine g_iald C hM (j := 199) (by omega) (jK_M b kc T (by omega)) (a_199 b kc) hS hx2_ (B := 41) rfl h dX13_layGap_36 (fun z5_z bz5_z h => ?_)
            refine lv_iconst (v := 1) hx hb dX13_layGap_37 (by decide) ?_
            refine g_icmp_ne (tgt := 49) hx hb bz5_z (show (1 : Int32).toInt = 1 by decide) h dX13_layGap_38 (by decide) (fun h => ?_) (fun h => ?_)
            · refine lv_aload_n hx hb dX13_layGap_49 rfl (lv_at hl 0 rfl) ?_
              refine lv_aload_n hx hb dX13_layGap_50 rfl (lv_at hl 0 rfl) ?_
              refine m_get fl_X13_77_X13 C hM (i := 192) (by omega) (e_192 b kc T S) (v := .ref (b + 201)) rfl dX13_layGap_51 ?_
              refine lv_iload_n hx hb dX13_layGap_54 rfl (lv_at hl 2 rfl) ?_
              refine g_iald C hM (j := 201) (by omega) (jK_M b kc T (by omega)) (a_201 b kc) hS hx2_ (B := 41) rfl h dX13_layGap_55 (fun z6_z bz6_z h => ?_)
              refine lv_aload_n hx hb dX13_layGap_56 rfl (lv_at hl 0 rfl) ?_
              refine m_get fl_X13_80_X13 C hM (i := 192) (by omega) (e_192 b kc T S) (v := .ref (b + 202)) rfl dX13_layGap_57 ?_
              refine lv_iload_n hx hb dX13_layGap_60 rfl (lv_at hl 2 rfl) ?_
              refine g_iald C hM (j := 202) (by omega) (jK_M b kc T (by omega)) (a_202 b kc) hS hx2_ (B := 41) rfl h dX13_layGap_61 (fun z7_z bz7_z h => ?_)
              refine lv_iload_n hx hb dX13_layGap_62 rfl (lv_at hl 2 rfl) ?_
              obtain ⟨S8_z, cS8_z, h⟩ := w_b1E h
              refine g_callV (J := jM b kc T) (m_runV calV_X13_layRow wd_1400 (hrk S z6_z (gi S 201 (v2_).toNat) bz6_z z7_z (gi S 202 (v2_).toNat) bz7_z x2_ v2_ hx2_ hS _ cS8_z) C hM (i := 192) (by omega) (e_192 b kc T S) rfl hl.1 rfl rfl (Nat.le_of_ble_eq_true rfl) dX13_layGap_63 (m_room (by omega) (by omega)) ⟨Nat.le_of_ble_eq_true rfl, Nat.le_of_ble_eq_true rfl⟩) hM (fun H locs hM hS => ?_)
              exact B66 (f_M_layGap_2 rk v1 n) hkf2_ S8_z _ _ _ x2_ v2_ hx2_ hS hM (lv_sub hl [0, 1, 2] rfl) h
            · refine lv_aload_n hx hb dX13_layGap_41 rfl (lv_at hl 0 rfl) ?_
              refine lv_iload_n hx hb dX13_layGap_42 rfl (lv_at hl 2 rfl) ?_
              obtain ⟨S10_z, cS10_z, h⟩ := w_b1E h
              refine g_callV (J := jM b kc T) (m_runV calV_X13_putWords wd_1392 (g_M_putWords l D kc b T S x2_ v2_ hx2_ hS cS10_z) C hM (i := 192) (by omega) (e_192 b kc T S) rfl hl.1 rfl rfl (Nat.le_of_ble_eq_true rfl) dX13_layGap_43 (m_room (by omega) (by omega)) ⟨Nat.le_of_ble_eq_true rfl, Nat.le_of_ble_eq_true rfl⟩) hM (fun H locs hM hS => ?_)
              refine lv_goto (tgt := 66) hx hb dX13_layGap_46 (by decide) ?_
              exact B66 (f_M_layGap_2 rk v1 n) hkf2_ S10_z _ _ _ x2_ v2_ hx2_ hS hM (lv_sub hl [0, 1, 2] rfl) h
          · refine lv_goto (tgt := 66) hx hb dX13_layGap_28 (by decide) ?_
            exact B66 (f_M_layGap_2 rk v1 n) hkf2_ S _ _ _ x2_ v2_ hx2_ hS hM (lv_sub hl [0, 1, 2] rfl) h
  refine lv_iconst (v := 0) hx hb dX13_layGap_0 (by decide) ?_
  refine lv_istore_n (lv' := [(2, .int 0), (0, .ref (b + 192)), (1, .int x1)]) hx hb dX13_layGap_1 rfl hl (by decide) rfl (fun ls hl => ?_)
  exact B2 FU S _ _ _ 0 0 (show (0 : Int32).toInt = 0 by decide) hS hM (lv_sub hl [1, 2, 0] rfl) h

def f_M_layRowB_32 (rk : SS → Int → Int → Int → Option SS) (v1 : Int) (v2 : Int) (v3 : Int) (kf3_ : SS → Int → Option SS) (S : SS) (v4_ : Int) : Option SS := w_b1 (f_M_turnAt S v4_ v2 v3) (fun r1_z => (if r1_z = (-1) then w_b1 (f_M_layWord S v4_ v3) (fun S14_z => w_chk (i32 (v4_ + 1)) (kf3_ S14_z (v4_ + 1))) else w_chk (0 ≤ r1_z ∧ r1_z < 41) (w_chk (0 ≤ r1_z ∧ r1_z < 41) (w_b1 (rk S (gi S 202 (r1_z).toNat) (gi S 203 (r1_z).toNat) v3) (fun S5_z => w_chk (0 ≤ r1_z ∧ r1_z < 41) (w_chk (0 ≤ r1_z ∧ r1_z < 41) (w_chk (i32 ((gi S5_z 202 (r1_z).toNat) - 1)) (w_b1 (rk S5_z (gi S5_z 201 (r1_z).toNat) ((gi S5_z 202 (r1_z).toNat) - 1) v3) (fun S10_z => w_chk (0 ≤ r1_z ∧ r1_z < 41) (w_chk (i32 ((gi S10_z 203 (r1_z).toNat) + 1)) (kf3_ S10_z ((gi S10_z 203 (r1_z).toNat) + 1))))))))))))
def f_M_layRowB_3_b (rk : SS → Int → Int → Int → Option SS) (v1 : Int) (v2 : Int) (v3 : Int) (kf3_ : SS → Int → Option SS) (S : SS) (v4_ : Int) : Option SS := (if v2 < v4_ then some S else (if v4_ ≤ v1 then f_M_layRowB_32 rk v1 v2 v3 kf3_ S v4_ else w_b1 (f_M_innermost S v4_ 1) (fun r1_z => (if r1_z = v3 then w_b1 (f_M_layGap rk S v4_) (fun S3_z => f_M_layRowB_32 rk v1 v2 v3 kf3_ S3_z v4_) else f_M_layRowB_32 rk v1 v2 v3 kf3_ S v4_))))
def f_M_layRowB_3 (rk : SS → Int → Int → Int → Option SS) (v1 : Int) (v2 : Int) (v3 : Int) : Nat → SS → Int → Option SS
  | 0 => fun _ _ => none
  | n + 1 => f_M_layRowB_3_b rk v1 v2 v3 (f_M_layRowB_3 rk v1 v2 v3 n)
def f_M_layRowB (rk : SS → Int → Int → Int → Option SS) (S : SS) (v1 : Int) (v2 : Int) (v3 : Int) : Option SS := f_M_layRowB_3 rk v1 v2 v3 FU S v1
set_option maxHeartbeats 4000000 in
set_option maxRecDepth 100000 in
theorem g_M_layRowB (l : Launch) (D : va_G) (kc : Nat → ClassId) (b : Nat) (T : SS) (dr : Nat) (hdr : 5 ≤ dr) (rk : SS → Int → Int → Int → Option SS) (hrk : ∀ (S : SS) (x1 : Int32) (v1 : Int) (hx1 : x1.toInt = v1) (x2 : Int32) (v2 : Int) (hx2 : x2.toInt = v2) (x3 : Int32) (v3 : Int) (hx3 : x3.toInt = v3) (hS : rng S) (Sr : SS), rk S v1 v2 v3 = some Sr → cV l yX13_layRow cX13_layRow 6 dr D kc b (jM b kc T) S [.ref (b + 192), .int x1, .int x2, .int x3] Sr) (S : SS) (x1 : Int32) (v1 : Int) (hx1 : x1.toInt = v1) (x2 : Int32) (v2 : Int) (hx2 : x2.toInt = v2) (x3 : Int32) (v3 : Int) (hx3 : x3.toInt = v3) (hS : rng S) {Sr : SS} (h : f_M_layRowB rk S v1 v2 v3 = some Sr) : cV l yX13_layRow cX13_layRow 6 (dr + 2) D kc b (jM b kc T) S [.ref (b + 192), .int x1, .int x2, .int x3] Sr := by
  refine g_beg_v (by decide) (Nat.le_of_ble_eq_true rfl) ?_
  intro p e s m args below meth c Q C ret hM ls hl
  obtain ⟨hx, hb, hml, hown, hts, hE, hbs⟩ := id C
  have hl : lv_has ls 6 [(0, .ref (b + 192)), (1, .int x1), (2, .int x2), (3, .int x3)] := hl
  unfold f_M_layRowB at h
  have B32 : ∀ (kf3_ : SS → Int → Option SS) (hkf3_ : ∀ (S : SS) (H : Heap) (locs : List Loc) (ls : Array Slot) (x4_ : Int32) (v4_ : Int) (hx4_ : x4_.toInt = v4_), rng S → mS D b s 220 (jM b kc T S) H locs → lv_has ls 6 [(0, .ref (b + 192)), (1, .int x1), (2, .int x2), (3, .int x3), (4, .int x4_)] → kf3_ S v4_ = some Sr → W p l e (mR (dr + 2) 0 0) s m args below meth c H locs 0 0 Q (F0 m 3 ls [])), ∀ (S : SS) (H : Heap) (locs : List Loc) (ls : Array Slot) (x4_ : Int32) (v4_ : Int) (hx4_ : x4_.toInt = v4_), rng S → mS D b s 220 (jM b kc T S) H locs → lv_has ls 6 [(0, .ref (b + 192)), (1, .int x1), (2, .int x2), (3, .int x3), (4, .int x4_)] → f_M_layRowB_32 rk v1 v2 v3 kf3_ S v4_ = some Sr → W p l e (mR (dr + 2) 0 0) s m args below meth c H locs 0 0 Q (F0 m 32 ls []) := by
    intro kf3_ hkf3_ S H locs ls x4_ v4_ hx4_ hS hM hl h
    unfold f_M_layRowB_32 at h
    refine lv_aload_n hx hb dX13_layRow_32 rfl (lv_at hl 0 rfl) ?_
    refine lv_iload hx hb dX13_layRow_33 (lv_at hl 4 rfl) ?_
    refine lv_iload_n hx hb dX13_layRow_35 rfl (lv_at hl 2 rfl) ?_
    refine lv_iload_n hx hb dX13_layRow_36 rfl (lv_at hl 3 rfl) ?_
    obtain ⟨r1_z, cr1_z, h⟩ := w_b1E h
    refine g_callI (J := jM b kc T) (m_runV calV_X13_turnAt wd_1408 (g_M_turnAt l D kc b T S x4_ v4_ hx4_ x2 v2 hx2 x3 v3 hx3 hS cr1_z) C hM (i := 192) (by omega) (e_192 b kc T S) rfl hl.1 rfl rfl (Nat.le_of_ble_eq_true rfl) dX13_layRow_37 (m_room (by omega) (by omega)) ⟨Nat.le_of_ble_eq_true rfl, Nat.le_of_ble_eq_true rfl⟩) hM (fun z2_z H locs bz2_z hM hS => ?_)
    refine lv_istore (lv' := [(5, .int z2_z), (0, .ref (b + 192)), (1, .int x1), (2, .int x2), (3, .int x3), (4, .int x4_)]) hx hb dX13_layRow_40 hl (by decide) rfl (fun ls hl => ?_)
    refine lv_iload hx hb dX13_layRow_42 (lv_at hl 0 rfl) ?_
    refine lv_iconst (v := (-1)) hx hb dX13_layRow_44 (by decide) ?_
    refine g_icmp_ne (tgt := 61) hx hb bz2_z (show ((-1) : Int32).toInt = (-1) by decide) h dX13_layRow_45 (by decide) (fun h => ?_) (fun h => ?_)
    · refine lv_aload_n hx hb dX13_layRow_61 rfl (lv_at hl 1 rfl) ?_
      refine lv_aload_n hx hb dX13_layRow_62 rfl (lv_at hl 1 rfl) ?_
      refine m_get fl_X13_80_X13 C hM (i := 192) (by omega) (e_192 b kc T S) (v := .ref (b + 202)) rfl dX13_layRow_63 ?_
      refine lv_iload hx hb dX13_layRow_66 (lv_at hl 0 rfl) ?_
      refine g_iald C hM (j := 202) (by omega) (jK_M b kc T (by omega)) (a_202 b kc) hS bz2_z (B := 41) rfl h dX13_layRow_68 (fun z3_z bz3_z h => ?_)
      refine lv_aload_n hx hb dX13_layRow_69 rfl (lv_at hl 1 rfl) ?_
      refine m_get fl_X13_83_X13 C hM (i := 192) (by omega) (e_192 b kc T S) (v := .ref (b + 203)) rfl dX13_layRow_70 ?_
      refine lv_iload hx hb dX13_layRow_73 (lv_at hl 0 rfl) ?_
      refine g_iald C hM (j := 203) (by omega) (jK_M b kc T (by omega)) (a_203 b kc) hS bz2_z (B := 41) rfl h dX13_layRow_75 (fun z4_z bz4_z h => ?_)
      refine lv_iload_n hx hb dX13_layRow_76 rfl (lv_at hl 4 rfl) ?_
      obtain ⟨S5_z, cS5_z, h⟩ := w_b1E h
      refine g_callV (J := jM b kc T) (m_runV calV_X13_layRow wd_1400 (hrk S z3_z (gi S 202 (r1_z).toNat) bz3_z z4_z (gi S 203 (r1_z).toNat) bz4_z x3 v3 hx3 hS _ cS5_z) C hM (i := 192) (by omega) (e_192 b kc T S) rfl hl.1 rfl rfl (Nat.le_of_ble_eq_true rfl) dX13_layRow_77 (m_room (by omega) (by omega)) ⟨Nat.le_of_ble_eq_true rfl, Nat.le_of_ble_eq_true rfl⟩) hM (fun H locs hM hS => ?_)
      refine lv_aload_n hx hb dX13_layRow_80 rfl (lv_at hl 1 rfl) ?_
      refine lv_aload_n hx hb dX13_layRow_81 rfl (lv_at hl 1 rfl) ?_
      refine m_get fl_X13_77_X13 C hM (i := 192) (by omega) (e_192 b kc T S5_z) (v := .ref (b + 201)) rfl dX13_layRow_82 ?_
      refine lv_iload hx hb dX13_layRow_85 (lv_at hl 0 rfl) ?_
      refine g_iald C hM (j := 201) (by omega) (jK_M b kc T (by omega)) (a_201 b kc) hS bz2_z (B := 41) rfl h dX13_layRow_87 (fun z7_z bz7_z h => ?_)
      refine lv_aload_n hx hb dX13_layRow_88 rfl (lv_at hl 1 rfl) ?_
      refine m_get fl_X13_80_X13 C hM (i := 192) (by omega) (e_192 b kc T S5_z) (v := .ref (b + 202)) rfl dX13_layRow_89 ?_
      refine lv_iload hx hb dX13_layRow_92 (lv_at hl 0 rfl) ?_
      refine g_iald C hM (j := 202) (by omega) (jK_M b kc T (by omega)) (a_202 b kc) hS bz2_z (B := 41) rfl h dX13_layRow_94 (fun z8_z bz8_z h => ?_)
      refine lv_iconst (v := 1) hx hb dX13_layRow_95 (by decide) ?_
      refine g_isub hx hb bz8_z (show (1 : Int32).toInt = 1 by decide) h dX13_layRow_96 (fun z9_z bz9_z h => ?_)
      refine lv_iload_n hx hb dX13_layRow_97 rfl (lv_at hl 4 rfl) ?_
      obtain ⟨S10_z, cS10_z, h⟩ := w_b1E h
      refine g_callV (J := jM b kc T) (m_runV calV_X13_layRow wd_1400 (hrk S5_z z7_z (gi S5_z 201 (r1_z).toNat) bz7_z z9_z ((gi S5_z 202 (r1_z).toNat) - 1) bz9_z x3 v3 hx3 hS _ cS10_z) C hM (i := 192) (by omega) (e_192 b kc T S5_z) rfl hl.1 rfl rfl (Nat.le_of_ble_eq_true rfl) dX13_layRow_98 (m_room (by omega) (by omega)) ⟨Nat.le_of_ble_eq_true rfl, Nat.le_of_ble_eq_true rfl⟩) hM (fun H locs hM hS => ?_)
      refine lv_aload_n hx hb dX13_layRow_101 rfl (lv_at hl 1 rfl) ?_
      refine m_get fl_X13_83_X13 C hM (i := 192) (by omega) (e_192 b kc T S10_z) (v := .ref (b + 203)) rfl dX13_layRow_102 ?_
      refine lv_iload hx hb dX13_layRow_105 (lv_at hl 0 rfl) ?_
      refine g_iald C hM (j := 203) (by omega) (jK_M b kc T (by omega)) (a_203 b kc) hS bz2_z (B := 41) rfl h dX13_layRow_107 (fun z12_z bz12_z h => ?_)
      refine lv_iconst (v := 1) hx hb dX13_layRow_108 (by decide) ?_
      refine g_iadd hx hb bz12_z (show (1 : Int32).toInt = 1 by decide) h dX13_layRow_109 (fun z13_z bz13_z h => ?_)
      refine lv_istore (lv' := [(4, .int z13_z), (5, .int z2_z), (0, .ref (b + 192)), (1, .int x1), (2, .int x2), (3, .int x3)]) hx hb dX13_layRow_110 hl (by decide) rfl (fun ls hl => ?_)
      refine lv_goto (tgt := 3) hx hb dX13_layRow_112 (by decide) ?_
      exact hkf3_ S10_z _ _ _ z13_z ((gi S10_z 203 (r1_z).toNat) + 1) bz13_z hS hM (lv_sub hl [2, 3, 4, 5, 0] rfl) h
    · refine lv_aload_n hx hb dX13_layRow_48 rfl (lv_at hl 1 rfl) ?_
      refine lv_iload hx hb dX13_layRow_49 (lv_at hl 5 rfl) ?_
      refine lv_iload_n hx hb dX13_layRow_51 rfl (lv_at hl 4 rfl) ?_
      obtain ⟨S14_z, cS14_z, h⟩ := w_b1E h
      refine g_callV (J := jM b kc T) (m_runV calV_X13_layWord wd_1416 (g_M_layWord l D kc b T S x4_ v4_ hx4_ x3 v3 hx3 hS cS14_z) C hM (i := 192) (by omega) (e_192 b kc T S) rfl hl.1 rfl rfl (Nat.le_of_ble_eq_true rfl) dX13_layRow_52 (m_room (by omega) (by omega)) ⟨Nat.le_of_ble_eq_true rfl, Nat.le_of_ble_eq_true rfl⟩) hM (fun H locs hM hS => ?_)
      refine g_iinc (y := 1) hx hb hx4_ (by decide) (by decide) h dX13_layRow_55 hl (k := 5) rfl (by decide) (fun z16_z ls bz16_z h hl => ?_)
      have hl : lv_has ls 6 [(4, .int z16_z), (5, .int z2_z), (0, .ref (b + 192)), (1, .int x1), (2, .int x2), (3, .int x3)] := hl
      refine lv_goto (tgt := 3) hx hb dX13_layRow_58 (by decide) ?_
      exact hkf3_ S14_z _ _ _ z16_z (v4_ + 1) bz16_z hS hM (lv_sub hl [2, 3, 4, 5, 0] rfl) h
  have B3 : ∀ (n : Nat), ∀ (S : SS) (H : Heap) (locs : List Loc) (ls : Array Slot) (x4_ : Int32) (v4_ : Int) (hx4_ : x4_.toInt = v4_), rng S → mS D b s 220 (jM b kc T S) H locs → lv_has ls 6 [(0, .ref (b + 192)), (1, .int x1), (2, .int x2), (3, .int x3), (4, .int x4_)] → f_M_layRowB_3 rk v1 v2 v3 n S v4_ = some Sr → W p l e (mR (dr + 2) 0 0) s m args below meth c H locs 0 0 Q (F0 m 3 ls []) := by
    intro n
    induction n with
    | zero => intro S H locs ls x4_ v4_ hx4_ hS hM hl h; exact absurd (h : none = some _) (fun q => nomatch q)
    | succ n hkf3_ =>
      intro S H locs ls x4_ v4_ hx4_ hS hM hl h
      have h : f_M_layRowB_3_b rk v1 v2 v3 (f_M_layRowB_3 rk v1 v2 v3 n) S v4_ = some Sr := h
      unfold f_M_layRowB_3_b at h
      refine lv_iload hx hb dX13_layRow_3 (lv_at hl 4 rfl) ?_
      refine lv_iload_n hx hb dX13_layRow_5 rfl (lv_at hl 2 rfl) ?_
      refine g_icmp_gt (tgt := 115) hx hb hx4_ hx2 h dX13_layRow_6 (by decide) (fun h => ?_) (fun h => ?_)
      · exact ret S _ _ _ _ (Option.some.inj h) hM hS dX13_layRow_115
      · refine lv_iload hx hb dX13_layRow_9 (lv_at hl 4 rfl) ?_
        refine lv_iload_n hx hb dX13_layRow_11 rfl (lv_at hl 1 rfl) ?_
        refine g_icmp_le (tgt := 32) hx hb hx4_ hx1 h dX13_layRow_12 (by decide) (fun h => ?_) (fun h => ?_)
        · exact B32 (f_M_layRowB_3 rk v1 v2 v3 n) hkf3_ S _ _ _ x4_ v4_ hx4_ hS hM (lv_sub hl [0, 1, 2, 3, 4] rfl) h
        · refine lv_aload_n hx hb dX13_layRow_15 rfl (lv_at hl 0 rfl) ?_
          refine lv_iload hx hb dX13_layRow_16 (lv_at hl 4 rfl) ?_
          refine lv_iconst (v := 1) hx hb dX13_layRow_18 (by decide) ?_
          obtain ⟨r1_z, cr1_z, h⟩ := w_b1E h
          refine g_callI (J := jM b kc T) (m_runV calV_X13_innermost wd_1404 (g_M_innermost l D kc b T S x4_ v4_ hx4_ 1 1 (show (1 : Int32).toInt = 1 by decide) hS cr1_z) C hM (i := 192) (by omega) (e_192 b kc T S) rfl hl.1 rfl rfl (Nat.le_of_ble_eq_true rfl) dX13_layRow_19 (m_room (by omega) (by omega)) ⟨Nat.le_of_ble_eq_true rfl, Nat.le_of_ble_eq_true rfl⟩) hM (fun z2_z H locs bz2_z hM hS => ?_)
          refine lv_iload_n hx hb dX13_layRow_22 rfl (lv_at hl 3 rfl) ?_
          refine g_icmp_ne (tgt := 32) hx hb bz2_z hx3 h dX13_layRow_23 (by decide) (fun h => ?_) (fun h => ?_)
          · exact B32 (f_M_layRowB_3 rk v1 v2 v3 n) hkf3_ S _ _ _ x4_ v4_ hx4_ hS hM (lv_sub hl [0, 1, 2, 3, 4] rfl) h
          · refine lv_aload_n hx hb dX13_layRow_26 rfl (lv_at hl 0 rfl) ?_
            refine lv_iload hx hb dX13_layRow_27 (lv_at hl 4 rfl) ?_
            obtain ⟨S3_z, cS3_z, h⟩ := w_b1E h
            refine g_callV (J := jM b kc T) (m_runV calV_X13_layGap wd_1388 (g_M_layGap l D kc b T dr hdr rk hrk S x4_ v4_ hx4_ hS cS3_z) C hM (i := 192) (by omega) (e_192 b kc T S) rfl hl.1 rfl rfl (Nat.le_of_ble_eq_true rfl) dX13_layRow_29 (m_room (by omega) (by omega)) ⟨Nat.le_of_ble_eq_true rfl, Nat.le_of_ble_eq_true rfl⟩) hM (fun H locs hM hS => ?_)
            exact B32 (f_M_layRowB_3 rk v1 v2 v3 n) hkf3_ S3_z _ _ _ x4_ v4_ hx4_ hS hM (lv_sub hl [0, 1, 2, 3, 4] rfl) h
  refine lv_iload_n hx hb dX13_layRow_0 rfl (lv_at hl 1 rfl) ?_
  refine lv_istore (lv' := [(4, .int x1), (0, .ref (b + 192)), (1, .int x1), (2, .int x2), (3, .int x3)]) hx hb dX13_layRow_1 hl (by decide) rfl (fun ls hl => ?_)
  exact B3 FU S _ _ _ x1 v1 hx1 hS hM (lv_sub hl [1, 2, 3, 4, 0] rfl) h

def f_M_layRow : Nat → SS → Int → Int → Int → Option SS
  | 0 => fun _ _ _ _ => none
  | n + 1 => f_M_layRowB (f_M_layRow n)
set_option maxHeartbeats 4000000 in
set_option maxRecDepth 100000 in
theorem g_M_layRow (l : Launch) (D : va_G) (kc : Nat → ClassId) (b : Nat) (T : SS) : ∀ (n : Nat), ∀ (S : SS) (x1 : Int32) (v1 : Int) (hx1 : x1.toInt = v1) (x2 : Int32) (v2 : Int) (hx2 : x2.toInt = v2) (x3 : Int32) (v3 : Int) (hx3 : x3.toInt = v3) (hS : rng S) (Sr : SS), f_M_layRow n S v1 v2 v3 = some Sr → cV l yX13_layRow cX13_layRow 6 (2 * n + 5) D kc b (jM b kc T) S [.ref (b + 192), .int x1, .int x2, .int x3] Sr := by
  intro n
  induction n with
  | zero => intro S x1 v1 hx1 x2 v2 hx2 x3 v3 hx3 hS Sr h; exact absurd (h : none = some _) (fun q => nomatch q)
  | succ n ih =>
    intro S x1 v1 hx1 x2 v2 hx2 x3 v3 hx3 hS Sr h
    have e : 2 * (n + 1) + 5 = 2 * n + 5 + 2 := by omega
    rw [e]
    exact g_M_layRowB l D kc b T (2 * n + 5) (by omega) (f_M_layRow n) ih S x1 v1 hx1 x2 v2 hx2 x3 v3 hx3 hS h
