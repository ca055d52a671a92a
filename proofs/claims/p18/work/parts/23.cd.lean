def f_Setter_setGap_95 (rk : SS → Int → Int → Int → Option SS) (v1 : Int) (v2 : Int) (kf2_ : SS → Int → Option SS) (S : SS) (v3_ : Int) : Option SS := w_chk (i32 (v3_ + 1)) (kf2_ S (v3_ + 1))
def f_Setter_setGap_2_b (rk : SS → Int → Int → Int → Option SS) (v1 : Int) (v2 : Int) (kf2_ : SS → Int → Option SS) (S : SS) (v3_ : Int) : Option SS := (if gi S 178 2 ≤ v3_ then some S else w_b1 (f_Setter_takenAt S v3_) (fun o2_z => w_on o2_z (f_Setter_setGap_95 rk v1 v2 kf2_ S v3_) (fun j4_z => w_chk (j4_z < 40) ((if gi S (14 + 4 * j4_z) 6 = v1 then w_b1 (f_Setter_isOpen S v3_) (fun r6_z => (if r6_z = 0 then (if gi S (14 + 4 * j4_z) 2 = 1 then w_on (gq S 178 4) none (fun q18_z => w_chk (shOk q18_z) (w_b1 (f_Sheet_addAll S q18_z (14 + 4 * j4_z + 2)) (fun S19_z => f_Setter_setGap_95 rk v1 v2 kf2_ S19_z v3_))) else w_b1 (f_Setter_mind S v3_ 1) (fun S9_z => w_chk (i32 (v2 + 1)) (w_b1 (rk S9_z (gi S9_z (14 + 4 * j4_z) 4) (gi S9_z (14 + 4 * j4_z) 5) (v2 + 1)) (fun S14_z => w_b1 (f_Setter_mind S14_z v3_ 0) (fun S16_z => f_Setter_setGap_95 rk v1 v2 kf2_ S16_z v3_))))) else f_Setter_setGap_95 rk v1 v2 kf2_ S v3_)) else f_Setter_setGap_95 rk v1 v2 kf2_ S v3_)))))
def f_Setter_setGap_2 (rk : SS → Int → Int → Int → Option SS) (v1 : Int) (v2 : Int) : Nat → SS → Int → Option SS
  | 0 => fun _ _ => none
  | n + 1 => f_Setter_setGap_2_b rk v1 v2 (f_Setter_setGap_2 rk v1 v2 n)
def f_Setter_setGap (rk : SS → Int → Int → Int → Option SS) (S : SS) (v1 : Int) (v2 : Int) : Option SS := f_Setter_setGap_2 rk v1 v2 FU S 0
set_option maxHeartbeats 4000000 in
set_option maxRecDepth 100000 in
theorem g_Setter_setGap (l : Launch) (D : va_G) (kc : Nat → ClassId) (b : Nat) (T : SS) (dr : Nat) (hdr : 5 ≤ dr) (rk : SS → Int → Int → Int → Option SS) (hrk : ∀ (S : SS) (x1 : Int32) (v1 : Int) (hx1 : x1.toInt = v1) (x2 : Int32) (v2 : Int) (hx2 : x2.toInt = v2) (x3 : Int32) (v3 : Int) (hx3 : x3.toInt = v3) (hS : rng S) (Sr : SS), rk S v1 v2 v3 = some Sr → cV l yX7_setRow cX7_setRow 6 dr D kc b (jX b kc T) S [.ref (b + 178), .int x1, .int x2, .int x3] Sr) (S : SS) (x1 : Int32) (v1 : Int) (hx1 : x1.toInt = v1) (x2 : Int32) (v2 : Int) (hx2 : x2.toInt = v2) (hS : rng S) {Sr : SS} (h : f_Setter_setGap rk S v1 v2 = some Sr) : cV l yX7_setGap cX7_setGap 5 (dr + 1) D kc b (jX b kc T) S [.ref (b + 178), .int x1, .int x2] Sr := by
  refine g_beg_v (by decide) (Nat.le_of_ble_eq_true rfl) ?_
  intro p e s m args below meth c Q C ret hM ls hl
  obtain ⟨hx, hb, hml, hown, hts, hE, hbs⟩ := id C
  have hl : lv_has ls 5 [(0, .ref (b + 178)), (1, .int x1), (2, .int x2)] := hl
  unfold f_Setter_setGap at h
  have B95 : ∀ (kf2_ : SS → Int → Option SS) (hkf2_ : ∀ (S : SS) (H : Heap) (locs : List Loc) (ls : Array Slot) (x3_ : Int32) (v3_ : Int) (hx3_ : x3_.toInt = v3_), rng S → mS D b s 220 (jX b kc T S) H locs → lv_has ls 5 [(0, .ref (b + 178)), (1, .int x1), (2, .int x2), (3, .int x3_)] → kf2_ S v3_ = some Sr → W p l e (mR (dr + 1) 0 0) s m args below meth c H locs 0 0 Q (F0 m 2 ls [])), ∀ (S : SS) (H : Heap) (locs : List Loc) (ls : Array Slot) (x3_ : Int32) (v3_ : Int) (hx3_ : x3_.toInt = v3_), rng S → mS D b s 220 (jX b kc T S) H locs → lv_has ls 5 [(0, .ref (b + 178)), (1, .int x1), (2, .int x2), (3, .int x3_)] → f_Setter_setGap_95 rk v1 v2 kf2_ S v3_ = some Sr → W p l e (mR (dr + 1) 0 0) s m args below meth c H locs 0 0 Q (F0 m 95 ls []) := by
    intro kf2_ hkf2_ S H locs ls x3_ v3_ hx3_ hS hM hl h
    unfold f_Setter_setGap_95 at h
    refine g_iinc (y := 1) hx hb hx3_ (by decide) (by decide) h dX7_setGap_95 hl (k := 3) rfl (by decide) (fun z1_z ls bz1_z h hl => ?_)
    have hl : lv_has ls 5 [(3, .int z1_z), (0, .ref (b + 178)), (1, .int x1), (2, .int x2)] := hl
    refine lv_goto (tgt := 2) hx hb dX7_setGap_98 (by decide) ?_
    exact hkf2_ S _ _ _ z1_z (v3_ + 1) bz1_z hS hM (lv_sub hl [1, 2, 3, 0] rfl) h
  have B2 : ∀ (n : Nat), ∀ (S : SS) (H : Heap) (locs : List Loc) (ls : Array Slot) (x3_ : Int32) (v3_ : Int) (hx3_ : x3_.toInt = v3_), rng S → mS D b s 220 (jX b kc T S) H locs → lv_has ls 5 [(0, .ref (b + 178)), (1, .int x1), (2, .int x2), (3, .int x3_)] → f_Setter_setGap_2 rk v1 v2 n S v3_ = some Sr → W p l e (mR (dr + 1) 0 0) s m args below meth c H locs 0 0 Q (F0 m 2 ls []) := by
    intro n
    induction n with
    | zero => intro S H locs ls x3_ v3_ hx3_ hS hM hl h; exact absurd (h : none = some _) (fun q => nomatch q)
    | succ n hkf2_ =>
      intro S H locs ls x3_ v3_ hx3_ hS hM hl h
      have h : f_Setter_setGap_2_b rk v1 v2 (f_Setter_setGap_2 rk v1 v2 n) S v3_ = some Sr := h
      unfold f_Setter_setGap_2_b at h
      refine lv_iload_n hx hb dX7_setGap_2 rfl (lv_at hl 3 rfl) ?_
      refine lv_aload_n hx hb dX7_setGap_3 rfl (lv_at hl 0 rfl) ?_
      refine g_get fl_X7_21_X7 C hM (i := 178) (r := 178) (by omega) (e_178 b kc T S) rfl hS dX7_setGap_4 (fun z1_z bz1_z => ?_)
      refine g_icmp_ge (tgt := 101) hx hb hx3_ bz1_z h dX7_setGap_7 (by decide) (fun h => ?_) (fun h => ?_)
      · exact ret S _ _ _ _ (Option.some.inj h) hM hS dX7_setGap_101
      · refine lv_aload_n hx hb dX7_setGap_10 rfl (lv_at hl 0 rfl) ?_
        refine lv_iload_n hx hb dX7_setGap_11 rfl (lv_at hl 3 rfl) ?_
        obtain ⟨o2_z, co2_z, h⟩ := w_b1E h
        refine g_callQ (J := jX b kc T) (m_runV calV_X7_takenAt wd_668 (g_Setter_takenAt l D kc b T S x3_ v3_ hx3_ hS co2_z) C hM (i := 178) (by omega) (e_178 b kc T S) rfl hl.1 rfl rfl (Nat.le_of_ble_eq_true rfl) dX7_setGap_12 (m_room (by omega) (by omega)) ⟨Nat.le_of_ble_eq_true rfl, Nat.le_of_ble_eq_true rfl⟩) hM (fun z3_z H locs bz3_z hM hS => ?_)
        subst bz3_z
        refine lv_astoreq (lv' := [(4, va_rf (om b o2_z)), (0, .ref (b + 178)), (1, .int x1), (2, .int x2), (3, .int x3_)]) hx hb dX7_setGap_15 hl (by decide) rfl (fun ls hl => ?_)
        refine lv_aloadq hx hb dX7_setGap_17 (lv_at hl 0 rfl) ?_
        cases o2_z with
        | none =>
          replace h := w_onN h
          have hl : lv_has ls 5 [(4, .null), (0, .ref (b + 178)), (1, .int x1), (2, .int x2), (3, .int x3_)] := hl
          refine lv_ifnullN (tgt := 95) hx hb dX7_setGap_19 (by decide) ?_
          exact B95 (f_Setter_setGap_2 rk v1 v2 n) hkf2_ S _ _ _ x3_ v3_ hx3_ hS hM (lv_sub hl [1, 2, 3, 4] rfl) h
        | some j4_z =>
          obtain ⟨hj4_z, h⟩ := w_chkE (w_onS h)
          have hl : lv_has ls 5 [(4, .ref (b + (14 + 4 * j4_z))), (0, .ref (b + 178)), (1, .int x1), (2, .int x2), (3, .int x3_)] := hl
          refine lv_ifnull hx hb dX7_setGap_19 ?_
          refine lv_aload hx hb dX7_setGap_22 (lv_at hl 0 rfl) ?_
          refine g_getN fl_X7_68_X3 C hM (i := 14 + 4 * j4_z) (r := 14 + 4 * j4_z) (by omega) (e_mk b kc T S hj4_z) rfl hS dX7_setGap_24 (fun z5_z bz5_z => ?_)
          refine lv_iload_n hx hb dX7_setGap_27 rfl (lv_at hl 2 rfl) ?_
          refine g_icmp_ne (tgt := 95) hx hb bz5_z hx1 h dX7_setGap_28 (by decide) (fun h => ?_) (fun h => ?_)
          · exact B95 (f_Setter_setGap_2 rk v1 v2 n) hkf2_ S _ _ _ x3_ v3_ hx3_ hS hM (lv_sub hl [1, 2, 3, 4] rfl) h
          · refine lv_aload_n hx hb dX7_setGap_31 rfl (lv_at hl 1 rfl) ?_
            refine lv_iload_n hx hb dX7_setGap_32 rfl (lv_at hl 4 rfl) ?_
            obtain ⟨r6_z, cr6_z, h⟩ := w_b1E h
            refine g_callI (J := jX b kc T) (m_runV calV_X7_isOpen wd_672 (g_Setter_isOpen l D kc b T S x3_ v3_ hx3_ hS cr6_z) C hM (i := 178) (by omega) (e_178 b kc T S) rfl hl.1 rfl rfl (Nat.le_of_ble_eq_true rfl) dX7_setGap_33 (m_room (by omega) (by omega)) ⟨Nat.le_of_ble_eq_true rfl, Nat.le_of_ble_eq_true rfl⟩) hM (fun z7_z H locs bz7_z hM hS => ?_)
            refine g_if_eq (tgt := 42) hx hb bz7_z h dX7_setGap_36 (by decide) (fun h => ?_) (fun h => ?_)
            · refine lv_aload hx hb dX7_setGap_42 (lv_at hl 0 rfl) ?_
              refine g_getN fl_X7_75_X3 C hM (i := 14 + 4 * j4_z) (r := 14 + 4 * j4_z) (by omega) (e_mk b kc T S hj4_z) rfl hS dX7_setGap_44 (fun z8_z bz8_z => ?_)
              refine lv_iconst (v := 1) hx hb dX7_setGap_47 (by decide) ?_
              refine g_icmp_ne (tgt := 66) hx hb bz8_z (show (1 : Int32).toInt = 1 by decide) h dX7_setGap_48 (by decide) (fun h => ?_) (fun h => ?_)
              · refine lv_aload_n hx hb dX7_setGap_66 rfl (lv_at hl 1 rfl) ?_
                refine lv_iload_n hx hb dX7_setGap_67 rfl (lv_at hl 4 rfl) ?_
                refine lv_iconst (v := 1) hx hb dX7_setGap_68 (by decide) ?_
                obtain ⟨S9_z, cS9_z, h⟩ := w_b1E h
                refine g_callV (J := jX b kc T) (m_runV calV_X7_mind wd_677 (g_Setter_mind l D kc b T S x3_ v3_ hx3_ 1 1 (show (1 : Int32).toInt = 1 by decide) hS cS9_z) C hM (i := 178) (by omega) (e_178 b kc T S) rfl hl.1 rfl rfl (Nat.le_of_ble_eq_true rfl) dX7_setGap_69 (m_room (by omega) (by omega)) ⟨Nat.le_of_ble_eq_true rfl, Nat.le_of_ble_eq_true rfl⟩) hM (fun H locs hM hS => ?_)
                refine lv_aload_n hx hb dX7_setGap_72 rfl (lv_at hl 1 rfl) ?_
                refine lv_aload hx hb dX7_setGap_73 (lv_at hl 0 rfl) ?_
                refine g_getN fl_X7_89_X3 C hM (i := 14 + 4 * j4_z) (r := 14 + 4 * j4_z) (by omega) (e_mk b kc T S9_z hj4_z) rfl hS dX7_setGap_75 (fun z11_z bz11_z => ?_)
                refine lv_aload hx hb dX7_setGap_78 (lv_at hl 0 rfl) ?_
                refine g_getN fl_X7_92_X3 C hM (i := 14 + 4 * j4_z) (r := 14 + 4 * j4_z) (by omega) (e_mk b kc T S9_z hj4_z) rfl hS dX7_setGap_80 (fun z12_z bz12_z => ?_)
                refine lv_iload_n hx hb dX7_setGap_83 rfl (lv_at hl 3 rfl) ?_
                refine lv_iconst (v := 1) hx hb dX7_setGap_84 (by decide) ?_
                refine g_iadd hx hb hx2 (show (1 : Int32).toInt = 1 by decide) h dX7_setGap_85 (fun z13_z bz13_z h => ?_)
                obtain ⟨S14_z, cS14_z, h⟩ := w_b1E h
                refine g_callV (J := jX b kc T) (m_runV calV_X7_setRow wd_681 (hrk S9_z z11_z (gi S9_z (14 + 4 * j4_z) 4) bz11_z z12_z (gi S9_z (14 + 4 * j4_z) 5) bz12_z z13_z (v2 + 1) bz13_z hS _ cS14_z) C hM (i := 178) (by omega) (e_178 b kc T S9_z) rfl hl.1 rfl rfl (Nat.le_of_ble_eq_true rfl) dX7_setGap_86 (m_room (by omega) (by omega)) ⟨Nat.le_of_ble_eq_true rfl, Nat.le_of_ble_eq_true rfl⟩) hM (fun H locs hM hS => ?_)
                refine lv_aload_n hx hb dX7_setGap_89 rfl (lv_at hl 1 rfl) ?_
                refine lv_iload_n hx hb dX7_setGap_90 rfl (lv_at hl 4 rfl) ?_
                refine lv_iconst (v := 0) hx hb dX7_setGap_91 (by decide) ?_
                obtain ⟨S16_z, cS16_z, h⟩ := w_b1E h
                refine g_callV (J := jX b kc T) (m_runV calV_X7_mind wd_677 (g_Setter_mind l D kc b T S14_z x3_ v3_ hx3_ 0 0 (show (0 : Int32).toInt = 0 by decide) hS cS16_z) C hM (i := 178) (by omega) (e_178 b kc T S14_z) rfl hl.1 rfl rfl (Nat.le_of_ble_eq_true rfl) dX7_setGap_92 (m_room (by omega) (by omega)) ⟨Nat.le_of_ble_eq_true rfl, Nat.le_of_ble_eq_true rfl⟩) hM (fun H locs hM hS => ?_)
                exact B95 (f_Setter_setGap_2 rk v1 v2 n) hkf2_ S16_z _ _ _ x3_ v3_ hx3_ hS hM (lv_sub hl [1, 2, 3, 4] rfl) h
              · refine lv_aload_n hx hb dX7_setGap_51 rfl (lv_at hl 1 rfl) ?_
                refine g_getqs fl_X7_42_X7 C hM (i := 178) (r := 178) (by omega) (e_178 b kc T S) rfl h dX7_setGap_52 (fun q18_z hq18_z h => ?_)
                refine lv_aload hx hb dX7_setGap_55 (lv_at hl 0 rfl) ?_
                refine m_getN fl_X7_78_X3 C hM (i := 14 + 4 * j4_z) (by omega) (e_mk b kc T S hj4_z) (v := .ref (b + (14 + 4 * j4_z + 2))) rfl dX7_setGap_57 ?_
                obtain ⟨S19_z, cS19_z, h⟩ := w_b1E h
                refine g_callV (J := jX b kc T) (m_runV calV_X8_addAll wd_676 (g_Sheet_addAll l D kc b T S q18_z hq18_z (14 + 4 * j4_z + 2) (show shOk (14 + 4 * j4_z + 2) by omega) hS cS19_z) C hM (i := q18_z) (by omega) (e_sh b kc T S hq18_z) rfl hl.1 rfl rfl (Nat.le_of_ble_eq_true rfl) dX7_setGap_60 (m_room (by omega) (by omega)) ⟨Nat.le_of_ble_eq_true rfl, Nat.le_of_ble_eq_true rfl⟩) hM (fun H locs hM hS => ?_)
                refine lv_goto (tgt := 95) hx hb dX7_setGap_63 (by decide) ?_
                exact B95 (f_Setter_setGap_2 rk v1 v2 n) hkf2_ S19_z _ _ _ x3_ v3_ hx3_ hS hM (lv_sub hl [1, 2, 3, 4] rfl) h
            · refine lv_goto (tgt := 95) hx hb dX7_setGap_39 (by decide) ?_
              exact B95 (f_Setter_setGap_2 rk v1 v2 n) hkf2_ S _ _ _ x3_ v3_ hx3_ hS hM (lv_sub hl [1, 2, 3, 4] rfl) h
  refine lv_iconst (v := 0) hx hb dX7_setGap_0 (by decide) ?_
  refine lv_istore_n (lv' := [(3, .int 0), (0, .ref (b + 178)), (1, .int x1), (2, .int x2)]) hx hb dX7_setGap_1 rfl hl (by decide) rfl (fun ls hl => ?_)
  exact B2 FU S _ _ _ 0 0 (show (0 : Int32).toInt = 0 by decide) hS hM (lv_sub hl [1, 2, 3, 0] rfl) h

def f_Setter_setPiece_58 (rk : SS → Int → Int → Int → Option SS) (v1 : Int) (v2 : Int) (S : SS) (v3_ : Int) (j4_ : Nat) : Option (Int × SS) := (if gi S (14 + 4 * j4_) 2 = 3 then w_b1 (f_Setter_mind S v3_ 1) (fun S4_z => w_b1 (f_Mark_number S4_z j4_ 1) (fun r6_z => w_chk (i32 (v2 + 1)) (w_b1 (rk S4_z r6_z (gi S4_z (14 + 4 * j4_) 5) (v2 + 1)) (fun S10_z => w_b1 (f_Mark_number S10_z j4_ 1) (fun r13_z => w_chk (i32 (r13_z - 1)) (w_chk (i32 (v2 + 1)) (w_b1 (rk S10_z (gi S10_z (14 + 4 * j4_) 4) (r13_z - 1) (v2 + 1)) (fun S17_z => w_b1 (f_Setter_mind S17_z v3_ 0) (fun S19_z => w_chk (i32 ((gi S19_z (14 + 4 * j4_) 5) + 1)) (some ((gi S19_z (14 + 4 * j4_) 5) + 1, S19_z))))))))))) else w_chk (i32 ((gi S (14 + 4 * j4_) 5) + 1)) (some ((gi S (14 + 4 * j4_) 5) + 1, S)))
def f_Setter_setPiece (rk : SS → Int → Int → Int → Option SS) (S : SS) (v1 : Int) (v2 : Int) : Option (Int × SS) := w_b1 (f_Setter_outermostAt S v1) (fun r1_z => w_b1 (f_Setter_takenAt S r1_z) (fun o3_z => w_on o3_z (w_on (gq S 178 4) none (fun q6_z => w_chk (shOk q6_z) (w_on (gq S 178 3) none (fun q7_z => w_chk (shOk q7_z) (w_b1 (f_Sheet_wordAt S q7_z v1) (fun w8_z => w_b1 (f_Sheet_add S q6_z w8_z) (fun S10_z => w_chk (i32 (v1 + 1)) (some (v1 + 1, S10_z))))))))) (fun j5_z => w_chk (j5_z < 40) ((if gi S (14 + 4 * j5_z) 2 = 2 then w_on (gq S 178 4) none (fun q14_z => w_chk (shOk q14_z) (w_b1 (f_Sheet_addAll S q14_z (14 + 4 * j5_z + 2)) (fun S15_z => f_Setter_setPiece_58 rk v1 v2 S15_z r1_z j5_z))) else f_Setter_setPiece_58 rk v1 v2 S r1_z j5_z)))))
set_option maxHeartbeats 4000000 in
set_option maxRecDepth 100000 in
theorem g_Setter_setPiece (l : Launch) (D : va_G) (kc : Nat → ClassId) (b : Nat) (T : SS) (dr : Nat) (hdr : 5 ≤ dr) (rk : SS → Int → Int → Int → Option SS) (hrk : ∀ (S : SS) (x1 : Int32) (v1 : Int) (hx1 : x1.toInt = v1) (x2 : Int32) (v2 : Int) (hx2 : x2.toInt = v2) (x3 : Int32) (v3 : Int) (hx3 : x3.toInt = v3) (hS : rng S) (Sr : SS), rk S v1 v2 v3 = some Sr → cV l yX7_setRow cX7_setRow 6 dr D kc b (jX b kc T) S [.ref (b + 178), .int x1, .int x2, .int x3] Sr) (S : SS) (x1 : Int32) (v1 : Int) (hx1 : x1.toInt = v1) (x2 : Int32) (v2 : Int) (hx2 : x2.toInt = v2) (hS : rng S) {vr : Int} {Sr : SS} (h : f_Setter_setPiece rk S v1 v2 = some (vr, Sr)) : cI l yX7_setPiece cX7_setPiece 5 .int (dr + 1) D kc b (jX b kc T) S [.ref (b + 178), .int x1, .int x2] vr Sr := by
  refine g_beg_i (by decide) (Nat.le_of_ble_eq_true rfl) ?_
  intro p e s m args below meth c Q C ret hM ls hl
  obtain ⟨hx, hb, hml, hown, hts, hE, hbs⟩ := id C
  have hl : lv_has ls 5 [(0, .ref (b + 178)), (1, .int x1), (2, .int x2)] := hl
  unfold f_Setter_setPiece at h
  have B58 : ∀ (S : SS) (H : Heap) (locs : List Loc) (ls : Array Slot) (x3_ : Int32) (v3_ : Int) (hx3_ : x3_.toInt = v3_) (j4_ : Nat) (hj4_ : j4_ < 40), rng S → mS D b s 220 (jX b kc T S) H locs → lv_has ls 5 [(0, .ref (b + 178)), (2, .int x2), (3, .int x3_), (4, .ref (b + (14 + 4 * j4_)))] → f_Setter_setPiece_58 rk v1 v2 S v3_ j4_ = some (vr, Sr) → W p l e (mR (dr + 1) 0 0) s m args below meth c H locs 0 0 Q (F0 m 58 ls []) := by
    intro S H locs ls x3_ v3_ hx3_ j4_ hj4_ hS hM hl h
    unfold f_Setter_setPiece_58 at h
    refine lv_aload hx hb dX7_setPiece_58 (lv_at hl 3 rfl) ?_
    refine g_getN fl_X7_75_X3 C hM (i := 14 + 4 * j4_) (r := 14 + 4 * j4_) (by omega) (e_mk b kc T S hj4_) rfl hS dX7_setPiece_60 (fun z1_z bz1_z => ?_)
    refine lv_iconst (v := 3) hx hb dX7_setPiece_63 (by decide) ?_
    refine g_icmp_ne (tgt := 117) hx hb bz1_z (show (3 : Int32).toInt = 3 by decide) h dX7_setPiece_64 (by decide) (fun h => ?_) (fun h => ?_)
    · refine lv_aload hx hb dX7_setPiece_117 (lv_at hl 3 rfl) ?_
      refine g_getN fl_X7_92_X3 C hM (i := 14 + 4 * j4_) (r := 14 + 4 * j4_) (by omega) (e_mk b kc T S hj4_) rfl hS dX7_setPiece_119 (fun z2_z bz2_z => ?_)
      refine lv_iconst (v := 1) hx hb dX7_setPiece_122 (by decide) ?_
      refine g_iadd hx hb bz2_z (show (1 : Int32).toInt = 1 by decide) h dX7_setPiece_123 (fun z3_z bz3_z h => ?_)
      exact ret S _ _ _ _ z3_z (bz3_z.trans (r_1 h)) (r_2 h) hM hS dX7_setPiece_124
    · refine lv_aload_n hx hb dX7_setPiece_67 rfl (lv_at hl 0 rfl) ?_
      refine lv_iload_n hx hb dX7_setPiece_68 rfl (lv_at hl 2 rfl) ?_
      refine lv_iconst (v := 1) hx hb dX7_setPiece_69 (by decide) ?_
      obtain ⟨S4_z, cS4_z, h⟩ := w_b1E h
      refine g_callV (J := jX b kc T) (m_runV calV_X7_mind wd_677 (g_Setter_mind l D kc b T S x3_ v3_ hx3_ 1 1 (show (1 : Int32).toInt = 1 by decide) hS cS4_z) C hM (i := 178) (by omega) (e_178 b kc T S) rfl hl.1 rfl rfl (Nat.le_of_ble_eq_true rfl) dX7_setPiece_70 (m_room (by omega) (by omega)) ⟨Nat.le_of_ble_eq_true rfl, Nat.le_of_ble_eq_true rfl⟩) hM (fun H locs hM hS => ?_)
      refine lv_aload_n hx hb dX7_setPiece_73 rfl (lv_at hl 0 rfl) ?_
      refine lv_aload hx hb dX7_setPiece_74 (lv_at hl 3 rfl) ?_
      refine lv_iconst (v := 1) hx hb dX7_setPiece_76 (by decide) ?_
      obtain ⟨r6_z, cr6_z, h⟩ := w_b1E h
      refine g_callI (J := jX b kc T) (m_runV calV_X3_number wd_695 (g_Mark_number l D kc b T S4_z j4_ hj4_ 1 1 (show (1 : Int32).toInt = 1 by decide) hS cr6_z) C hM (i := 14 + 4 * j4_) (by omega) (e_mk b kc T S4_z hj4_) rfl hl.1 rfl rfl (Nat.le_of_ble_eq_true rfl) dX7_setPiece_77 (m_room (by omega) (by omega)) ⟨Nat.le_of_ble_eq_true rfl, Nat.le_of_ble_eq_true rfl⟩) hM (fun z7_z H locs bz7_z hM hS => ?_)
      refine lv_aload hx hb dX7_setPiece_80 (lv_at hl 3 rfl) ?_
      refine g_getN fl_X7_92_X3 C hM (i := 14 + 4 * j4_) (r := 14 + 4 * j4_) (by omega) (e_mk b kc T S4_z hj4_) rfl hS dX7_setPiece_82 (fun z8_z bz8_z => ?_)
      refine lv_iload_n hx hb dX7_setPiece_85 rfl (lv_at hl 1 rfl) ?_
      refine lv_iconst (v := 1) hx hb dX7_setPiece_86 (by decide) ?_
      refine g_iadd hx hb hx2 (show (1 : Int32).toInt = 1 by decide) h dX7_setPiece_87 (fun z9_z bz9_z h => ?_)
      obtain ⟨S10_z, cS10_z, h⟩ := w_b1E h
      refine g_callV (J := jX b kc T) (m_runV calV_X7_setRow wd_681 (hrk S4_z z7_z r6_z bz7_z z8_z (gi S4_z (14 + 4 * j4_) 5) bz8_z z9_z (v2 + 1) bz9_z hS _ cS10_z) C hM (i := 178) (by omega) (e_178 b kc T S4_z) rfl hl.1 rfl rfl (Nat.le_of_ble_eq_true rfl) dX7_setPiece_88 (m_room (by omega) (by omega)) ⟨Nat.le_of_ble_eq_true rfl, Nat.le_of_ble_eq_true rfl⟩) hM (fun H locs hM hS => ?_)
      refine lv_aload_n hx hb dX7_setPiece_91 rfl (lv_at hl 0 rfl) ?_
      refine lv_aload hx hb dX7_setPiece_92 (lv_at hl 3 rfl) ?_
      refine g_getN fl_X7_89_X3 C hM (i := 14 + 4 * j4_) (r := 14 + 4 * j4_) (by omega) (e_mk b kc T S10_z hj4_) rfl hS dX7_setPiece_94 (fun z12_z bz12_z => ?_)
      refine lv_aload hx hb dX7_setPiece_97 (lv_at hl 3 rfl) ?_
      refine lv_iconst (v := 1) hx hb dX7_setPiece_99 (by decide) ?_
      obtain ⟨r13_z, cr13_z, h⟩ := w_b1E h
      refine g_callI (J := jX b kc T) (m_runV calV_X3_number wd_695 (g_Mark_number l D kc b T S10_z j4_ hj4_ 1 1 (show (1 : Int32).toInt = 1 by decide) hS cr13_z) C hM (i := 14 + 4 * j4_) (by omega) (e_mk b kc T S10_z hj4_) rfl hl.1 rfl rfl (Nat.le_of_ble_eq_true rfl) dX7_setPiece_100 (m_room (by omega) (by omega)) ⟨Nat.le_of_ble_eq_true rfl, Nat.le_of_ble_eq_true rfl⟩) hM (fun z14_z H locs bz14_z hM hS => ?_)
      refine lv_iconst (v := 1) hx hb dX7_setPiece_103 (by decide) ?_
      refine g_isub hx hb bz14_z (show (1 : Int32).toInt = 1 by decide) h dX7_setPiece_104 (fun z15_z bz15_z h => ?_)
      refine lv_iload_n hx hb dX7_setPiece_105 rfl (lv_at hl 1 rfl) ?_
      refine lv_iconst (v := 1) hx hb dX7_setPiece_106 (by decide) ?_
      refine g_iadd hx hb hx2 (show (1 : Int32).toInt = 1 by decide) h dX7_setPiece_107 (fun z16_z bz16_z h => ?_)
      obtain ⟨S17_z, cS17_z, h⟩ := w_b1E h
      refine g_callV (J := jX b kc T) (m_runV calV_X7_setRow wd_681 (hrk S10_z z12_z (gi S10_z (14 + 4 * j4_) 4) bz12_z z15_z (r13_z - 1) bz15_z z16_z (v2 + 1) bz16_z hS _ cS17_z) C hM (i := 178) (by omega) (e_178 b kc T S10_z) rfl hl.1 rfl rfl (Nat.le_of_ble_eq_true rfl) dX7_setPiece_108 (m_room (by omega) (by omega)) ⟨Nat.le_of_ble_eq_true rfl, Nat.le_of_ble_eq_true rfl⟩) hM (fun H locs hM hS => ?_)
      refine lv_aload_n hx hb dX7_setPiece_111 rfl (lv_at hl 0 rfl) ?_
      refine lv_iload_n hx hb dX7_setPiece_112 rfl (lv_at hl 2 rfl) ?_
      refine lv_iconst (v := 0) hx hb dX7_setPiece_113 (by decide) ?_
      obtain ⟨S19_z, cS19_z, h⟩ := w_b1E h
      refine g_callV (J := jX b kc T) (m_runV calV_X7_mind wd_677 (g_Setter_mind l D kc b T S17_z x3_ v3_ hx3_ 0 0 (show (0 : Int32).toInt = 0 by decide) hS cS19_z) C hM (i := 178) (by omega) (e_178 b kc T S17_z) rfl hl.1 rfl rfl (Nat.le_of_ble_eq_true rfl) dX7_setPiece_114 (m_room (by omega) (by omega)) ⟨Nat.le_of_ble_eq_true rfl, Nat.le_of_ble_eq_true rfl⟩) hM (fun H locs hM hS => ?_)
      refine lv_aload hx hb dX7_setPiece_117 (lv_at hl 3 rfl) ?_
      refine g_getN fl_X7_92_X3 C hM (i := 14 + 4 * j4_) (r := 14 + 4 * j4_) (by omega) (e_mk b kc T S19_z hj4_) rfl hS dX7_setPiece_119 (fun z21_z bz21_z => ?_)
      refine lv_iconst (v := 1) hx hb dX7_setPiece_122 (by decide) ?_
      refine g_iadd hx hb bz21_z (show (1 : Int32).toInt = 1 by decide) h dX7_setPiece_123 (fun z22_z bz22_z h => ?_)
      exact ret S19_z _ _ _ _ z22_z (bz22_z.trans (r_1 h)) (r_2 h) hM hS dX7_setPiece_124
  refine lv_aload_n hx hb dX7_setPiece_0 rfl (lv_at hl 0 rfl) ?_
  refine lv_iload_n hx hb dX7_setPiece_1 rfl (lv_at hl 1 rfl) ?_
  obtain ⟨r1_z, cr1_z, h⟩ := w_b1E h
  refine g_callI (J := jX b kc T) (m_runV calV_X7_outermostAt wd_689 (g_Setter_outermostAt l D kc b T S x1 v1 hx1 hS cr1_z) C hM (i := 178) (by omega) (e_178 b kc T S) rfl hl.1 rfl rfl (Nat.le_of_ble_eq_true rfl) dX7_setPiece_2 (m_room (by omega) (by omega)) ⟨Nat.le_of_ble_eq_true rfl, Nat.le_of_ble_eq_true rfl⟩) hM (fun z2_z H locs bz2_z hM hS => ?_)
  refine lv_istore_n (lv' := [(3, .int z2_z), (0, .ref (b + 178)), (1, .int x1), (2, .int x2)]) hx hb dX7_setPiece_5 rfl hl (by decide) rfl (fun ls hl => ?_)
  refine lv_aload_n hx hb dX7_setPiece_6 rfl (lv_at hl 1 rfl) ?_
  refine lv_iload_n hx hb dX7_setPiece_7 rfl (lv_at hl 0 rfl) ?_
  obtain ⟨o3_z, co3_z, h⟩ := w_b1E h
  refine g_callQ (J := jX b kc T) (m_runV calV_X7_takenAt wd_668 (g_Setter_takenAt l D kc b T S z2_z r1_z bz2_z hS co3_z) C hM (i := 178) (by omega) (e_178 b kc T S) rfl hl.1 rfl rfl (Nat.le_of_ble_eq_true rfl) dX7_setPiece_8 (m_room (by omega) (by omega)) ⟨Nat.le_of_ble_eq_true rfl, Nat.le_of_ble_eq_true rfl⟩) hM (fun z4_z H locs bz4_z hM hS => ?_)
  subst bz4_z
  refine lv_astoreq (lv' := [(4, va_rf (om b o3_z)), (3, .int z2_z), (0, .ref (b + 178)), (1, .int x1), (2, .int x2)]) hx hb dX7_setPiece_11 hl (by decide) rfl (fun ls hl => ?_)
  refine lv_aloadq hx hb dX7_setPiece_13 (lv_at hl 0 rfl) ?_
  cases o3_z with
  | none =>
    replace h := w_onN h
    have hl : lv_has ls 5 [(4, .null), (3, .int z2_z), (0, .ref (b + 178)), (1, .int x1), (2, .int x2)] := hl
    refine lv_ifnonnullN hx hb dX7_setPiece_15 ?_
    refine lv_aload_n hx hb dX7_setPiece_18 rfl (lv_at hl 2 rfl) ?_
    refine g_getqs fl_X7_42_X7 C hM (i := 178) (r := 178) (by omega) (e_178 b kc T S) rfl h dX7_setPiece_19 (fun q6_z hq6_z h => ?_)
    refine lv_aload_n hx hb dX7_setPiece_22 rfl (lv_at hl 2 rfl) ?_
    refine g_getqs fl_X7_38_X7 C hM (i := 178) (r := 178) (by omega) (e_178 b kc T S) rfl h dX7_setPiece_23 (fun q7_z hq7_z h => ?_)
    refine lv_iload_n hx hb dX7_setPiece_26 rfl (lv_at hl 3 rfl) ?_
    obtain ⟨w8_z, cw8_z, h⟩ := w_b1E h
    refine g_callL (J := jX b kc T) (m_runV calV_X8_wordAt wd_693 (g_Sheet_wordAt l D kc b T S q7_z hq7_z x1 v1 hx1 hS cw8_z) C hM (i := q7_z) (by omega) (e_sh b kc T S hq7_z) rfl hl.1 rfl rfl (Nat.le_of_ble_eq_true rfl) dX7_setPiece_27 (m_room (by omega) (by omega)) ⟨Nat.le_of_ble_eq_true rfl, Nat.le_of_ble_eq_true rfl⟩) hM (fun z9_z H locs bz9_z hM hS => ?_)
    have ez9_z := bz9_z.symm
    subst ez9_z
    obtain ⟨S10_z, cS10_z, h⟩ := w_b1E h
    refine g_callV (J := jX b kc T) (m_runV calV_X8_add wd_694 (g_Sheet_add l D kc b T S q6_z hq6_z w8_z hS cS10_z) C hM (i := q6_z) (by omega) (e_sh b kc T S hq6_z) rfl hl.1 rfl rfl (Nat.le_of_ble_eq_true rfl) dX7_setPiece_30 (m_room (by omega) (by omega)) ⟨Nat.le_of_ble_eq_true rfl, Nat.le_of_ble_eq_true rfl⟩) hM (fun H locs hM hS => ?_)
    refine lv_iload_n hx hb dX7_setPiece_33 rfl (lv_at hl 3 rfl) ?_
    refine lv_iconst (v := 1) hx hb dX7_setPiece_34 (by decide) ?_
    refine g_iadd hx hb hx1 (show (1 : Int32).toInt = 1 by decide) h dX7_setPiece_35 (fun z12_z bz12_z h => ?_)
    exact ret S10_z _ _ _ _ z12_z (bz12_z.trans (r_1 h)) (r_2 h) hM hS dX7_setPiece_36
  | some j5_z =>
    obtain ⟨hj5_z, h⟩ := w_chkE (w_onS h)
    have hl : lv_has ls 5 [(4, .ref (b + (14 + 4 * j5_z))), (3, .int z2_z), (0, .ref (b + 178)), (1, .int x1), (2, .int x2)] := hl
    refine lv_ifnonnull (tgt := 37) hx hb dX7_setPiece_15 (by decide) ?_
    refine lv_aload hx hb dX7_setPiece_37 (lv_at hl 0 rfl) ?_
    refine g_getN fl_X7_75_X3 C hM (i := 14 + 4 * j5_z) (r := 14 + 4 * j5_z) (by omega) (e_mk b kc T S hj5_z) rfl hS dX7_setPiece_39 (fun z13_z bz13_z => ?_)
    refine lv_iconst (v := 2) hx hb dX7_setPiece_42 (by decide) ?_
    refine g_icmp_ne (tgt := 58) hx hb bz13_z (show (2 : Int32).toInt = 2 by decide) h dX7_setPiece_43 (by decide) (fun h => ?_) (fun h => ?_)
    · exact B58 S _ _ _ z2_z r1_z bz2_z j5_z hj5_z hS hM (lv_sub hl [2, 4, 1, 0] rfl) h
    · refine lv_aload_n hx hb dX7_setPiece_46 rfl (lv_at hl 2 rfl) ?_
      refine g_getqs fl_X7_42_X7 C hM (i := 178) (r := 178) (by omega) (e_178 b kc T S) rfl h dX7_setPiece_47 (fun q14_z hq14_z h => ?_)
      refine lv_aload hx hb dX7_setPiece_50 (lv_at hl 0 rfl) ?_
      refine m_getN fl_X7_78_X3 C hM (i := 14 + 4 * j5_z) (by omega) (e_mk b kc T S hj5_z) (v := .ref (b + (14 + 4 * j5_z + 2))) rfl dX7_setPiece_52 ?_
      obtain ⟨S15_z, cS15_z, h⟩ := w_b1E h
      refine g_callV (J := jX b kc T) (m_runV calV_X8_addAll wd_676 (g_Sheet_addAll l D kc b T S q14_z hq14_z (14 + 4 * j5_z + 2) (show shOk (14 + 4 * j5_z + 2) by omega) hS cS15_z) C hM (i := q14_z) (by omega) (e_sh b kc T S hq14_z) rfl hl.1 rfl rfl (Nat.le_of_ble_eq_true rfl) dX7_setPiece_55 (m_room (by omega) (by omega)) ⟨Nat.le_of_ble_eq_true rfl, Nat.le_of_ble_eq_true rfl⟩) hM (fun H locs hM hS => ?_)
      exact B58 S15_z _ _ _ z2_z r1_z bz2_z j5_z hj5_z hS hM (lv_sub hl [2, 4, 1, 0] rfl) h

def f_Setter_setRowB_51 (rk : SS → Int → Int → Int → Option SS) (v1 : Int) (v2 : Int) (v3 : Int) (kf13_ : SS → Int → Int → Option SS) (S : SS) (v4_ : Int) (v5_ : Int) : Option SS := w_chk (i32 (v5_ + 1)) (kf13_ S v4_ (v5_ + 1))
def f_Setter_setRowB_42 (rk : SS → Int → Int → Int → Option SS) (v1 : Int) (v2 : Int) (v3 : Int) (kf13_ : SS → Int → Int → Option SS) (S : SS) (v5_ : Int) : Option SS := w_b2 (f_Setter_setPiece rk S v5_ v3) (fun r2_z S1_z => f_Setter_setRowB_51 rk v1 v2 v3 kf13_ S1_z r2_z v5_)
def f_Setter_setRowB_13_b (rk : SS → Int → Int → Int → Option SS) (v1 : Int) (v2 : Int) (v3 : Int) (kf13_ : SS → Int → Int → Option SS) (S : SS) (v4_ : Int) (v5_ : Int) : Option SS := (if v2 < v5_ then some S else (if v4_ ≤ v5_ then (if v5_ ≤ v1 then f_Setter_setRowB_42 rk v1 v2 v3 kf13_ S v5_ else w_b1 (f_Setter_setGap rk S v5_ v3) (fun S1_z => f_Setter_setRowB_42 rk v1 v2 v3 kf13_ S1_z v5_)) else f_Setter_setRowB_51 rk v1 v2 v3 kf13_ S v4_ v5_))
def f_Setter_setRowB_13 (rk : SS → Int → Int → Int → Option SS) (v1 : Int) (v2 : Int) (v3 : Int) : Nat → SS → Int → Int → Option SS
  | 0 => fun _ _ _ => none
  | n + 1 => f_Setter_setRowB_13_b rk v1 v2 v3 (f_Setter_setRowB_13 rk v1 v2 v3 n)
def f_Setter_setRowB (rk : SS → Int → Int → Int → Option SS) (S : SS) (v1 : Int) (v2 : Int) (v3 : Int) : Option SS := (if v3 ≤ 40 then f_Setter_setRowB_13 rk v1 v2 v3 FU S v1 v1 else some S)
set_option maxHeartbeats 4000000 in
set_option maxRecDepth 100000 in
theorem g_Setter_setRowB (l : Launch) (D : va_G) (kc : Nat → ClassId) (b : Nat) (T : SS) (dr : Nat) (hdr : 5 ≤ dr) (rk : SS → Int → Int → Int → Option SS) (hrk : ∀ (S : SS) (x1 : Int32) (v1 : Int) (hx1 : x1.toInt = v1) (x2 : Int32) (v2 : Int) (hx2 : x2.toInt = v2) (x3 : Int32) (v3 : Int) (hx3 : x3.toInt = v3) (hS : rng S) (Sr : SS), rk S v1 v2 v3 = some Sr → cV l yX7_setRow cX7_setRow 6 dr D kc b (jX b kc T) S [.ref (b + 178), .int x1, .int x2, .int x3] Sr) (S : SS) (x1 : Int32) (v1 : Int) (hx1 : x1.toInt = v1) (x2 : Int32) (v2 : Int) (hx2 : x2.toInt = v2) (x3 : Int32) (v3 : Int) (hx3 : x3.toInt = v3) (hS : rng S) {Sr : SS} (h : f_Setter_setRowB rk S v1 v2 v3 = some Sr) : cV l yX7_setRow cX7_setRow 6 (dr + 2) D kc b (jX b kc T) S [.ref (b + 178), .int x1, .int x2, .int x3] Sr := by
  refine g_beg_v (by decide) (Nat.le_of_ble_eq_true rfl) ?_
  intro p e s m args below meth c Q C ret hM ls hl
  obtain ⟨hx, hb, hml, hown, hts, hE, hbs⟩ := id C
  have hl : lv_has ls 6 [(0, .ref (b + 178)), (1, .int x1), (2, .int x2), (3, .int x3)] := hl
  unfold f_Setter_setRowB at h
  have B51 : ∀ (kf13_ : SS → Int → Int → Option SS) (hkf13_ : ∀ (S : SS) (H : Heap) (locs : List Loc) (ls : Array Slot) (x4_ : Int32) (v4_ : Int) (hx4_ : x4_.toInt = v4_) (x5_ : Int32) (v5_ : Int) (hx5_ : x5_.toInt = v5_), rng S → mS D b s 220 (jX b kc T S) H locs → lv_has ls 6 [(0, .ref (b + 178)), (1, .int x1), (2, .int x2), (3, .int x3), (4, .int x4_), (5, .int x5_)] → kf13_ S v4_ v5_ = some Sr → W p l e (mR (dr + 2) 0 0) s m args below meth c H locs 0 0 Q (F0 m 13 ls [])), ∀ (S : SS) (H : Heap) (locs : List Loc) (ls : Array Slot) (x4_ : Int32) (v4_ : Int) (hx4_ : x4_.toInt = v4_) (x5_ : Int32) (v5_ : Int) (hx5_ : x5_.toInt = v5_), rng S → mS D b s 220 (jX b kc T S) H locs → lv_has ls 6 [(0, .ref (b + 178)), (1, .int x1), (2, .int x2), (3, .int x3), (4, .int x4_), (5, .int x5_)] → f_Setter_setRowB_51 rk v1 v2 v3 kf13_ S v4_ v5_ = some Sr → W p l e (mR (dr + 2) 0 0) s m args below meth c H locs 0 0 Q (F0 m 51 ls []) := by
    intro kf13_ hkf13_ S H locs ls x4_ v4_ hx4_ x5_ v5_ hx5_ hS hM hl h
    unfold f_Setter_setRowB_51 at h
    refine g_iinc (y := 1) hx hb hx5_ (by decide) (by decide) h dX7_setRow_51 hl (k := 5) rfl (by decide) (fun z1_z ls bz1_z h hl => ?_)
    have hl : lv_has ls 6 [(5, .int z1_z), (0, .ref (b + 178)), (1, .int x1), (2, .int x2), (3, .int x3), (4, .int x4_)] := hl
    refine lv_goto (tgt := 13) hx hb dX7_setRow_54 (by decide) ?_
    exact hkf13_ S _ _ _ x4_ v4_ hx4_ z1_z (v5_ + 1) bz1_z hS hM (lv_sub hl [1, 2, 3, 4, 5, 0] rfl) h
  have B42 : ∀ (kf13_ : SS → Int → Int → Option SS) (hkf13_ : ∀ (S : SS) (H : Heap) (locs : List Loc) (ls : Array Slot) (x4_ : Int32) (v4_ : Int) (hx4_ : x4_.toInt = v4_) (x5_ : Int32) (v5_ : Int) (hx5_ : x5_.toInt = v5_), rng S → mS D b s 220 (jX b kc T S) H locs → lv_has ls 6 [(0, .ref (b + 178)), (1, .int x1), (2, .int x2), (3, .int x3), (4, .int x4_), (5, .int x5_)] → kf13_ S v4_ v5_ = some Sr → W p l e (mR (dr + 2) 0 0) s m args below meth c H locs 0 0 Q (F0 m 13 ls [])), ∀ (S : SS) (H : Heap) (locs : List Loc) (ls : Array Slot) (x5_ : Int32) (v5_ : Int) (hx5_ : x5_.toInt = v5_), rng S → mS D b s 220 (jX b kc T S) H locs → lv_has ls 6 [(0, .ref (b + 178)), (1, .int x1), (2, .int x2), (3, .int x3), (5, .int x5_)] → f_Setter_setRowB_42 rk v1 v2 v3 kf13_ S v5_ = some Sr → W p l e (mR (dr + 2) 0 0) s m args below meth c H locs 0 0 Q (F0 m 42 ls []) := by
    intro kf13_ hkf13_ S H locs ls x5_ v5_ hx5_ hS hM hl h
    unfold f_Setter_setRowB_42 at h
    refine lv_aload_n hx hb dX7_setRow_42 rfl (lv_at hl 0 rfl) ?_
    refine lv_iload hx hb dX7_setRow_43 (lv_at hl 4 rfl) ?_
    refine lv_iload_n hx hb dX7_setRow_45 rfl (lv_at hl 3 rfl) ?_
    obtain ⟨r2_z, S1_z, cr2_z, h⟩ := w_b2E h
    refine g_callI (J := jX b kc T) (m_runV calV_X7_setPiece wd_685 (g_Setter_setPiece l D kc b T dr hdr rk hrk S x5_ v5_ hx5_ x3 v3 hx3 hS cr2_z) C hM (i := 178) (by omega) (e_178 b kc T S) rfl hl.1 rfl rfl (Nat.le_of_ble_eq_true rfl) dX7_setRow_46 (m_room (by omega) (by omega)) ⟨Nat.le_of_ble_eq_true rfl, Nat.le_of_ble_eq_true rfl⟩) hM (fun z3_z H locs bz3_z hM hS => ?_)
    refine lv_istore (lv' := [(4, .int z3_z), (0, .ref (b + 178)), (1, .int x1), (2, .int x2), (3, .int x3), (5, .int x5_)]) hx hb dX7_setRow_49 hl (by decide) rfl (fun ls hl => ?_)
    exact B51 kf13_ hkf13_ S1_z _ _ _ z3_z r2_z bz3_z x5_ v5_ hx5_ hS hM (lv_sub hl [1, 2, 3, 4, 0, 5] rfl) h
  have B13 : ∀ (n : Nat), ∀ (S : SS) (H : Heap) (locs : List Loc) (ls : Array Slot) (x4_ : Int32) (v4_ : Int) (hx4_ : x4_.toInt = v4_) (x5_ : Int32) (v5_ : Int) (hx5_ : x5_.toInt = v5_), rng S → mS D b s 220 (jX b kc T S) H locs → lv_has ls 6 [(0, .ref (b + 178)), (1, .int x1), (2, .int x2), (3, .int x3), (4, .int x4_), (5, .int x5_)] → f_Setter_setRowB_13 rk v1 v2 v3 n S v4_ v5_ = some Sr → W p l e (mR (dr + 2) 0 0) s m args below meth c H locs 0 0 Q (F0 m 13 ls []) := by
    intro n
    induction n with
    | zero => intro S H locs ls x4_ v4_ hx4_ x5_ v5_ hx5_ hS hM hl h; exact absurd (h : none = some _) (fun q => nomatch q)
    | succ n hkf13_ =>
      intro S H locs ls x4_ v4_ hx4_ x5_ v5_ hx5_ hS hM hl h
      have h : f_Setter_setRowB_13_b rk v1 v2 v3 (f_Setter_setRowB_13 rk v1 v2 v3 n) S v4_ v5_ = some Sr := h
      unfold f_Setter_setRowB_13_b at h
      refine lv_iload hx hb dX7_setRow_13 (lv_at hl 5 rfl) ?_
      refine lv_iload_n hx hb dX7_setRow_15 rfl (lv_at hl 2 rfl) ?_
      refine g_icmp_gt (tgt := 57) hx hb hx5_ hx2 h dX7_setRow_16 (by decide) (fun h => ?_) (fun h => ?_)
      · exact ret S _ _ _ _ (Option.some.inj h) hM hS dX7_setRow_57
      · refine lv_iload hx hb dX7_setRow_19 (lv_at hl 5 rfl) ?_
        refine lv_iload hx hb dX7_setRow_21 (lv_at hl 4 rfl) ?_
        refine g_icmp_ge (tgt := 29) hx hb hx5_ hx4_ h dX7_setRow_23 (by decide) (fun h => ?_) (fun h => ?_)
        · refine lv_iload hx hb dX7_setRow_29 (lv_at hl 5 rfl) ?_
          refine lv_iload_n hx hb dX7_setRow_31 rfl (lv_at hl 1 rfl) ?_
          refine g_icmp_le (tgt := 42) hx hb hx5_ hx1 h dX7_setRow_32 (by decide) (fun h => ?_) (fun h => ?_)
          · exact B42 (f_Setter_setRowB_13 rk v1 v2 v3 n) hkf13_ S _ _ _ x5_ v5_ hx5_ hS hM (lv_sub hl [0, 1, 2, 3, 5] rfl) h
          · refine lv_aload_n hx hb dX7_setRow_35 rfl (lv_at hl 0 rfl) ?_
            refine lv_iload hx hb dX7_setRow_36 (lv_at hl 5 rfl) ?_
            refine lv_iload_n hx hb dX7_setRow_38 rfl (lv_at hl 3 rfl) ?_
            obtain ⟨S1_z, cS1_z, h⟩ := w_b1E h
            refine g_callV (J := jX b kc T) (m_runV calV_X7_setGap wd_664 (g_Setter_setGap l D kc b T dr hdr rk hrk S x5_ v5_ hx5_ x3 v3 hx3 hS cS1_z) C hM (i := 178) (by omega) (e_178 b kc T S) rfl hl.1 rfl rfl (Nat.le_of_ble_eq_true rfl) dX7_setRow_39 (m_room (by omega) (by omega)) ⟨Nat.le_of_ble_eq_true rfl, Nat.le_of_ble_eq_true rfl⟩) hM (fun H locs hM hS => ?_)
            exact B42 (f_Setter_setRowB_13 rk v1 v2 v3 n) hkf13_ S1_z _ _ _ x5_ v5_ hx5_ hS hM (lv_sub hl [0, 1, 2, 3, 5] rfl) h
        · refine lv_goto (tgt := 51) hx hb dX7_setRow_26 (by decide) ?_
          exact B51 (f_Setter_setRowB_13 rk v1 v2 v3 n) hkf13_ S _ _ _ x4_ v4_ hx4_ x5_ v5_ hx5_ hS hM (lv_sub hl [0, 1, 2, 3, 4, 5] rfl) h
  refine lv_iload_n hx hb dX7_setRow_0 rfl (lv_at hl 3 rfl) ?_
  refine lv_bipush (v := 40) hx hb dX7_setRow_1 (by decide) ?_
  refine g_icmp_le (tgt := 7) hx hb hx3 (show (40 : Int32).toInt = 40 by decide) h dX7_setRow_3 (by decide) (fun h => ?_) (fun h => ?_)
  · refine lv_iload_n hx hb dX7_setRow_7 rfl (lv_at hl 1 rfl) ?_
    refine lv_istore (lv' := [(4, .int x1), (0, .ref (b + 178)), (1, .int x1), (2, .int x2), (3, .int x3)]) hx hb dX7_setRow_8 hl (by decide) rfl (fun ls hl => ?_)
    refine lv_iload_n hx hb dX7_setRow_10 rfl (lv_at hl 2 rfl) ?_
    refine lv_istore (lv' := [(5, .int x1), (4, .int x1), (0, .ref (b + 178)), (1, .int x1), (2, .int x2), (3, .int x3)]) hx hb dX7_setRow_11 hl (by decide) rfl (fun ls hl => ?_)
    exact B13 FU S _ _ _ x1 v1 hx1 x1 v1 hx1 hS hM (lv_sub hl [2, 3, 4, 5, 1, 0] rfl) h
  · exact ret S _ _ _ _ (Option.some.inj h) hM hS dX7_setRow_6

def f_Setter_setRow : Nat → SS → Int → Int → Int → Option SS
  | 0 => fun _ _ _ _ => none
  | n + 1 => f_Setter_setRowB (f_Setter_setRow n)
set_option maxHeartbeats 4000000 in
set_option maxRecDepth 100000 in
theorem g_Setter_setRow (l : Launch) (D : va_G) (kc : Nat → ClassId) (b : Nat) (T : SS) : ∀ (n : Nat), ∀ (S : SS) (x1 : Int32) (v1 : Int) (hx1 : x1.toInt = v1) (x2 : Int32) (v2 : Int) (hx2 : x2.toInt = v2) (x3 : Int32) (v3 : Int) (hx3 : x3.toInt = v3) (hS : rng S) (Sr : SS), f_Setter_setRow n S v1 v2 v3 = some Sr → cV l yX7_setRow cX7_setRow 6 (2 * n + 5) D kc b (jX b kc T) S [.ref (b + 178), .int x1, .int x2, .int x3] Sr := by
  intro n
  induction n with
  | zero => intro S x1 v1 hx1 x2 v2 hx2 x3 v3 hx3 hS Sr h; exact absurd (h : none = some _) (fun q => nomatch q)
  | succ n ih =>
    intro S x1 v1 hx1 x2 v2 hx2 x3 v3 hx3 hS Sr h
    have e : 2 * (n + 1) + 5 = 2 * n + 5 + 2 := by omega
    rw [e]
    exact g_Setter_setRowB l D kc b T (2 * n + 5) (by omega) (f_Setter_setRow n) ih S x1 v1 hx1 x2 v2 hx2 x3 v3 hx3 hS h
