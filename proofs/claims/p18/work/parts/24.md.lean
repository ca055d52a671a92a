def f_M_readProof_51 (v1 : Int) (S : SS) (v4_ : Int) : Option (Option Int × SS) := w_lt (f_M_wrong S 1 v4_) (fun S1_z => some (none, S1_z))
def f_M_readProof_112 (v1 : Int) (kf7_ : SS → Int → Int → Int → Option (Option Int × SS)) (S : SS) (v2_ : Int) (v3_ : Int) (v4_ : Int) : Option (Option Int × SS) := w_chk (i32 (v4_ + 1)) (kf7_ S v2_ v3_ (v4_ + 1))
def f_M_readProof_86 (v1 : Int) (kf7_ : SS → Int → Int → Int → Option (Option Int × SS)) (S : SS) (v2_ : Int) (v3_ : Int) (v4_ : Int) (v5_ : Int) : Option (Option Int × SS) := w_chk (i32 (v2_ - 1)) (w_chk (i32 (v2_ - 1)) (w_chk (0 ≤ (v2_ - 1) ∧ (v2_ - 1) < 150) (w_chk (0 ≤ (v2_ - 1) ∧ (v2_ - 1) < 150) (w_lt (sl S 198 (v2_ - 1).toNat ((lsh (gl S 198 (v2_ - 1).toNat) 8) ||| (i2l v5_))) (fun S5_z => w_chk (i32 (v3_ + 1)) (f_M_readProof_112 v1 kf7_ S5_z v2_ (v3_ + 1) v4_))))))
def f_M_readProof_7_b (v1 : Int) (kf7_ : SS → Int → Int → Int → Option (Option Int × SS)) (S : SS) (v2_ : Int) (v3_ : Int) (v4_ : Int) : Option (Option Int × SS) := (if gi S 192 9 ≤ v4_ then some (some v2_, S) else w_b1 (f_M_byteAt S v4_) (fun r2_z => (if f_M_isBlank S r2_z = 0 then (if f_M_isOfWord S r2_z = 0 then f_M_readProof_51 v1 S v4_ else (if v3_ = 8 then f_M_readProof_51 v1 S v4_ else (if v3_ = 0 then (if v2_ = v1 then w_lt (f_M_wrong S 3 v4_) (fun S8_z => some (none, S8_z)) else w_chk (0 ≤ v2_ ∧ v2_ < 150) (w_lt (sl S 198 (v2_).toNat 0) (fun S6_z => w_chk (i32 (v2_ + 1)) (f_M_readProof_86 v1 kf7_ S6_z (v2_ + 1) v3_ v4_ r2_z)))) else f_M_readProof_86 v1 kf7_ S v2_ v3_ v4_ r2_z))) else f_M_readProof_112 v1 kf7_ S v2_ 0 v4_)))
def f_M_readProof_7 (v1 : Int) : Nat → SS → Int → Int → Int → Option (Option Int × SS)
  | 0 => fun _ _ _ _ => none
  | n + 1 => f_M_readProof_7_b v1 (f_M_readProof_7 v1 n)
def f_M_readProof (S : SS) (v1 : Int) : Option (Option Int × SS) := f_M_readProof_7 v1 FU S 0 0 0
set_option maxHeartbeats 4000000 in
set_option maxRecDepth 100000 in
theorem gw_M_readProof (l : Launch) (D : va_G) (kc : Nat → ClassId) (b : Nat) (T S : SS) (x1 : Int32) (v1 : Int) (hx1 : x1.toInt = v1) (hS : rng S) {vr : Option Int} {Sr : SS} (h : f_M_readProof S v1 = some (vr, Sr)) (p : Program) (e : Env) (s : State) (m : MethodId) (args : Array Value) (below : List Frame) (meth : Method) (c : Code) (Q : State → Prop) (C : mC p s m args c cX13_readProof 6 yX13_readProof.cls D kc b) (hlk : meth.locks = false) (hnt : c.exceptionTable.isEmpty = true) (ret : (∀ (S2 : SS) (H : Heap) (locs : List Loc) (ls : Array Slot) (pc : Nat) (x : Int32), vr = some x.toInt → S2 = Sr → mS D b s 220 (jM b kc T S2) H locs → rng S2 → decode cX13_readProof pc = .ok (.ireturn, 1) → W p l e (mR 3 0 0) s m args below meth c H locs 0 0 Q (F0 m pc ls [.int x]))) (thr : gThr p l e (mR 3 0 0) s m args below meth c Q D b (jM b kc T) (fun S2 => S2 = Sr ∧ vr = none)) (hM : mS D b s 220 (jM b kc T S) s.heap []) (ls : Array Slot) (hl : lv_has ls 6 (lv_args 0 [.ref (b + 192), .int x1])) : W p l e (mR 3 0 0) s m args below meth c s.heap [] 0 0 Q (F0 m 0 ls []) := by
  obtain ⟨hx, hb, hml, hown, hts, hE, hbs⟩ := id C
  have hl : lv_has ls 6 [(0, .ref (b + 192)), (1, .int x1)] := hl
  unfold f_M_readProof at h
  have B51 : ∀ (S : SS) (H : Heap) (locs : List Loc) (ls : Array Slot) (x4_ : Int32) (v4_ : Int) (hx4_ : x4_.toInt = v4_), rng S → mS D b s 220 (jM b kc T S) H locs → lv_has ls 6 [(0, .ref (b + 192)), (4, .int x4_)] → f_M_readProof_51 v1 S v4_ = some (vr, Sr) → W p l e (mR 3 0 0) s m args below meth c H locs 0 0 Q (F0 m 51 ls []) := by
    intro S H locs ls x4_ v4_ hx4_ hS hM hl h
    unfold f_M_readProof_51 at h
    refine lv_aload_n hx hb dX13_readProof_51 rfl (lv_at hl 0 rfl) ?_
    refine lv_iconst (v := 1) hx hb dX13_readProof_52 (by decide) ?_
    refine lv_iload hx hb dX13_readProof_53 (lv_at hl 1 rfl) ?_
    obtain ⟨S1_z, cS1_z, h⟩ := w_ltE h
    refine g_callQ (J := jM b kc T) (m_runV calV_X13_wrong wd_1252 (g_M_wrong l D kc b T S 1 1 (show (1 : Int32).toInt = 1 by decide) x4_ v4_ hx4_ hS cS1_z.symm) C hM (i := 192) (by omega) (e_192 b kc T S) rfl hl.1 rfl rfl (Nat.le_of_ble_eq_true rfl) dX13_readProof_55 ⟨Nat.le_of_ble_eq_true rfl, Nat.le_of_ble_eq_true rfl⟩ ⟨Nat.le_of_ble_eq_true rfl, Nat.le_of_ble_eq_true rfl⟩) hM (fun z2_z H locs bz2_z hM hS => ?_)
    subst bz2_z
    exact g_athrow C hlk hnt hM hS thr (And.intro (r_2 h) (r_1 h).symm) dX13_readProof_58
  have B112 : ∀ (kf7_ : SS → Int → Int → Int → Option (Option Int × SS)) (hkf7_ : ∀ (S : SS) (H : Heap) (locs : List Loc) (ls : Array Slot) (x2_ : Int32) (v2_ : Int) (hx2_ : x2_.toInt = v2_) (x3_ : Int32) (v3_ : Int) (hx3_ : x3_.toInt = v3_) (x4_ : Int32) (v4_ : Int) (hx4_ : x4_.toInt = v4_), rng S → mS D b s 220 (jM b kc T S) H locs → lv_has ls 6 [(0, .ref (b + 192)), (1, .int x1), (2, .int x2_), (3, .int x3_), (4, .int x4_)] → kf7_ S v2_ v3_ v4_ = some (vr, Sr) → W p l e (mR 3 0 0) s m args below meth c H locs 0 0 Q (F0 m 7 ls [])), ∀ (S : SS) (H : Heap) (locs : List Loc) (ls : Array Slot) (x2_ : Int32) (v2_ : Int) (hx2_ : x2_.toInt = v2_) (x3_ : Int32) (v3_ : Int) (hx3_ : x3_.toInt = v3_) (x4_ : Int32) (v4_ : Int) (hx4_ : x4_.toInt = v4_), rng S → mS D b s 220 (jM b kc T S) H locs → lv_has ls 6 [(0, .ref (b + 192)), (1, .int x1), (2, .int x2_), (3, .int x3_), (4, .int x4_)] → f_M_readProof_112 v1 kf7_ S v2_ v3_ v4_ = some (vr, Sr) → W p l e (mR 3 0 0) s m args below meth c H locs 0 0 Q (F0 m 112 ls []) := by
    intro kf7_ hkf7_ S H locs ls x2_ v2_ hx2_ x3_ v3_ hx3_ x4_ v4_ hx4_ hS hM hl h
    unfold f_M_readProof_112 at h
    refine g_iinc (y := 1) hx hb hx4_ (by decide) (by decide) h dX13_readProof_112 hl (k := 4) rfl (by decide) (fun z1_z ls bz1_z h hl => ?_)
    have hl : lv_has ls 6 [(4, .int z1_z), (0, .ref (b + 192)), (1, .int x1), (2, .int x2_), (3, .int x3_)] := hl
    refine lv_goto (tgt := 7) hx hb dX13_readProof_115 (by decide) ?_
    exact hkf7_ S _ _ _ x2_ v2_ hx2_ x3_ v3_ hx3_ z1_z (v4_ + 1) bz1_z hS hM (lv_sub hl [1, 2, 3, 4, 0] rfl) h
  have B86 : ∀ (kf7_ : SS → Int → Int → Int → Option (Option Int × SS)) (hkf7_ : ∀ (S : SS) (H : Heap) (locs : List Loc) (ls : Array Slot) (x2_ : Int32) (v2_ : Int) (hx2_ : x2_.toInt = v2_) (x3_ : Int32) (v3_ : Int) (hx3_ : x3_.toInt = v3_) (x4_ : Int32) (v4_ : Int) (hx4_ : x4_.toInt = v4_), rng S → mS D b s 220 (jM b kc T S) H locs → lv_has ls 6 [(0, .ref (b + 192)), (1, .int x1), (2, .int x2_), (3, .int x3_), (4, .int x4_)] → kf7_ S v2_ v3_ v4_ = some (vr, Sr) → W p l e (mR 3 0 0) s m args below meth c H locs 0 0 Q (F0 m 7 ls [])), ∀ (S : SS) (H : Heap) (locs : List Loc) (ls : Array Slot) (x2_ : Int32) (v2_ : Int) (hx2_ : x2_.toInt = v2_) (x3_ : Int32) (v3_ : Int) (hx3_ : x3_.toInt = v3_) (x4_ : Int32) (v4_ : Int) (hx4_ : x4_.toInt = v4_) (x5_ : Int32) (v5_ : Int) (hx5_ : x5_.toInt = v5_), rng S → mS D b s 220 (jM b kc T S) H locs → lv_has ls 6 [(0, .ref (b + 192)), (1, .int x1), (2, .int x2_), (3, .int x3_), (4, .int x4_), (5, .int x5_)] → f_M_readProof_86 v1 kf7_ S v2_ v3_ v4_ v5_ = some (vr, Sr) → W p l e (mR 3 0 0) s m args below meth c H locs 0 0 Q (F0 m 86 ls []) := by
    intro kf7_ hkf7_ S H locs ls x2_ v2_ hx2_ x3_ v3_ hx3_ x4_ v4_ hx4_ x5_ v5_ hx5_ hS hM hl h
    unfold f_M_readProof_86 at h
    refine lv_aload_n hx hb dX13_readProof_86 rfl (lv_at hl 0 rfl) ?_
    refine m_get fl_X13_48_X13 C hM (i := 192) (by omega) (e_192 b kc T S) (v := .ref (b + 198)) rfl dX13_readProof_87 ?_
    refine lv_iload_n hx hb dX13_readProof_90 rfl (lv_at hl 2 rfl) ?_
    refine lv_iconst (v := 1) hx hb dX13_readProof_91 (by decide) ?_
    refine g_isub hx hb hx2_ (show (1 : Int32).toInt = 1 by decide) h dX13_readProof_92 (fun z1_z bz1_z h => ?_)
    refine lv_aload_n hx hb dX13_readProof_93 rfl (lv_at hl 0 rfl) ?_
    refine m_get fl_X13_48_X13 C hM (i := 192) (by omega) (e_192 b kc T S) (v := .ref (b + 198)) rfl dX13_readProof_94 ?_
    refine lv_iload_n hx hb dX13_readProof_97 rfl (lv_at hl 2 rfl) ?_
    refine lv_iconst (v := 1) hx hb dX13_readProof_98 (by decide) ?_
    refine g_isub hx hb hx2_ (show (1 : Int32).toInt = 1 by decide) h dX13_readProof_99 (fun z2_z bz2_z h => ?_)
    refine g_lald C hM (j := 198) (by omega) (jK_M b kc T (by omega)) (a_198 b kc) bz2_z (B := 150) rfl h dX13_readProof_100 (fun h => ?_)
    refine lv_bipush (v := 8) hx hb dX13_readProof_101 (by decide) ?_
    refine g_lshl (d := 8) hx hb (show (8 : Int32).toInt = 8 by decide) dX13_readProof_103 ?_
    refine lv_iload hx hb dX13_readProof_104 (lv_at hl 5 rfl) ?_
    refine g_i2l (a := v5_) hx hb hx5_ dX13_readProof_106 (fun c4_z => ?_)
    refine lv_lor hx hb dX13_readProof_107 ?_
    refine g_last C hM (j := 198) (by omega) (jK_M b kc T (by omega)) (a_198 b kc) hS bz1_z (B := 150) rfl h dX13_readProof_108 (fun S5_z H locs h hM hS => ?_)
    refine g_iinc (y := 1) hx hb hx3_ (by decide) (by decide) h dX13_readProof_109 hl (k := 3) rfl (by decide) (fun z6_z ls bz6_z h hl => ?_)
    have hl : lv_has ls 6 [(3, .int z6_z), (0, .ref (b + 192)), (1, .int x1), (2, .int x2_), (4, .int x4_), (5, .int x5_)] := hl
    exact B112 kf7_ hkf7_ S5_z _ _ _ x2_ v2_ hx2_ z6_z (v3_ + 1) bz6_z x4_ v4_ hx4_ hS hM (lv_sub hl [1, 2, 3, 0, 4] rfl) h
  have B7 : ∀ (n : Nat), ∀ (S : SS) (H : Heap) (locs : List Loc) (ls : Array Slot) (x2_ : Int32) (v2_ : Int) (hx2_ : x2_.toInt = v2_) (x3_ : Int32) (v3_ : Int) (hx3_ : x3_.toInt = v3_) (x4_ : Int32) (v4_ : Int) (hx4_ : x4_.toInt = v4_), rng S → mS D b s 220 (jM b kc T S) H locs → lv_has ls 6 [(0, .ref (b + 192)), (1, .int x1), (2, .int x2_), (3, .int x3_), (4, .int x4_)] → f_M_readProof_7 v1 n S v2_ v3_ v4_ = some (vr, Sr) → W p l e (mR 3 0 0) s m args below meth c H locs 0 0 Q (F0 m 7 ls []) := by
    intro n
    induction n with
    | zero => intro S H locs ls x2_ v2_ hx2_ x3_ v3_ hx3_ x4_ v4_ hx4_ hS hM hl h; exact absurd (h : none = some _) (fun q => nomatch q)
    | succ n hkf7_ =>
      intro S H locs ls x2_ v2_ hx2_ x3_ v3_ hx3_ x4_ v4_ hx4_ hS hM hl h
      have h : f_M_readProof_7_b v1 (f_M_readProof_7 v1 n) S v2_ v3_ v4_ = some (vr, Sr) := h
      unfold f_M_readProof_7_b at h
      refine lv_iload hx hb dX13_readProof_7 (lv_at hl 4 rfl) ?_
      refine lv_aload_n hx hb dX13_readProof_9 rfl (lv_at hl 0 rfl) ?_
      refine g_get fl_X13_14_X13 C hM (i := 192) (r := 192) (by omega) (e_192 b kc T S) rfl hS dX13_readProof_10 (fun z1_z bz1_z => ?_)
      refine g_icmp_ge (tgt := 118) hx hb hx4_ bz1_z h dX13_readProof_13 (by decide) (fun h => ?_) (fun h => ?_)
      · refine lv_iload_n hx hb dX13_readProof_118 rfl (lv_at hl 2 rfl) ?_
        exact ret S _ _ _ _ x2_ ((r_1 h).symm.trans (congrArg some (Eq.symm hx2_))) (r_2 h) hM hS dX13_readProof_119
      · refine lv_aload_n hx hb dX13_readProof_16 rfl (lv_at hl 0 rfl) ?_
        refine lv_iload hx hb dX13_readProof_17 (lv_at hl 4 rfl) ?_
        obtain ⟨r2_z, cr2_z, h⟩ := w_b1E h
        refine g_callI (J := jM b kc T) (m_runV calV_X13_byteAt wd_1236 (g_M_byteAt l D kc b T S x4_ v4_ hx4_ hS cr2_z) C hM (i := 192) (by omega) (e_192 b kc T S) rfl hl.1 rfl rfl (Nat.le_of_ble_eq_true rfl) dX13_readProof_19 ⟨Nat.le_of_ble_eq_true rfl, Nat.le_of_ble_eq_true rfl⟩ ⟨Nat.le_of_ble_eq_true rfl, Nat.le_of_ble_eq_true rfl⟩) hM (fun z3_z H locs bz3_z hM hS => ?_)
        refine lv_istore (lv' := [(5, .int z3_z), (0, .ref (b + 192)), (1, .int x1), (2, .int x2_), (3, .int x3_), (4, .int x4_)]) hx hb dX13_readProof_22 hl (by decide) rfl (fun ls hl => ?_)
        refine lv_iload hx hb dX13_readProof_24 (lv_at hl 0 rfl) ?_
        refine g_callI (J := jM b kc T) (m_runS calS_X13_isBlank wd_1240 (g_M_isBlank l D kc b T S z3_z r2_z bz3_z hS rfl) C hM hl.1 rfl rfl (Nat.le_of_ble_eq_true rfl) dX13_readProof_26 ⟨Nat.le_of_ble_eq_true rfl, Nat.le_of_ble_eq_true rfl⟩ ⟨Nat.le_of_ble_eq_true rfl, Nat.le_of_ble_eq_true rfl⟩) hM (fun z4_z H locs bz4_z hM hS => ?_)
        refine g_if_eq (tgt := 37) hx hb bz4_z h dX13_readProof_29 (by decide) (fun h => ?_) (fun h => ?_)
        · refine lv_iload hx hb dX13_readProof_37 (lv_at hl 0 rfl) ?_
          refine g_callI (J := jM b kc T) (m_runS calS_X13_isOfWord wd_1243 (g_M_isOfWord l D kc b T S z3_z r2_z bz3_z hS rfl) C hM hl.1 rfl rfl (Nat.le_of_ble_eq_true rfl) dX13_readProof_39 ⟨Nat.le_of_ble_eq_true rfl, Nat.le_of_ble_eq_true rfl⟩ ⟨Nat.le_of_ble_eq_true rfl, Nat.le_of_ble_eq_true rfl⟩) hM (fun z5_z H locs bz5_z hM hS => ?_)
          refine g_if_eq (tgt := 51) hx hb bz5_z h dX13_readProof_42 (by decide) (fun h => ?_) (fun h => ?_)
          · exact B51 S _ _ _ x4_ v4_ hx4_ hS hM (lv_sub hl [1, 5] rfl) h
          · refine lv_iload_n hx hb dX13_readProof_45 rfl (lv_at hl 4 rfl) ?_
            refine lv_bipush (v := 8) hx hb dX13_readProof_46 (by decide) ?_
            refine g_icmp_ne (tgt := 59) hx hb hx3_ (show (8 : Int32).toInt = 8 by decide) h dX13_readProof_48 (by decide) (fun h => ?_) (fun h => ?_)
            · refine lv_iload_n hx hb dX13_readProof_59 rfl (lv_at hl 4 rfl) ?_
              refine g_if_ne (tgt := 86) hx hb hx3_ h dX13_readProof_60 (by decide) (fun h => ?_) (fun h => ?_)
              · exact B86 (f_M_readProof_7 v1 n) hkf7_ S _ _ _ x2_ v2_ hx2_ x3_ v3_ hx3_ x4_ v4_ hx4_ z3_z r2_z bz3_z hS hM (lv_sub hl [1, 2, 3, 4, 5, 0] rfl) h
              · refine lv_iload_n hx hb dX13_readProof_63 rfl (lv_at hl 3 rfl) ?_
                refine lv_iload_n hx hb dX13_readProof_64 rfl (lv_at hl 2 rfl) ?_
                refine g_icmp_ne (tgt := 76) hx hb hx2_ hx1 h dX13_readProof_65 (by decide) (fun h => ?_) (fun h => ?_)
                · refine lv_aload_n hx hb dX13_readProof_76 rfl (lv_at hl 1 rfl) ?_
                  refine m_get fl_X13_48_X13 C hM (i := 192) (by omega) (e_192 b kc T S) (v := .ref (b + 198)) rfl dX13_readProof_77 ?_
                  refine lv_iload_n hx hb dX13_readProof_80 rfl (lv_at hl 3 rfl) ?_
                  refine lv_lconst (v := 0) hx hb dX13_readProof_81 (by decide) ?_
                  refine g_last C hM (j := 198) (by omega) (jK_M b kc T (by omega)) (a_198 b kc) hS hx2_ (B := 150) rfl h dX13_readProof_82 (fun S6_z H locs h hM hS => ?_)
                  refine g_iinc (y := 1) hx hb hx2_ (by decide) (by decide) h dX13_readProof_83 hl (k := 3) rfl (by decide) (fun z7_z ls bz7_z h hl => ?_)
                  have hl : lv_has ls 6 [(2, .int z7_z), (5, .int z3_z), (0, .ref (b + 192)), (1, .int x1), (3, .int x3_), (4, .int x4_)] := hl
                  exact B86 (f_M_readProof_7 v1 n) hkf7_ S6_z _ _ _ z7_z (v2_ + 1) bz7_z x3_ v3_ hx3_ x4_ v4_ hx4_ z3_z r2_z bz3_z hS hM (lv_sub hl [2, 3, 0, 4, 5, 1] rfl) h
                · refine lv_aload_n hx hb dX13_readProof_68 rfl (lv_at hl 1 rfl) ?_
                  refine lv_iconst (v := 3) hx hb dX13_readProof_69 (by decide) ?_
                  refine lv_iload hx hb dX13_readProof_70 (lv_at hl 5 rfl) ?_
                  obtain ⟨S8_z, cS8_z, h⟩ := w_ltE h
                  refine g_callQ (J := jM b kc T) (m_runV calV_X13_wrong wd_1252 (g_M_wrong l D kc b T S 3 3 (show (3 : Int32).toInt = 3 by decide) x4_ v4_ hx4_ hS cS8_z.symm) C hM (i := 192) (by omega) (e_192 b kc T S) rfl hl.1 rfl rfl (Nat.le_of_ble_eq_true rfl) dX13_readProof_72 ⟨Nat.le_of_ble_eq_true rfl, Nat.le_of_ble_eq_true rfl⟩ ⟨Nat.le_of_ble_eq_true rfl, Nat.le_of_ble_eq_true rfl⟩) hM (fun z9_z H locs bz9_z hM hS => ?_)
                  subst bz9_z
                  exact g_athrow C hlk hnt hM hS thr (And.intro (r_2 h) (r_1 h).symm) dX13_readProof_75
            · exact B51 S _ _ _ x4_ v4_ hx4_ hS hM (lv_sub hl [1, 5] rfl) h
        · refine lv_iconst (v := 0) hx hb dX13_readProof_32 (by decide) ?_
          refine lv_istore_n (lv' := [(3, .int 0), (5, .int z3_z), (0, .ref (b + 192)), (1, .int x1), (2, .int x2_), (4, .int x4_)]) hx hb dX13_readProof_33 rfl hl (by decide) rfl (fun ls hl => ?_)
          refine lv_goto (tgt := 112) hx hb dX13_readProof_34 (by decide) ?_
          exact B112 (f_M_readProof_7 v1 n) hkf7_ S _ _ _ x2_ v2_ hx2_ 0 0 (show (0 : Int32).toInt = 0 by decide) x4_ v4_ hx4_ hS hM (lv_sub hl [2, 3, 4, 0, 5] rfl) h
  refine lv_iconst (v := 0) hx hb dX13_readProof_0 (by decide) ?_
  refine lv_istore_n (lv' := [(2, .int 0), (0, .ref (b + 192)), (1, .int x1)]) hx hb dX13_readProof_1 rfl hl (by decide) rfl (fun ls hl => ?_)
  refine lv_iconst (v := 0) hx hb dX13_readProof_2 (by decide) ?_
  refine lv_istore_n (lv' := [(3, .int 0), (2, .int 0), (0, .ref (b + 192)), (1, .int x1)]) hx hb dX13_readProof_3 rfl hl (by decide) rfl (fun ls hl => ?_)
  refine lv_iconst (v := 0) hx hb dX13_readProof_4 (by decide) ?_
  refine lv_istore (lv' := [(4, .int 0), (3, .int 0), (2, .int 0), (0, .ref (b + 192)), (1, .int x1)]) hx hb dX13_readProof_5 hl (by decide) rfl (fun ls hl => ?_)
  exact B7 FU S _ _ _ 0 0 (show (0 : Int32).toInt = 0 by decide) 0 0 (show (0 : Int32).toInt = 0 by decide) 0 0 (show (0 : Int32).toInt = 0 by decide) hS hM (lv_sub hl [3, 4, 2, 1, 0] rfl) h
theorem g_M_readProof (l : Launch) (D : va_G) (kc : Nat → ClassId) (b : Nat) (T S : SS) (x1 : Int32) (v1 : Int) (hx1 : x1.toInt = v1) (hS : rng S) {vr : Int} {Sr : SS} (h : f_M_readProof S v1 = some (some vr, Sr)) : cI l yX13_readProof cX13_readProof 6 .int 3 D kc b (jM b kc T) S [.ref (b + 192), .int x1] vr Sr :=
  g_ofR_i (by decide) (Nat.le_of_ble_eq_true rfl) (fun p e s m args below meth c Q C hlk hnt ret thr hM ls hl => gw_M_readProof l D kc b T S x1 v1 hx1 hS h p e s m args below meth c Q C hlk hnt ret thr hM ls hl)
theorem t_M_readProof (l : Launch) (D : va_G) (kc : Nat → ClassId) (b : Nat) (T S : SS) (x1 : Int32) (v1 : Int) (hx1 : x1.toInt = v1) (hS : rng S) {Sr : SS} (h : f_M_readProof S v1 = some (none, Sr)) : cT l yX13_readProof cX13_readProof 6 (some .int) 3 D kc b (jM b kc T) S [.ref (b + 192), .int x1] Sr :=
  g_ofT (α := Int) (by decide) (Nat.le_of_ble_eq_true rfl) (fun p e s m args below meth c Q C hlk hnt thr hM ls hl => gw_M_readProof l D kc b T S x1 v1 hx1 hS h p e s m args below meth c Q C hlk hnt (fun _ _ _ _ _ _ hx => nomatch hx) thr hM ls hl)

def f_M_number (S : SS) (v1 : Int) (v2 : Int) : Option (Option Int × SS) := (if gi S 192 12 = 2 then (if f_M_in S (gi S 192 13) v1 v2 = 0 then w_lt (f_M_wrong S 2 (gi S 192 10)) (fun S11_z => some (none, S11_z)) else w_b1 (f_M_scan S) (fun S8_z => some (some (gi S 192 13), S8_z))) else w_lt (f_M_wrong S 1 (gi S 192 10)) (fun S14_z => some (none, S14_z)))
set_option maxHeartbeats 4000000 in
set_option maxRecDepth 100000 in
theorem gw_M_number (l : Launch) (D : va_G) (kc : Nat → ClassId) (b : Nat) (T S : SS) (x1 : Int32) (v1 : Int) (hx1 : x1.toInt = v1) (x2 : Int32) (v2 : Int) (hx2 : x2.toInt = v2) (hS : rng S) {vr : Option Int} {Sr : SS} (h : f_M_number S v1 v2 = some (vr, Sr)) (p : Program) (e : Env) (s : State) (m : MethodId) (args : Array Value) (below : List Frame) (meth : Method) (c : Code) (Q : State → Prop) (C : mC p s m args c cX13_number 4 yX13_number.cls D kc b) (hlk : meth.locks = false) (hnt : c.exceptionTable.isEmpty = true) (ret : (∀ (S2 : SS) (H : Heap) (locs : List Loc) (ls : Array Slot) (pc : Nat) (x : Int32), vr = some x.toInt → S2 = Sr → mS D b s 220 (jM b kc T S2) H locs → rng S2 → decode cX13_number pc = .ok (.ireturn, 1) → W p l e (mR 3 0 0) s m args below meth c H locs 0 0 Q (F0 m pc ls [.int x]))) (thr : gThr p l e (mR 3 0 0) s m args below meth c Q D b (jM b kc T) (fun S2 => S2 = Sr ∧ vr = none)) (hM : mS D b s 220 (jM b kc T S) s.heap []) (ls : Array Slot) (hl : lv_has ls 4 (lv_args 0 [.ref (b + 192), .int x1, .int x2])) : W p l e (mR 3 0 0) s m args below meth c s.heap [] 0 0 Q (F0 m 0 ls []) := by
  obtain ⟨hx, hb, hml, hown, hts, hE, hbs⟩ := id C
  have hl : lv_has ls 4 [(0, .ref (b + 192)), (1, .int x1), (2, .int x2)] := hl
  unfold f_M_number at h
  refine lv_aload_n hx hb dX13_number_0 rfl (lv_at hl 0 rfl) ?_
  refine g_get fl_X13_162_X13 C hM (i := 192) (r := 192) (by omega) (e_192 b kc T S) rfl hS dX13_number_1 (fun z1_z bz1_z => ?_)
  refine lv_iconst (v := 2) hx hb dX13_number_4 (by decide) ?_
  refine g_icmp_eq (tgt := 18) hx hb bz1_z (show (2 : Int32).toInt = 2 by decide) h dX13_number_5 (by decide) (fun h => ?_) (fun h => ?_)
  · refine lv_aload_n hx hb dX13_number_18 rfl (lv_at hl 0 rfl) ?_
    refine g_get fl_X13_165_X13 C hM (i := 192) (r := 192) (by omega) (e_192 b kc T S) rfl hS dX13_number_19 (fun z2_z bz2_z => ?_)
    refine g_i2l (a := gi S 192 13) hx hb bz2_z dX13_number_22 (fun c3_z => ?_)
    refine lv_iload_n hx hb dX13_number_23 rfl (lv_at hl 1 rfl) ?_
    refine g_i2l (a := v1) hx hb hx1 dX13_number_24 (fun c4_z => ?_)
    refine lv_iload_n hx hb dX13_number_25 rfl (lv_at hl 2 rfl) ?_
    refine g_i2l (a := v2) hx hb hx2 dX13_number_26 (fun c5_z => ?_)
    refine g_callI (J := jM b kc T) (m_runS calS_X13_in wd_1221 (g_M_in l D kc b T S (i2l (gi S 192 13)) (gi S 192 13) c3_z (i2l v1) v1 c4_z (i2l v2) v2 c5_z hS rfl) C hM hl.1 rfl rfl (Nat.le_of_ble_eq_true rfl) dX13_number_27 ⟨Nat.le_of_ble_eq_true rfl, Nat.le_of_ble_eq_true rfl⟩ ⟨Nat.le_of_ble_eq_true rfl, Nat.le_of_ble_eq_true rfl⟩) hM (fun z6_z H locs bz6_z hM hS => ?_)
    refine g_if_ne (tgt := 43) hx hb bz6_z h dX13_number_30 (by decide) (fun h => ?_) (fun h => ?_)
    · refine lv_aload_n hx hb dX13_number_43 rfl (lv_at hl 0 rfl) ?_
      refine g_get fl_X13_165_X13 C hM (i := 192) (r := 192) (by omega) (e_192 b kc T S) rfl hS dX13_number_44 (fun z7_z bz7_z => ?_)
      refine lv_istore_n (lv' := [(3, .int z7_z), (0, .ref (b + 192)), (1, .int x1), (2, .int x2)]) hx hb dX13_number_47 rfl hl (by decide) rfl (fun ls hl => ?_)
      refine lv_aload_n hx hb dX13_number_48 rfl (lv_at hl 1 rfl) ?_
      obtain ⟨S8_z, cS8_z, h⟩ := w_b1E h
      refine g_callV (J := jM b kc T) (m_runV calV_X13_scan wd_1264 (g_M_scan l D kc b T S hS cS8_z) C hM (i := 192) (by omega) (e_192 b kc T S) rfl hl.1 rfl rfl (Nat.le_of_ble_eq_true rfl) dX13_number_49 ⟨Nat.le_of_ble_eq_true rfl, Nat.le_of_ble_eq_true rfl⟩ ⟨Nat.le_of_ble_eq_true rfl, Nat.le_of_ble_eq_true rfl⟩) hM (fun H locs hM hS => ?_)
      refine lv_iload_n hx hb dX13_number_52 rfl (lv_at hl 0 rfl) ?_
      exact ret S8_z _ _ _ _ z7_z ((r_1 h).symm.trans (congrArg some (Eq.symm bz7_z))) (r_2 h) hM hS dX13_number_53
    · refine lv_aload_n hx hb dX13_number_33 rfl (lv_at hl 0 rfl) ?_
      refine lv_iconst (v := 2) hx hb dX13_number_34 (by decide) ?_
      refine lv_aload_n hx hb dX13_number_35 rfl (lv_at hl 0 rfl) ?_
      refine g_get fl_X13_159_X13 C hM (i := 192) (r := 192) (by omega) (e_192 b kc T S) rfl hS dX13_number_36 (fun z10_z bz10_z => ?_)
      obtain ⟨S11_z, cS11_z, h⟩ := w_ltE h
      refine g_callQ (J := jM b kc T) (m_runV calV_X13_wrong wd_1252 (g_M_wrong l D kc b T S 2 2 (show (2 : Int32).toInt = 2 by decide) z10_z (gi S 192 10) bz10_z hS cS11_z.symm) C hM (i := 192) (by omega) (e_192 b kc T S) rfl hl.1 rfl rfl (Nat.le_of_ble_eq_true rfl) dX13_number_39 ⟨Nat.le_of_ble_eq_true rfl, Nat.le_of_ble_eq_true rfl⟩ ⟨Nat.le_of_ble_eq_true rfl, Nat.le_of_ble_eq_true rfl⟩) hM (fun z12_z H locs bz12_z hM hS => ?_)
      subst bz12_z
      exact g_athrow C hlk hnt hM hS thr (And.intro (r_2 h) (r_1 h).symm) dX13_number_42
  · refine lv_aload_n hx hb dX13_number_8 rfl (lv_at hl 0 rfl) ?_
    refine lv_iconst (v := 1) hx hb dX13_number_9 (by decide) ?_
    refine lv_aload_n hx hb dX13_number_10 rfl (lv_at hl 0 rfl) ?_
    refine g_get fl_X13_159_X13 C hM (i := 192) (r := 192) (by omega) (e_192 b kc T S) rfl hS dX13_number_11 (fun z13_z bz13_z => ?_)
    obtain ⟨S14_z, cS14_z, h⟩ := w_ltE h
    refine g_callQ (J := jM b kc T) (m_runV calV_X13_wrong wd_1252 (g_M_wrong l D kc b T S 1 1 (show (1 : Int32).toInt = 1 by decide) z13_z (gi S 192 10) bz13_z hS cS14_z.symm) C hM (i := 192) (by omega) (e_192 b kc T S) rfl hl.1 rfl rfl (Nat.le_of_ble_eq_true rfl) dX13_number_14 ⟨Nat.le_of_ble_eq_true rfl, Nat.le_of_ble_eq_true rfl⟩ ⟨Nat.le_of_ble_eq_true rfl, Nat.le_of_ble_eq_true rfl⟩) hM (fun z15_z H locs bz15_z hM hS => ?_)
    subst bz15_z
    exact g_athrow C hlk hnt hM hS thr (And.intro (r_2 h) (r_1 h).symm) dX13_number_17
theorem g_M_number (l : Launch) (D : va_G) (kc : Nat → ClassId) (b : Nat) (T S : SS) (x1 : Int32) (v1 : Int) (hx1 : x1.toInt = v1) (x2 : Int32) (v2 : Int) (hx2 : x2.toInt = v2) (hS : rng S) {vr : Int} {Sr : SS} (h : f_M_number S v1 v2 = some (some vr, Sr)) : cI l yX13_number cX13_number 4 .int 3 D kc b (jM b kc T) S [.ref (b + 192), .int x1, .int x2] vr Sr :=
  g_ofR_i (by decide) (Nat.le_of_ble_eq_true rfl) (fun p e s m args below meth c Q C hlk hnt ret thr hM ls hl => gw_M_number l D kc b T S x1 v1 hx1 x2 v2 hx2 hS h p e s m args below meth c Q C hlk hnt ret thr hM ls hl)
theorem t_M_number (l : Launch) (D : va_G) (kc : Nat → ClassId) (b : Nat) (T S : SS) (x1 : Int32) (v1 : Int) (hx1 : x1.toInt = v1) (x2 : Int32) (v2 : Int) (hx2 : x2.toInt = v2) (hS : rng S) {Sr : SS} (h : f_M_number S v1 v2 = some (none, Sr)) : cT l yX13_number cX13_number 4 (some .int) 3 D kc b (jM b kc T) S [.ref (b + 192), .int x1, .int x2] Sr :=
  g_ofT (α := Int) (by decide) (Nat.le_of_ble_eq_true rfl) (fun p e s m args below meth c Q C hlk hnt thr hM ls hl => gw_M_number l D kc b T S x1 v1 hx1 x2 v2 hx2 hS h p e s m args below meth c Q C hlk hnt (fun _ _ _ _ _ _ hx => nomatch hx) thr hM ls hl)

def f_M_readMove_105 (v1 : Int) (S : SS) : Option (Option Unit × SS) := w_b3 (f_M_number S 0 (gi S 192 3)) (fun S4_z => some (none, S4_z)) (fun r2_z S3_z => w_chk (0 ≤ v1 ∧ v1 < 41) (w_lt (si S3_z 203 (v1).toNat r2_z) (fun S6_z => some (some (), S6_z))))
def f_M_readMove_56 (v1 : Int) (S : SS) (vt0_ : Int) (vt1_ : Int) (vt3_ : Int) : Option (Option Unit × SS) := w_b3 (f_M_number S vt1_ vt0_) (fun S3_z => some (none, S3_z)) (fun r1_z S2_z => w_chk (0 ≤ vt3_ ∧ vt3_ < 41) (w_lt (si S2_z 202 (vt3_).toNat r1_z) (fun S5_z => (if gi S5_z 192 12 = 2 then w_chk (0 ≤ v1 ∧ v1 < 41) (w_chk (0 ≤ v1 ∧ v1 < 41) (w_chk (i64 ((gi S5_z 202 (v1).toNat) + 1)) ((if f_M_in S5_z (gi S5_z 192 13) (gi S5_z 201 (v1).toNat) ((gi S5_z 202 (v1).toNat) + 1) = 0 then f_M_readMove_105 v1 S5_z  else w_lt (f_M_wrong S5_z 2 (gi S5_z 192 10)) (fun S16_z => some (none, S16_z)))))) else f_M_readMove_105 v1 S5_z ))))
def f_M_readMove_23 (v1 : Int) (S : SS) (v2_ : Int) (vt0_ : Int) (vt2_ : Int) : Option (Option Unit × SS) := w_b3 (f_M_number S vt0_ v2_) (fun S3_z => some (none, S3_z)) (fun r1_z S2_z => w_chk (0 ≤ vt2_ ∧ vt2_ < 41) (w_lt (si S2_z 201 (vt2_).toNat r1_z) (fun S5_z => w_chk (0 ≤ v1 ∧ v1 < 41) (w_chk (0 ≤ v1 ∧ v1 < 41) ((if gi S5_z 201 (v1).toNat = 0 then w_chk (i32 (v2_ - 1)) (f_M_readMove_56 v1 S5_z (v2_ - 1) (gi S5_z 201 (v1).toNat) v1) else f_M_readMove_56 v1 S5_z v2_ (gi S5_z 201 (v1).toNat) v1))))))
def f_M_readMove (S : SS) (v1 : Int) : Option (Option Unit × SS) := w_chk (i32 ((gi S 192 3) - 1)) ((if 1 ≤ (gi S 192 3) - 1 then f_M_readMove_23 v1 S ((gi S 192 3) - 1) 0 v1 else f_M_readMove_23 v1 S ((gi S 192 3) - 1) 1 v1))
set_option maxHeartbeats 4000000 in
set_option maxRecDepth 100000 in
theorem gw_M_readMove (l : Launch) (D : va_G) (kc : Nat → ClassId) (b : Nat) (T S : SS) (x1 : Int32) (v1 : Int) (hx1 : x1.toInt = v1) (hS : rng S) {vr : Option Unit} {Sr : SS} (h : f_M_readMove S v1 = some (vr, Sr)) (p : Program) (e : Env) (s : State) (m : MethodId) (args : Array Value) (below : List Frame) (meth : Method) (c : Code) (Q : State → Prop) (C : mC p s m args c cX13_readMove 3 yX13_readMove.cls D kc b) (hlk : meth.locks = false) (hnt : c.exceptionTable.isEmpty = true) (ret : (∀ (S2 : SS) (H : Heap) (locs : List Loc) (ls : Array Slot) (pc : Nat), vr = some () → S2 = Sr → mS D b s 220 (jM b kc T S2) H locs → rng S2 → decode cX13_readMove pc = .ok (.return_, 1) → W p l e (mR 4 0 0) s m args below meth c H locs 0 0 Q (F0 m pc ls []))) (thr : gThr p l e (mR 4 0 0) s m args below meth c Q D b (jM b kc T) (fun S2 => S2 = Sr ∧ vr = none)) (hM : mS D b s 220 (jM b kc T S) s.heap []) (ls : Array Slot) (hl : lv_has ls 3 (lv_args 0 [.ref (b + 192), .int x1])) : W p l e (mR 4 0 0) s m args below meth c s.heap [] 0 0 Q (F0 m 0 ls []) := by
  obtain ⟨hx, hb, hml, hown, hts, hE, hbs⟩ := id C
  have hl : lv_has ls 3 [(0, .ref (b + 192)), (1, .int x1)] := hl
  unfold f_M_readMove at h
  have B105 : ∀ (S : SS) (H : Heap) (locs : List Loc) (ls : Array Slot), rng S → mS D b s 220 (jM b kc T S) H locs → lv_has ls 3 [(0, .ref (b + 192)), (1, .int x1)] → f_M_readMove_105 v1 S = some (vr, Sr) → W p l e (mR 4 0 0) s m args below meth c H locs 0 0 Q (F0 m 105 ls []) := by
    intro S H locs ls hS hM hl h
    unfold f_M_readMove_105 at h
    refine lv_aload_n hx hb dX13_readMove_105 rfl (lv_at hl 0 rfl) ?_
    refine m_get fl_X13_83_X13 C hM (i := 192) (by omega) (e_192 b kc T S) (v := .ref (b + 203)) rfl dX13_readMove_106 ?_
    refine lv_iload_n hx hb dX13_readMove_109 rfl (lv_at hl 1 rfl) ?_
    refine lv_aload_n hx hb dX13_readMove_110 rfl (lv_at hl 0 rfl) ?_
    refine lv_iconst (v := 0) hx hb dX13_readMove_111 (by decide) ?_
    refine lv_aload_n hx hb dX13_readMove_112 rfl (lv_at hl 0 rfl) ?_
    refine g_get fl_X13_150_X13 C hM (i := 192) (r := 192) (by omega) (e_192 b kc T S) rfl hS dX13_readMove_113 (fun z1_z bz1_z => ?_)
    rcases w_b3E h with ⟨r2_z, S3_z, cr2_z, h⟩ | ⟨S4_z, cr2_z, h⟩
    · refine g_callI (J := jM b kc T) (m_runV calV_X13_number wd_1288 (g_M_number l D kc b T S 0 0 (show (0 : Int32).toInt = 0 by decide) z1_z (gi S 192 3) bz1_z hS cr2_z) C hM (i := 192) (by omega) (e_192 b kc T S) rfl hl.1 rfl rfl (Nat.le_of_ble_eq_true rfl) dX13_readMove_116 ⟨Nat.le_of_ble_eq_true rfl, Nat.le_of_ble_eq_true rfl⟩ ⟨Nat.le_of_ble_eq_true rfl, Nat.le_of_ble_eq_true rfl⟩) hM (fun z5_z H locs bz5_z hM hS => ?_)
      refine g_iast C hM (j := 203) (by omega) (jK_M b kc T (by omega)) (a_203 b kc) hS hx1 bz5_z (B := 41) rfl h dX13_readMove_119 (fun S6_z H locs h hM hS => ?_)
      exact ret S6_z _ _ _ _ (r_1 h).symm (r_2 h) hM hS dX13_readMove_120
    · exact g_callThr hlk hnt thr (And.intro (r_2 h) (r_1 h).symm) (m_runT calV_X13_number wd_1288 (t_M_number l D kc b T S 0 0 (show (0 : Int32).toInt = 0 by decide) z1_z (gi S 192 3) bz1_z hS cr2_z) C hM (i := 192) (by omega) (e_192 b kc T S) rfl hl.1 rfl rfl (Nat.le_of_ble_eq_true rfl) dX13_readMove_116 ⟨Nat.le_of_ble_eq_true rfl, Nat.le_of_ble_eq_true rfl⟩ ⟨Nat.le_of_ble_eq_true rfl, Nat.le_of_ble_eq_true rfl⟩)
  have B56 : ∀ (S : SS) (H : Heap) (locs : List Loc) (ls : Array Slot) (xt0_ : Int32) (vt0_ : Int) (hxt0_ : xt0_.toInt = vt0_) (xt1_ : Int32) (vt1_ : Int) (hxt1_ : xt1_.toInt = vt1_) (xt3_ : Int32) (vt3_ : Int) (hxt3_ : xt3_.toInt = vt3_), rng S → mS D b s 220 (jM b kc T S) H locs → lv_has ls 3 [(0, .ref (b + 192)), (1, .int x1)] → f_M_readMove_56 v1 S vt0_ vt1_ vt3_ = some (vr, Sr) → W p l e (mR 4 0 0) s m args below meth c H locs 0 0 Q (F0 m 56 ls [.int xt0_, .int xt1_, .ref (b + 192), .int xt3_, .ref (b + 202)]) := by
    intro S H locs ls xt0_ vt0_ hxt0_ xt1_ vt1_ hxt1_ xt3_ vt3_ hxt3_ hS hM hl h
    unfold f_M_readMove_56 at h
    rcases w_b3E h with ⟨r1_z, S2_z, cr1_z, h⟩ | ⟨S3_z, cr1_z, h⟩
    · refine g_callI (J := jM b kc T) (m_runV calV_X13_number wd_1288 (g_M_number l D kc b T S xt1_ vt1_ hxt1_ xt0_ vt0_ hxt0_ hS cr1_z) C hM (i := 192) (by omega) (e_192 b kc T S) rfl hl.1 rfl rfl (Nat.le_of_ble_eq_true rfl) dX13_readMove_56 ⟨Nat.le_of_ble_eq_true rfl, Nat.le_of_ble_eq_true rfl⟩ ⟨Nat.le_of_ble_eq_true rfl, Nat.le_of_ble_eq_true rfl⟩) hM (fun z4_z H locs bz4_z hM hS => ?_)
      refine g_iast C hM (j := 202) (by omega) (jK_M b kc T (by omega)) (a_202 b kc) hS hxt3_ bz4_z (B := 41) rfl h dX13_readMove_59 (fun S5_z H locs h hM hS => ?_)
      refine lv_aload_n hx hb dX13_readMove_60 rfl (lv_at hl 0 rfl) ?_
      refine g_get fl_X13_162_X13 C hM (i := 192) (r := 192) (by omega) (e_192 b kc T S5_z) rfl hS dX13_readMove_61 (fun z6_z bz6_z => ?_)
      refine lv_iconst (v := 2) hx hb dX13_readMove_64 (by decide) ?_
      refine g_icmp_ne (tgt := 105) hx hb bz6_z (show (2 : Int32).toInt = 2 by decide) h dX13_readMove_65 (by decide) (fun h => ?_) (fun h => ?_)
      · exact B105 S5_z _ _ _ hS hM (lv_sub hl [0, 1] rfl) h
      · refine lv_aload_n hx hb dX13_readMove_68 rfl (lv_at hl 0 rfl) ?_
        refine g_get fl_X13_165_X13 C hM (i := 192) (r := 192) (by omega) (e_192 b kc T S5_z) rfl hS dX13_readMove_69 (fun z7_z bz7_z => ?_)
        refine g_i2l (a := gi S5_z 192 13) hx hb bz7_z dX13_readMove_72 (fun c8_z => ?_)
        refine lv_aload_n hx hb dX13_readMove_73 rfl (lv_at hl 0 rfl) ?_
        refine m_get fl_X13_77_X13 C hM (i := 192) (by omega) (e_192 b kc T S5_z) (v := .ref (b + 201)) rfl dX13_readMove_74 ?_
        refine lv_iload_n hx hb dX13_readMove_77 rfl (lv_at hl 1 rfl) ?_
        refine g_iald C hM (j := 201) (by omega) (jK_M b kc T (by omega)) (a_201 b kc) hS hx1 (B := 41) rfl h dX13_readMove_78 (fun z9_z bz9_z h => ?_)
        refine g_i2l (a := gi S5_z 201 (v1).toNat) hx hb bz9_z dX13_readMove_79 (fun c10_z => ?_)
        refine lv_aload_n hx hb dX13_readMove_80 rfl (lv_at hl 0 rfl) ?_
        refine m_get fl_X13_80_X13 C hM (i := 192) (by omega) (e_192 b kc T S5_z) (v := .ref (b + 202)) rfl dX13_readMove_81 ?_
        refine lv_iload_n hx hb dX13_readMove_84 rfl (lv_at hl 1 rfl) ?_
        refine g_iald C hM (j := 202) (by omega) (jK_M b kc T (by omega)) (a_202 b kc) hS hx1 (B := 41) rfl h dX13_readMove_85 (fun z11_z bz11_z h => ?_)
        refine g_i2l (a := gi S5_z 202 (v1).toNat) hx hb bz11_z dX13_readMove_86 (fun c12_z => ?_)
        refine lv_lconst (v := 1) hx hb dX13_readMove_87 (by decide) ?_
        obtain ⟨cz13_z, h⟩ := w_chkE h
        refine g_ladd hx hb c12_z (show (1 : Int64).toInt = 1 by decide) cz13_z.1 cz13_z.2 dX13_readMove_88 (fun z13_z bz13_z => ?_)
        refine g_callI (J := jM b kc T) (m_runS calS_X13_in wd_1221 (g_M_in l D kc b T S5_z (i2l (gi S5_z 192 13)) (gi S5_z 192 13) c8_z (i2l (gi S5_z 201 (v1).toNat)) (gi S5_z 201 (v1).toNat) c10_z z13_z ((gi S5_z 202 (v1).toNat) + 1) bz13_z hS rfl) C hM hl.1 rfl rfl (Nat.le_of_ble_eq_true rfl) dX13_readMove_89 ⟨Nat.le_of_ble_eq_true rfl, Nat.le_of_ble_eq_true rfl⟩ ⟨Nat.le_of_ble_eq_true rfl, Nat.le_of_ble_eq_true rfl⟩) hM (fun z14_z H locs bz14_z hM hS => ?_)
        refine g_if_eq (tgt := 105) hx hb bz14_z h dX13_readMove_92 (by decide) (fun h => ?_) (fun h => ?_)
        · exact B105 S5_z _ _ _ hS hM (lv_sub hl [0, 1] rfl) h
        · refine lv_aload_n hx hb dX13_readMove_95 rfl (lv_at hl 0 rfl) ?_
          refine lv_iconst (v := 2) hx hb dX13_readMove_96 (by decide) ?_
          refine lv_aload_n hx hb dX13_readMove_97 rfl (lv_at hl 0 rfl) ?_
          refine g_get fl_X13_159_X13 C hM (i := 192) (r := 192) (by omega) (e_192 b kc T S5_z) rfl hS dX13_readMove_98 (fun z15_z bz15_z => ?_)
          obtain ⟨S16_z, cS16_z, h⟩ := w_ltE h
          refine g_callQ (J := jM b kc T) (m_runV calV_X13_wrong wd_1252 (g_M_wrong l D kc b T S5_z 2 2 (show (2 : Int32).toInt = 2 by decide) z15_z (gi S5_z 192 10) bz15_z hS cS16_z.symm) C hM (i := 192) (by omega) (e_192 b kc T S5_z) rfl hl.1 rfl rfl (Nat.le_of_ble_eq_true rfl) dX13_readMove_101 ⟨Nat.le_of_ble_eq_true rfl, Nat.le_of_ble_eq_true rfl⟩ ⟨Nat.le_of_ble_eq_true rfl, Nat.le_of_ble_eq_true rfl⟩) hM (fun z17_z H locs bz17_z hM hS => ?_)
          subst bz17_z
          exact g_athrow C hlk hnt hM hS thr (And.intro (r_2 h) (r_1 h).symm) dX13_readMove_104
    · exact g_callThr hlk hnt thr (And.intro (r_2 h) (r_1 h).symm) (m_runT calV_X13_number wd_1288 (t_M_number l D kc b T S xt1_ vt1_ hxt1_ xt0_ vt0_ hxt0_ hS cr1_z) C hM (i := 192) (by omega) (e_192 b kc T S) rfl hl.1 rfl rfl (Nat.le_of_ble_eq_true rfl) dX13_readMove_56 ⟨Nat.le_of_ble_eq_true rfl, Nat.le_of_ble_eq_true rfl⟩ ⟨Nat.le_of_ble_eq_true rfl, Nat.le_of_ble_eq_true rfl⟩)
  have B23 : ∀ (S : SS) (H : Heap) (locs : List Loc) (ls : Array Slot) (x2_ : Int32) (v2_ : Int) (hx2_ : x2_.toInt = v2_) (xt0_ : Int32) (vt0_ : Int) (hxt0_ : xt0_.toInt = vt0_) (xt2_ : Int32) (vt2_ : Int) (hxt2_ : xt2_.toInt = vt2_), rng S → mS D b s 220 (jM b kc T S) H locs → lv_has ls 3 [(0, .ref (b + 192)), (1, .int x1), (2, .int x2_)] → f_M_readMove_23 v1 S v2_ vt0_ vt2_ = some (vr, Sr) → W p l e (mR 4 0 0) s m args below meth c H locs 0 0 Q (F0 m 23 ls [.int xt0_, .ref (b + 192), .int xt2_, .ref (b + 201)]) := by
    intro S H locs ls x2_ v2_ hx2_ xt0_ vt0_ hxt0_ xt2_ vt2_ hxt2_ hS hM hl h
    unfold f_M_readMove_23 at h
    refine lv_iload_n hx hb dX13_readMove_23 rfl (lv_at hl 2 rfl) ?_
    rcases w_b3E h with ⟨r1_z, S2_z, cr1_z, h⟩ | ⟨S3_z, cr1_z, h⟩
    · refine g_callI (J := jM b kc T) (m_runV calV_X13_number wd_1288 (g_M_number l D kc b T S xt0_ vt0_ hxt0_ x2_ v2_ hx2_ hS cr1_z) C hM (i := 192) (by omega) (e_192 b kc T S) rfl hl.1 rfl rfl (Nat.le_of_ble_eq_true rfl) dX13_readMove_24 ⟨Nat.le_of_ble_eq_true rfl, Nat.le_of_ble_eq_true rfl⟩ ⟨Nat.le_of_ble_eq_true rfl, Nat.le_of_ble_eq_true rfl⟩) hM (fun z4_z H locs bz4_z hM hS => ?_)
      refine g_iast C hM (j := 201) (by omega) (jK_M b kc T (by omega)) (a_201 b kc) hS hxt2_ bz4_z (B := 41) rfl h dX13_readMove_27 (fun S5_z H locs h hM hS => ?_)
      refine lv_aload_n hx hb dX13_readMove_28 rfl (lv_at hl 0 rfl) ?_
      refine m_get fl_X13_80_X13 C hM (i := 192) (by omega) (e_192 b kc T S5_z) (v := .ref (b + 202)) rfl dX13_readMove_29 ?_
      refine lv_iload_n hx hb dX13_readMove_32 rfl (lv_at hl 1 rfl) ?_
      refine lv_aload_n hx hb dX13_readMove_33 rfl (lv_at hl 0 rfl) ?_
      refine lv_aload_n hx hb dX13_readMove_34 rfl (lv_at hl 0 rfl) ?_
      refine m_get fl_X13_77_X13 C hM (i := 192) (by omega) (e_192 b kc T S5_z) (v := .ref (b + 201)) rfl dX13_readMove_35 ?_
      refine lv_iload_n hx hb dX13_readMove_38 rfl (lv_at hl 1 rfl) ?_
      refine g_iald C hM (j := 201) (by omega) (jK_M b kc T (by omega)) (a_201 b kc) hS hx1 (B := 41) rfl h dX13_readMove_39 (fun z6_z bz6_z h => ?_)
      refine lv_aload_n hx hb dX13_readMove_40 rfl (lv_at hl 0 rfl) ?_
      refine m_get fl_X13_77_X13 C hM (i := 192) (by omega) (e_192 b kc T S5_z) (v := .ref (b + 201)) rfl dX13_readMove_41 ?_
      refine lv_iload_n hx hb dX13_readMove_44 rfl (lv_at hl 1 rfl) ?_
      refine g_iald C hM (j := 201) (by omega) (jK_M b kc T (by omega)) (a_201 b kc) hS hx1 (B := 41) rfl h dX13_readMove_45 (fun z7_z bz7_z h => ?_)
      refine g_if_ne (tgt := 55) hx hb bz7_z h dX13_readMove_46 (by decide) (fun h => ?_) (fun h => ?_)
      · refine lv_iload_n hx hb dX13_readMove_55 rfl (lv_at hl 2 rfl) ?_
        exact B56 S5_z _ _ _ x2_ v2_ hx2_ z6_z (gi S5_z 201 (v1).toNat) bz6_z x1 v1 hx1 hS hM (lv_sub hl [0, 1] rfl) h
      · refine lv_iload_n hx hb dX13_readMove_49 rfl (lv_at hl 2 rfl) ?_
        refine lv_iconst (v := 1) hx hb dX13_readMove_50 (by decide) ?_
        refine g_isub hx hb hx2_ (show (1 : Int32).toInt = 1 by decide) h dX13_readMove_51 (fun z8_z bz8_z h => ?_)
        refine lv_goto (tgt := 56) hx hb dX13_readMove_52 (by decide) ?_
        exact B56 S5_z _ _ _ z8_z (v2_ - 1) bz8_z z6_z (gi S5_z 201 (v1).toNat) bz6_z x1 v1 hx1 hS hM (lv_sub hl [0, 1] rfl) h
    · exact g_callThr hlk hnt thr (And.intro (r_2 h) (r_1 h).symm) (m_runT calV_X13_number wd_1288 (t_M_number l D kc b T S xt0_ vt0_ hxt0_ x2_ v2_ hx2_ hS cr1_z) C hM (i := 192) (by omega) (e_192 b kc T S) rfl hl.1 rfl rfl (Nat.le_of_ble_eq_true rfl) dX13_readMove_24 ⟨Nat.le_of_ble_eq_true rfl, Nat.le_of_ble_eq_true rfl⟩ ⟨Nat.le_of_ble_eq_true rfl, Nat.le_of_ble_eq_true rfl⟩)
  refine lv_aload_n hx hb dX13_readMove_0 rfl (lv_at hl 0 rfl) ?_
  refine g_get fl_X13_150_X13 C hM (i := 192) (r := 192) (by omega) (e_192 b kc T S) rfl hS dX13_readMove_1 (fun z1_z bz1_z => ?_)
  refine lv_iconst (v := 1) hx hb dX13_readMove_4 (by decide) ?_
  refine g_isub hx hb bz1_z (show (1 : Int32).toInt = 1 by decide) h dX13_readMove_5 (fun z2_z bz2_z h => ?_)
  refine lv_istore_n (lv' := [(2, .int z2_z), (0, .ref (b + 192)), (1, .int x1)]) hx hb dX13_readMove_6 rfl hl (by decide) rfl (fun ls hl => ?_)
  refine lv_aload_n hx hb dX13_readMove_7 rfl (lv_at hl 1 rfl) ?_
  refine m_get fl_X13_77_X13 C hM (i := 192) (by omega) (e_192 b kc T S) (v := .ref (b + 201)) rfl dX13_readMove_8 ?_
  refine lv_iload_n hx hb dX13_readMove_11 rfl (lv_at hl 2 rfl) ?_
  refine lv_aload_n hx hb dX13_readMove_12 rfl (lv_at hl 1 rfl) ?_
  refine lv_iload_n hx hb dX13_readMove_13 rfl (lv_at hl 0 rfl) ?_
  refine lv_iconst (v := 1) hx hb dX13_readMove_14 (by decide) ?_
  refine g_icmp_ge (tgt := 22) hx hb bz2_z (show (1 : Int32).toInt = 1 by decide) h dX13_readMove_15 (by decide) (fun h => ?_) (fun h => ?_)
  · refine lv_iconst (v := 0) hx hb dX13_readMove_22 (by decide) ?_
    exact B23 S _ _ _ z2_z ((gi S 192 3) - 1) bz2_z 0 0 (show (0 : Int32).toInt = 0 by decide) x1 v1 hx1 hS hM (lv_sub hl [1, 2, 0] rfl) h
  · refine lv_iconst (v := 1) hx hb dX13_readMove_18 (by decide) ?_
    refine lv_goto (tgt := 23) hx hb dX13_readMove_19 (by decide) ?_
    exact B23 S _ _ _ z2_z ((gi S 192 3) - 1) bz2_z 1 1 (show (1 : Int32).toInt = 1 by decide) x1 v1 hx1 hS hM (lv_sub hl [1, 2, 0] rfl) h
theorem g_M_readMove (l : Launch) (D : va_G) (kc : Nat → ClassId) (b : Nat) (T S : SS) (x1 : Int32) (v1 : Int) (hx1 : x1.toInt = v1) (hS : rng S) {Sr : SS} (h : f_M_readMove S v1 = some (some (), Sr)) : cV l yX13_readMove cX13_readMove 3 4 D kc b (jM b kc T) S [.ref (b + 192), .int x1] Sr :=
  g_ofR_v (by decide) (Nat.le_of_ble_eq_true rfl) (fun p e s m args below meth c Q C hlk hnt ret thr hM ls hl => gw_M_readMove l D kc b T S x1 v1 hx1 hS h p e s m args below meth c Q C hlk hnt ret thr hM ls hl)
theorem t_M_readMove (l : Launch) (D : va_G) (kc : Nat → ClassId) (b : Nat) (T S : SS) (x1 : Int32) (v1 : Int) (hx1 : x1.toInt = v1) (hS : rng S) {Sr : SS} (h : f_M_readMove S v1 = some (none, Sr)) : cT l yX13_readMove cX13_readMove 3 none 4 D kc b (jM b kc T) S [.ref (b + 192), .int x1] Sr :=
  g_ofT (α := Unit) (by decide) (Nat.le_of_ble_eq_true rfl) (fun p e s m args below meth c Q C hlk hnt thr hM ls hl => gw_M_readMove l D kc b T S x1 v1 hx1 hS h p e s m args below meth c Q C hlk hnt (fun _ _ _ _ _ hx => nomatch hx) thr hM ls hl)

def f_M_readWords_191 (v1 : Int) (kf19_ : SS → Option (Option Unit × SS)) (kf96_ : SS → Int → Int64 → Option (Option Unit × SS)) (S : SS) (v2_ : Int) (w3_ : Int64) : Option (Option Unit × SS) := w_chk (i32 ((gi S 192 11) + 1)) (w_lt (si S 192 11 ((gi S 192 11) + 1)) (fun S3_z => kf96_ S3_z v2_ w3_))
def f_M_readWords_171 (v1 : Int) (kf19_ : SS → Option (Option Unit × SS)) (kf96_ : SS → Int → Int64 → Option (Option Unit × SS)) (S : SS) (w3_ : Int64) (vt0_ : Int) : Option (Option Unit × SS) := (if vt0_ = 0 then f_M_readWords_191 v1 kf19_ kf96_ S vt0_ w3_ else w_b1 (f_M_byteAt S (gi S 192 11)) (fun r2_z => f_M_readWords_191 v1 kf19_ kf96_ S vt0_ ((lsh w3_ 8) ||| (i2l r2_z))))
def f_M_readWords_170 (v1 : Int) (kf19_ : SS → Option (Option Unit × SS)) (kf96_ : SS → Int → Int64 → Option (Option Unit × SS)) (S : SS) (w3_ : Int64) : Option (Option Unit × SS) := f_M_readWords_171 v1 kf19_ kf96_ S w3_ 0
def f_M_readWords_204 (v1 : Int) (kf19_ : SS → Option (Option Unit × SS)) (S : SS) (v2_ : Int) (w3_ : Int64) : Option (Option Unit × SS) := (if v2_ = 0 then w_lt (f_M_wrong S 1 (gi S 192 10)) (fun S13_z => some (none, S13_z)) else w_chk (0 ≤ v1 ∧ v1 < 41) ((if gi S 204 (v1).toNat = 6 then w_lt (f_M_wrong S 3 (gi S 192 10)) (fun S10_z => some (none, S10_z)) else w_chk (i32 (6 * v1)) (w_chk (0 ≤ v1 ∧ v1 < 41) (w_chk (i32 ((6 * v1) + (gi S 204 (v1).toNat))) (w_chk (0 ≤ ((6 * v1) + (gi S 204 (v1).toNat)) ∧ ((6 * v1) + (gi S 204 (v1).toNat)) < 246) (w_lt (sl S 206 ((6 * v1) + (gi S 204 (v1).toNat)).toNat w3_) (fun S5_z => w_chk (0 ≤ v1 ∧ v1 < 41) (w_chk (i32 ((gi S5_z 204 (v1).toNat) + 1)) (w_chk (0 ≤ v1 ∧ v1 < 41) (w_lt (si S5_z 204 (v1).toNat ((gi S5_z 204 (v1).toNat) + 1)) (fun S8_z => kf19_ S8_z ))))))))))))
def f_M_readWords_96_b (v1 : Int) (kf19_ : SS → Option (Option Unit × SS)) (kf96_ : SS → Int → Int64 → Option (Option Unit × SS)) (S : SS) (v2_ : Int) (w3_ : Int64) : Option (Option Unit × SS) := (if gi S 192 9 ≤ gi S 192 11 then f_M_readWords_204 v1 kf19_ S v2_ w3_ else w_b1 (f_M_byteAt S (gi S 192 11)) (fun r4_z => (if f_M_isBlank S r4_z = 0 then w_b1 (f_M_byteAt S (gi S 192 11)) (fun r8_z => (if r8_z = 59 then f_M_readWords_204 v1 kf19_ S v2_ w3_ else (if v2_ = 0 then f_M_readWords_170 v1 kf19_ kf96_ S w3_ else w_b1 (f_M_byteAt S (gi S 192 11)) (fun r11_z => (if f_M_isOfWord S r11_z = 0 then f_M_readWords_170 v1 kf19_ kf96_ S w3_ else w_chk (i32 ((gi S 192 11) - (gi S 192 10))) ((if 8 ≤ (gi S 192 11) - (gi S 192 10) then f_M_readWords_170 v1 kf19_ kf96_ S w3_ else f_M_readWords_171 v1 kf19_ kf96_ S w3_ 1))))))) else f_M_readWords_204 v1 kf19_ S v2_ w3_)))
def f_M_readWords_96 (v1 : Int) (kf19_ : SS → Option (Option Unit × SS)) : Nat → SS → Int → Int64 → Option (Option Unit × SS)
  | 0 => fun _ _ _ => none
  | n + 1 => f_M_readWords_96_b v1 kf19_ (f_M_readWords_96 v1 kf19_ n)
def f_M_readWords_269 (v1 : Int) (S : SS) : Option (Option Unit × SS) := w_chk (0 ≤ v1 ∧ v1 < 41) ((if gi S 204 (v1).toNat = 0 then w_lt (f_M_wrong S 1 (gi S 192 10)) (fun S5_z => some (none, S5_z)) else w_b1 (f_M_scan S) (fun S2_z => some (some (), S2_z))))
def f_M_readWords_57 (v1 : Int) (kf19_ : SS → Option (Option Unit × SS)) (S : SS) : Option (Option Unit × SS) := w_lt (si S 192 10 (gi S 192 11)) (fun S2_z => (if gi S2_z 192 11 = gi S2_z 192 9 then f_M_readWords_269 v1 S2_z  else w_b1 (f_M_byteAt S2_z (gi S2_z 192 11)) (fun r6_z => (if r6_z = 59 then f_M_readWords_269 v1 S2_z  else f_M_readWords_96 v1 kf19_ FU S2_z 1 0))))
def f_M_readWords_19_b (v1 : Int) (kf19_ : SS → Option (Option Unit × SS)) (S : SS) : Option (Option Unit × SS) := (if gi S 192 9 ≤ gi S 192 11 then f_M_readWords_57 v1 kf19_ S  else w_b1 (f_M_byteAt S (gi S 192 11)) (fun r4_z => (if f_M_isBlank S r4_z = 0 then f_M_readWords_57 v1 kf19_ S  else w_chk (i32 ((gi S 192 11) + 1)) (w_lt (si S 192 11 ((gi S 192 11) + 1)) (fun S9_z => kf19_ S9_z )))))
def f_M_readWords_19 (v1 : Int) : Nat → SS → Option (Option Unit × SS)
  | 0 => fun _ => none
  | n + 1 => f_M_readWords_19_b v1 (f_M_readWords_19 v1 n)
def f_M_readWords (S : SS) (v1 : Int) : Option (Option Unit × SS) := w_b1 (f_M_is S 11) (fun r1_z => (if r1_z = 0 then w_lt (f_M_wrong S 1 (gi S 192 10)) (fun S4_z => some (none, S4_z)) else f_M_readWords_19 v1 FU S ))
set_option maxHeartbeats 4000000 in
set_option maxRecDepth 100000 in
theorem gw_M_readWords (l : Launch) (D : va_G) (kc : Nat → ClassId) (b : Nat) (T S : SS) (x1 : Int32) (v1 : Int) (hx1 : x1.toInt = v1) (hS : rng S) {vr : Option Unit} {Sr : SS} (h : f_M_readWords S v1 = some (vr, Sr)) (p : Program) (e : Env) (s : State) (m : MethodId) (args : Array Value) (below : List Frame) (meth : Method) (c : Code) (Q : State → Prop) (C : mC p s m args c cX13_readWords 5 yX13_readWords.cls D kc b) (hlk : meth.locks = false) (hnt : c.exceptionTable.isEmpty = true) (ret : (∀ (S2 : SS) (H : Heap) (locs : List Loc) (ls : Array Slot) (pc : Nat), vr = some () → S2 = Sr → mS D b s 220 (jM b kc T S2) H locs → rng S2 → decode cX13_readWords pc = .ok (.return_, 1) → W p l e (mR 6 0 0) s m args below meth c H locs 0 0 Q (F0 m pc ls []))) (thr : gThr p l e (mR 6 0 0) s m args below meth c Q D b (jM b kc T) (fun S2 => S2 = Sr ∧ vr = none)) (hM : mS D b s 220 (jM b kc T S) s.heap []) (ls : Array Slot) (hl : lv_has ls 5 (lv_args 0 [.ref (b + 192), .int x1])) : W p l e (mR 6 0 0) s m args below meth c s.heap [] 0 0 Q (F0 m 0 ls []) := by
  obtain ⟨hx, hb, hml, hown, hts, hE, hbs⟩ := id C
  have hl : lv_has ls 5 [(0, .ref (b + 192)), (1, .int x1)] := hl
  unfold f_M_readWords at h
  have B191 : ∀ (kf19_ : SS → Option (Option Unit × SS)) (hkf19_ : ∀ (S : SS) (H : Heap) (locs : List Loc) (ls : Array Slot), rng S → mS D b s 220 (jM b kc T S) H locs → lv_has ls 5 [(0, .ref (b + 192)), (1, .int x1)] → kf19_ S = some (vr, Sr) → W p l e (mR 6 0 0) s m args below meth c H locs 0 0 Q (F0 m 19 ls [])) (kf96_ : SS → Int → Int64 → Option (Option Unit × SS)) (hkf96_ : ∀ (S : SS) (H : Heap) (locs : List Loc) (ls : Array Slot) (x2_ : Int32) (v2_ : Int) (hx2_ : x2_.toInt = v2_) (w3_ : Int64), rng S → mS D b s 220 (jM b kc T S) H locs → lv_has ls 5 [(0, .ref (b + 192)), (1, .int x1), (2, .int x2_), (3, .long w3_)] → kf96_ S v2_ w3_ = some (vr, Sr) → W p l e (mR 6 0 0) s m args below meth c H locs 0 0 Q (F0 m 96 ls [])), ∀ (S : SS) (H : Heap) (locs : List Loc) (ls : Array Slot) (x2_ : Int32) (v2_ : Int) (hx2_ : x2_.toInt = v2_) (w3_ : Int64), rng S → mS D b s 220 (jM b kc T S) H locs → lv_has ls 5 [(0, .ref (b + 192)), (1, .int x1), (2, .int x2_), (3, .long w3_)] → f_M_readWords_191 v1 kf19_ kf96_ S v2_ w3_ = some (vr, Sr) → W p l e (mR 6 0 0) s m args below meth c H locs 0 0 Q (F0 m 191 ls []) := by
    intro kf19_ hkf19_ kf96_ hkf96_ S H locs ls x2_ v2_ hx2_ w3_ hS hM hl h
    unfold f_M_readWords_191 at h
    refine lv_aload_n hx hb dX13_readWords_191 rfl (lv_at hl 0 rfl) ?_
    refine lv_dup hx hb dX13_readWords_192 rfl ?_
    refine g_get fl_X13_31_X13 C hM (i := 192) (r := 192) (by omega) (e_192 b kc T S) rfl hS dX13_readWords_193 (fun z1_z bz1_z => ?_)
    refine lv_iconst (v := 1) hx hb dX13_readWords_196 (by decide) ?_
    refine g_iadd hx hb bz1_z (show (1 : Int32).toInt = 1 by decide) h dX13_readWords_197 (fun z2_z bz2_z h => ?_)
    refine g_put fl_X13_31_X13 C hM (i := 192) (by omega) (e_192 b kc T S) rfl rfl (Nat.le_of_ble_eq_true rfl) (fs1 := [.ref (b + 193), .ref (b + 194), .ref (b + 195), .int (oi (gi S 192 3)), .int (oi (gi S 192 4)), .int (oi (gi S 192 5)), .ref (b + 196), .ref (b + 197), .int (oi (gi S 192 8)), .int (oi (gi S 192 9)), .int (oi (gi S 192 10)), .int z2_z, .int (oi (gi S 192 12)), .int (oi (gi S 192 13)), .int (oi (gi S 192 14)), .int (oi (gi S 192 15)), .ref (b + 198), .ref (b + 199), .ref (b + 200), .ref (b + 201), .ref (b + 202), .ref (b + 203), .ref (b + 204), .ref (b + 205), .ref (b + 206), .ref (b + 207), .ref (b + 208), .int (oi (gi S 192 27)), .ref (b + 209), .ref (b + 210), .ref (b + 211), .ref (b + 212), .ref (b + 213), .ref (b + 214), .ref (b + 215), .int (oi (gi S 192 35)), .int (oi (gi S 192 36)), .int (oi (gi S 192 37)), .int (oi (gi S 192 38)), .ref (b + 216), .ref (b + 217), .ref (b + 218), .ref (b + 219)]) rfl (p_192_11 bz2_z) (rng_si hS (i32_of bz2_z)) h dX13_readWords_198 (fun S3_z H locs h hM hS => ?_)
    refine lv_goto (tgt := 96) hx hb dX13_readWords_201 (by decide) ?_
    exact hkf96_ S3_z _ _ _ x2_ v2_ hx2_ w3_ hS hM (lv_sub hl [0, 1, 2, 3] rfl) h
  have B171 : ∀ (kf19_ : SS → Option (Option Unit × SS)) (hkf19_ : ∀ (S : SS) (H : Heap) (locs : List Loc) (ls : Array Slot), rng S → mS D b s 220 (jM b kc T S) H locs → lv_has ls 5 [(0, .ref (b + 192)), (1, .int x1)] → kf19_ S = some (vr, Sr) → W p l e (mR 6 0 0) s m args below meth c H locs 0 0 Q (F0 m 19 ls [])) (kf96_ : SS → Int → Int64 → Option (Option Unit × SS)) (hkf96_ : ∀ (S : SS) (H : Heap) (locs : List Loc) (ls : Array Slot) (x2_ : Int32) (v2_ : Int) (hx2_ : x2_.toInt = v2_) (w3_ : Int64), rng S → mS D b s 220 (jM b kc T S) H locs → lv_has ls 5 [(0, .ref (b + 192)), (1, .int x1), (2, .int x2_), (3, .long w3_)] → kf96_ S v2_ w3_ = some (vr, Sr) → W p l e (mR 6 0 0) s m args below meth c H locs 0 0 Q (F0 m 96 ls [])), ∀ (S : SS) (H : Heap) (locs : List Loc) (ls : Array Slot) (w3_ : Int64) (xt0_ : Int32) (vt0_ : Int) (hxt0_ : xt0_.toInt = vt0_), rng S → mS D b s 220 (jM b kc T S) H locs → lv_has ls 5 [(0, .ref (b + 192)), (1, .int x1), (3, .long w3_)] → f_M_readWords_171 v1 kf19_ kf96_ S w3_ vt0_ = some (vr, Sr) → W p l e (mR 6 0 0) s m args below meth c H locs 0 0 Q (F0 m 171 ls [.int xt0_]) := by
    intro kf19_ hkf19_ kf96_ hkf96_ S H locs ls w3_ xt0_ vt0_ hxt0_ hS hM hl h
    unfold f_M_readWords_171 at h
    refine lv_istore_n (lv' := [(2, .int xt0_), (0, .ref (b + 192)), (1, .int x1), (3, .long w3_)]) hx hb dX13_readWords_171 rfl hl (by decide) rfl (fun ls hl => ?_)
    refine lv_iload_n hx hb dX13_readWords_172 rfl (lv_at hl 0 rfl) ?_
    refine g_if_eq (tgt := 191) hx hb hxt0_ h dX13_readWords_173 (by decide) (fun h => ?_) (fun h => ?_)
    · exact B191 kf19_ hkf19_ kf96_ hkf96_ S _ _ _ xt0_ vt0_ hxt0_ w3_ hS hM (lv_sub hl [1, 2, 0, 3] rfl) h
    · refine lv_lload_n hx hb dX13_readWords_176 rfl (lv_at hl 3 rfl) ?_
      refine lv_bipush (v := 8) hx hb dX13_readWords_177 (by decide) ?_
      refine g_lshl (d := 8) hx hb (show (8 : Int32).toInt = 8 by decide) dX13_readWords_179 ?_
      refine lv_aload_n hx hb dX13_readWords_180 rfl (lv_at hl 1 rfl) ?_
      refine lv_aload_n hx hb dX13_readWords_181 rfl (lv_at hl 1 rfl) ?_
      refine g_get fl_X13_31_X13 C hM (i := 192) (r := 192) (by omega) (e_192 b kc T S) rfl hS dX13_readWords_182 (fun z1_z bz1_z => ?_)
      obtain ⟨r2_z, cr2_z, h⟩ := w_b1E h
      refine g_callI (J := jM b kc T) (m_runV calV_X13_byteAt wd_1236 (g_M_byteAt l D kc b T S z1_z (gi S 192 11) bz1_z hS cr2_z) C hM (i := 192) (by omega) (e_192 b kc T S) rfl hl.1 rfl rfl (Nat.le_of_ble_eq_true rfl) dX13_readWords_185 ⟨Nat.le_of_ble_eq_true rfl, Nat.le_of_ble_eq_true rfl⟩ ⟨Nat.le_of_ble_eq_true rfl, Nat.le_of_ble_eq_true rfl⟩) hM (fun z3_z H locs bz3_z hM hS => ?_)
      refine g_i2l (a := r2_z) hx hb bz3_z dX13_readWords_188 (fun c4_z => ?_)
      refine lv_lor hx hb dX13_readWords_189 ?_
      refine lv_lstore_n (lv' := [(3, .long ((lsh w3_ 8) ||| (i2l r2_z))), (2, .int xt0_), (0, .ref (b + 192)), (1, .int x1)]) hx hb dX13_readWords_190 rfl hl (by decide) rfl (fun ls hl => ?_)
      exact B191 kf19_ hkf19_ kf96_ hkf96_ S _ _ _ xt0_ vt0_ hxt0_ ((lsh w3_ 8) ||| (i2l r2_z)) hS hM (lv_sub hl [2, 3, 1, 0] rfl) h
  have B170 : ∀ (kf19_ : SS → Option (Option Unit × SS)) (hkf19_ : ∀ (S : SS) (H : Heap) (locs : List Loc) (ls : Array Slot), rng S → mS D b s 220 (jM b kc T S) H locs → lv_has ls 5 [(0, .ref (b + 192)), (1, .int x1)] → kf19_ S = some (vr, Sr) → W p l e (mR 6 0 0) s m args below meth c H locs 0 0 Q (F0 m 19 ls [])) (kf96_ : SS → Int → Int64 → Option (Option Unit × SS)) (hkf96_ : ∀ (S : SS) (H : Heap) (locs : List Loc) (ls : Array Slot) (x2_ : Int32) (v2_ : Int) (hx2_ : x2_.toInt = v2_) (w3_ : Int64), rng S → mS D b s 220 (jM b kc T S) H locs → lv_has ls 5 [(0, .ref (b + 192)), (1, .int x1), (2, .int x2_), (3, .long w3_)] → kf96_ S v2_ w3_ = some (vr, Sr) → W p l e (mR 6 0 0) s m args below meth c H locs 0 0 Q (F0 m 96 ls [])), ∀ (S : SS) (H : Heap) (locs : List Loc) (ls : Array Slot) (w3_ : Int64), rng S → mS D b s 220 (jM b kc T S) H locs → lv_has ls 5 [(0, .ref (b + 192)), (1, .int x1), (3, .long w3_)] → f_M_readWords_170 v1 kf19_ kf96_ S w3_ = some (vr, Sr) → W p l e (mR 6 0 0) s m args below meth c H locs 0 0 Q (F0 m 170 ls []) := by
    intro kf19_ hkf19_ kf96_ hkf96_ S H locs ls w3_ hS hM hl h
    unfold f_M_readWords_170 at h
    refine lv_iconst (v := 0) hx hb dX13_readWords_170 (by decide) ?_
    exact B171 kf19_ hkf19_ kf96_ hkf96_ S _ _ _ w3_ 0 0 (show (0 : Int32).toInt = 0 by decide) hS hM (lv_sub hl [0, 1, 2] rfl) h
  have B204 : ∀ (kf19_ : SS → Option (Option Unit × SS)) (hkf19_ : ∀ (S : SS) (H : Heap) (locs : List Loc) (ls : Array Slot), rng S → mS D b s 220 (jM b kc T S) H locs → lv_has ls 5 [(0, .ref (b + 192)), (1, .int x1)] → kf19_ S = some (vr, Sr) → W p l e (mR 6 0 0) s m args below meth c H locs 0 0 Q (F0 m 19 ls [])), ∀ (S : SS) (H : Heap) (locs : List Loc) (ls : Array Slot) (x2_ : Int32) (v2_ : Int) (hx2_ : x2_.toInt = v2_) (w3_ : Int64), rng S → mS D b s 220 (jM b kc T S) H locs → lv_has ls 5 [(0, .ref (b + 192)), (1, .int x1), (2, .int x2_), (3, .long w3_)] → f_M_readWords_204 v1 kf19_ S v2_ w3_ = some (vr, Sr) → W p l e (mR 6 0 0) s m args below meth c H locs 0 0 Q (F0 m 204 ls []) := by
    intro kf19_ hkf19_ S H locs ls x2_ v2_ hx2_ w3_ hS hM hl h
    unfold f_M_readWords_204 at h
    refine lv_iload_n hx hb dX13_readWords_204 rfl (lv_at hl 2 rfl) ?_
    refine g_if_ne (tgt := 218) hx hb hx2_ h dX13_readWords_205 (by decide) (fun h => ?_) (fun h => ?_)
    · refine lv_aload_n hx hb dX13_readWords_218 rfl (lv_at hl 0 rfl) ?_
      refine m_get fl_X13_86_X13 C hM (i := 192) (by omega) (e_192 b kc T S) (v := .ref (b + 204)) rfl dX13_readWords_219 ?_
      refine lv_iload_n hx hb dX13_readWords_222 rfl (lv_at hl 1 rfl) ?_
      refine g_iald C hM (j := 204) (by omega) (jK_M b kc T (by omega)) (a_204 b kc) hS hx1 (B := 41) rfl h dX13_readWords_223 (fun z1_z bz1_z h => ?_)
      refine lv_bipush (v := 6) hx hb dX13_readWords_224 (by decide) ?_
      refine g_icmp_ne (tgt := 239) hx hb bz1_z (show (6 : Int32).toInt = 6 by decide) h dX13_readWords_226 (by decide) (fun h => ?_) (fun h => ?_)
      · refine lv_aload_n hx hb dX13_readWords_239 rfl (lv_at hl 0 rfl) ?_
        refine m_get fl_X13_92_X13 C hM (i := 192) (by omega) (e_192 b kc T S) (v := .ref (b + 206)) rfl dX13_readWords_240 ?_
        refine lv_bipush (v := 6) hx hb dX13_readWords_243 (by decide) ?_
        refine lv_iload_n hx hb dX13_readWords_245 rfl (lv_at hl 1 rfl) ?_
        refine g_imul hx hb (show (6 : Int32).toInt = 6 by decide) hx1 h dX13_readWords_246 (fun z2_z bz2_z h => ?_)
        refine lv_aload_n hx hb dX13_readWords_247 rfl (lv_at hl 0 rfl) ?_
        refine m_get fl_X13_86_X13 C hM (i := 192) (by omega) (e_192 b kc T S) (v := .ref (b + 204)) rfl dX13_readWords_248 ?_
        refine lv_iload_n hx hb dX13_readWords_251 rfl (lv_at hl 1 rfl) ?_
        refine g_iald C hM (j := 204) (by omega) (jK_M b kc T (by omega)) (a_204 b kc) hS hx1 (B := 41) rfl h dX13_readWords_252 (fun z3_z bz3_z h => ?_)
        refine g_iadd hx hb bz2_z bz3_z h dX13_readWords_253 (fun z4_z bz4_z h => ?_)
        refine lv_lload_n hx hb dX13_readWords_254 rfl (lv_at hl 3 rfl) ?_
        refine g_last C hM (j := 206) (by omega) (jK_M b kc T (by omega)) (a_206 b kc) hS bz4_z (B := 246) rfl h dX13_readWords_255 (fun S5_z H locs h hM hS => ?_)
        refine lv_aload_n hx hb dX13_readWords_256 rfl (lv_at hl 0 rfl) ?_
        refine m_get fl_X13_86_X13 C hM (i := 192) (by omega) (e_192 b kc T S5_z) (v := .ref (b + 204)) rfl dX13_readWords_257 ?_
        refine lv_iload_n hx hb dX13_readWords_260 rfl (lv_at hl 1 rfl) ?_
        refine lv_dup2_11 hx hb dX13_readWords_261 rfl rfl ?_
        refine g_iald C hM (j := 204) (by omega) (jK_M b kc T (by omega)) (a_204 b kc) hS hx1 (B := 41) rfl h dX13_readWords_262 (fun z6_z bz6_z h => ?_)
        refine lv_iconst (v := 1) hx hb dX13_readWords_263 (by decide) ?_
        refine g_iadd hx hb bz6_z (show (1 : Int32).toInt = 1 by decide) h dX13_readWords_264 (fun z7_z bz7_z h => ?_)
        refine g_iast C hM (j := 204) (by omega) (jK_M b kc T (by omega)) (a_204 b kc) hS hx1 bz7_z (B := 41) rfl h dX13_readWords_265 (fun S8_z H locs h hM hS => ?_)
        refine lv_goto (tgt := 19) hx hb dX13_readWords_266 (by decide) ?_
        exact hkf19_ S8_z _ _ _ hS hM (lv_sub hl [0, 1] rfl) h
      · refine lv_aload_n hx hb dX13_readWords_229 rfl (lv_at hl 0 rfl) ?_
        refine lv_iconst (v := 3) hx hb dX13_readWords_230 (by decide) ?_
        refine lv_aload_n hx hb dX13_readWords_231 rfl (lv_at hl 0 rfl) ?_
        refine g_get fl_X13_159_X13 C hM (i := 192) (r := 192) (by omega) (e_192 b kc T S) rfl hS dX13_readWords_232 (fun z9_z bz9_z => ?_)
        obtain ⟨S10_z, cS10_z, h⟩ := w_ltE h
        refine g_callQ (J := jM b kc T) (m_runV calV_X13_wrong wd_1252 (g_M_wrong l D kc b T S 3 3 (show (3 : Int32).toInt = 3 by decide) z9_z (gi S 192 10) bz9_z hS cS10_z.symm) C hM (i := 192) (by omega) (e_192 b kc T S) rfl hl.1 rfl rfl (Nat.le_of_ble_eq_true rfl) dX13_readWords_235 ⟨Nat.le_of_ble_eq_true rfl, Nat.le_of_ble_eq_true rfl⟩ ⟨Nat.le_of_ble_eq_true rfl, Nat.le_of_ble_eq_true rfl⟩) hM (fun z11_z H locs bz11_z hM hS => ?_)
        subst bz11_z
        exact g_athrow C hlk hnt hM hS thr (And.intro (r_2 h) (r_1 h).symm) dX13_readWords_238
    · refine lv_aload_n hx hb dX13_readWords_208 rfl (lv_at hl 0 rfl) ?_
      refine lv_iconst (v := 1) hx hb dX13_readWords_209 (by decide) ?_
      refine lv_aload_n hx hb dX13_readWords_210 rfl (lv_at hl 0 rfl) ?_
      refine g_get fl_X13_159_X13 C hM (i := 192) (r := 192) (by omega) (e_192 b kc T S) rfl hS dX13_readWords_211 (fun z12_z bz12_z => ?_)
      obtain ⟨S13_z, cS13_z, h⟩ := w_ltE h
      refine g_callQ (J := jM b kc T) (m_runV calV_X13_wrong wd_1252 (g_M_wrong l D kc b T S 1 1 (show (1 : Int32).toInt = 1 by decide) z12_z (gi S 192 10) bz12_z hS cS13_z.symm) C hM (i := 192) (by omega) (e_192 b kc T S) rfl hl.1 rfl rfl (Nat.le_of_ble_eq_true rfl) dX13_readWords_214 ⟨Nat.le_of_ble_eq_true rfl, Nat.le_of_ble_eq_true rfl⟩ ⟨Nat.le_of_ble_eq_true rfl, Nat.le_of_ble_eq_true rfl⟩) hM (fun z14_z H locs bz14_z hM hS => ?_)
      subst bz14_z
      exact g_athrow C hlk hnt hM hS thr (And.intro (r_2 h) (r_1 h).symm) dX13_readWords_217
  have B96 : ∀ (kf19_ : SS → Option (Option Unit × SS)) (hkf19_ : ∀ (S : SS) (H : Heap) (locs : List Loc) (ls : Array Slot), rng S → mS D b s 220 (jM b kc T S) H locs → lv_has ls 5 [(0, .ref (b + 192)), (1, .int x1)] → kf19_ S = some (vr, Sr) → W p l e (mR 6 0 0) s m args below meth c H locs 0 0 Q (F0 m 19 ls [])) (n : Nat), ∀ (S : SS) (H : Heap) (locs : List Loc) (ls : Array Slot) (x2_ : Int32) (v2_ : Int) (hx2_ : x2_.toInt = v2_) (w3_ : Int64), rng S → mS D b s 220 (jM b kc T S) H locs → lv_has ls 5 [(0, .ref (b + 192)), (1, .int x1), (2, .int x2_), (3, .long w3_)] → f_M_readWords_96 v1 kf19_ n S v2_ w3_ = some (vr, Sr) → W p l e (mR 6 0 0) s m args below meth c H locs 0 0 Q (F0 m 96 ls []) := by
    intro kf19_ hkf19_ n
    induction n with
    | zero => intro S H locs ls x2_ v2_ hx2_ w3_ hS hM hl h; exact absurd (h : none = some _) (fun q => nomatch q)
    | succ n hkf96_ =>
      intro S H locs ls x2_ v2_ hx2_ w3_ hS hM hl h
      have h : f_M_readWords_96_b v1 kf19_ (f_M_readWords_96 v1 kf19_ n) S v2_ w3_ = some (vr, Sr) := h
      unfold f_M_readWords_96_b at h
      refine lv_aload_n hx hb dX13_readWords_96 rfl (lv_at hl 0 rfl) ?_
      refine g_get fl_X13_31_X13 C hM (i := 192) (r := 192) (by omega) (e_192 b kc T S) rfl hS dX13_readWords_97 (fun z1_z bz1_z => ?_)
      refine lv_aload_n hx hb dX13_readWords_100 rfl (lv_at hl 0 rfl) ?_
      refine g_get fl_X13_14_X13 C hM (i := 192) (r := 192) (by omega) (e_192 b kc T S) rfl hS dX13_readWords_101 (fun z2_z bz2_z => ?_)
      refine g_icmp_ge (tgt := 204) hx hb bz1_z bz2_z h dX13_readWords_104 (by decide) (fun h => ?_) (fun h => ?_)
      · exact B204 kf19_ hkf19_ S _ _ _ x2_ v2_ hx2_ w3_ hS hM (lv_sub hl [0, 1, 2, 3] rfl) h
      · refine lv_aload_n hx hb dX13_readWords_107 rfl (lv_at hl 0 rfl) ?_
        refine lv_aload_n hx hb dX13_readWords_108 rfl (lv_at hl 0 rfl) ?_
        refine g_get fl_X13_31_X13 C hM (i := 192) (r := 192) (by omega) (e_192 b kc T S) rfl hS dX13_readWords_109 (fun z3_z bz3_z => ?_)
        obtain ⟨r4_z, cr4_z, h⟩ := w_b1E h
        refine g_callI (J := jM b kc T) (m_runV calV_X13_byteAt wd_1236 (g_M_byteAt l D kc b T S z3_z (gi S 192 11) bz3_z hS cr4_z) C hM (i := 192) (by omega) (e_192 b kc T S) rfl hl.1 rfl rfl (Nat.le_of_ble_eq_true rfl) dX13_readWords_112 ⟨Nat.le_of_ble_eq_true rfl, Nat.le_of_ble_eq_true rfl⟩ ⟨Nat.le_of_ble_eq_true rfl, Nat.le_of_ble_eq_true rfl⟩) hM (fun z5_z H locs bz5_z hM hS => ?_)
        refine g_callI (J := jM b kc T) (m_runS calS_X13_isBlank wd_1240 (g_M_isBlank l D kc b T S z5_z r4_z bz5_z hS rfl) C hM hl.1 rfl rfl (Nat.le_of_ble_eq_true rfl) dX13_readWords_115 ⟨Nat.le_of_ble_eq_true rfl, Nat.le_of_ble_eq_true rfl⟩ ⟨Nat.le_of_ble_eq_true rfl, Nat.le_of_ble_eq_true rfl⟩) hM (fun z6_z H locs bz6_z hM hS => ?_)
        refine g_if_ne (tgt := 204) hx hb bz6_z h dX13_readWords_118 (by decide) (fun h => ?_) (fun h => ?_)
        · exact B204 kf19_ hkf19_ S _ _ _ x2_ v2_ hx2_ w3_ hS hM (lv_sub hl [0, 1, 2, 3] rfl) h
        · refine lv_aload_n hx hb dX13_readWords_121 rfl (lv_at hl 0 rfl) ?_
          refine lv_aload_n hx hb dX13_readWords_122 rfl (lv_at hl 0 rfl) ?_
          refine g_get fl_X13_31_X13 C hM (i := 192) (r := 192) (by omega) (e_192 b kc T S) rfl hS dX13_readWords_123 (fun z7_z bz7_z => ?_)
          obtain ⟨r8_z, cr8_z, h⟩ := w_b1E h
          refine g_callI (J := jM b kc T) (m_runV calV_X13_byteAt wd_1236 (g_M_byteAt l D kc b T S z7_z (gi S 192 11) bz7_z hS cr8_z) C hM (i := 192) (by omega) (e_192 b kc T S) rfl hl.1 rfl rfl (Nat.le_of_ble_eq_true rfl) dX13_readWords_126 ⟨Nat.le_of_ble_eq_true rfl, Nat.le_of_ble_eq_true rfl⟩ ⟨Nat.le_of_ble_eq_true rfl, Nat.le_of_ble_eq_true rfl⟩) hM (fun z9_z H locs bz9_z hM hS => ?_)
          refine lv_bipush (v := 59) hx hb dX13_readWords_129 (by decide) ?_
          refine g_icmp_eq (tgt := 204) hx hb bz9_z (show (59 : Int32).toInt = 59 by decide) h dX13_readWords_131 (by decide) (fun h => ?_) (fun h => ?_)
          · exact B204 kf19_ hkf19_ S _ _ _ x2_ v2_ hx2_ w3_ hS hM (lv_sub hl [0, 1, 2, 3] rfl) h
          · refine lv_iload_n hx hb dX13_readWords_134 rfl (lv_at hl 2 rfl) ?_
            refine g_if_eq (tgt := 170) hx hb hx2_ h dX13_readWords_135 (by decide) (fun h => ?_) (fun h => ?_)
            · exact B170 kf19_ hkf19_ (f_M_readWords_96 v1 kf19_ n) hkf96_ S _ _ _ w3_ hS hM (lv_sub hl [0, 1, 3] rfl) h
            · refine lv_aload_n hx hb dX13_readWords_138 rfl (lv_at hl 0 rfl) ?_
              refine lv_aload_n hx hb dX13_readWords_139 rfl (lv_at hl 0 rfl) ?_
              refine g_get fl_X13_31_X13 C hM (i := 192) (r := 192) (by omega) (e_192 b kc T S) rfl hS dX13_readWords_140 (fun z10_z bz10_z => ?_)
              obtain ⟨r11_z, cr11_z, h⟩ := w_b1E h
              refine g_callI (J := jM b kc T) (m_runV calV_X13_byteAt wd_1236 (g_M_byteAt l D kc b T S z10_z (gi S 192 11) bz10_z hS cr11_z) C hM (i := 192) (by omega) (e_192 b kc T S) rfl hl.1 rfl rfl (Nat.le_of_ble_eq_true rfl) dX13_readWords_143 ⟨Nat.le_of_ble_eq_true rfl, Nat.le_of_ble_eq_true rfl⟩ ⟨Nat.le_of_ble_eq_true rfl, Nat.le_of_ble_eq_true rfl⟩) hM (fun z12_z H locs bz12_z hM hS => ?_)
              refine g_callI (J := jM b kc T) (m_runS calS_X13_isOfWord wd_1243 (g_M_isOfWord l D kc b T S z12_z r11_z bz12_z hS rfl) C hM hl.1 rfl rfl (Nat.le_of_ble_eq_true rfl) dX13_readWords_146 ⟨Nat.le_of_ble_eq_true rfl, Nat.le_of_ble_eq_true rfl⟩ ⟨Nat.le_of_ble_eq_true rfl, Nat.le_of_ble_eq_true rfl⟩) hM (fun z13_z H locs bz13_z hM hS => ?_)
              refine g_if_eq (tgt := 170) hx hb bz13_z h dX13_readWords_149 (by decide) (fun h => ?_) (fun h => ?_)
              · exact B170 kf19_ hkf19_ (f_M_readWords_96 v1 kf19_ n) hkf96_ S _ _ _ w3_ hS hM (lv_sub hl [0, 1, 3] rfl) h
              · refine lv_aload_n hx hb dX13_readWords_152 rfl (lv_at hl 0 rfl) ?_
                refine g_get fl_X13_31_X13 C hM (i := 192) (r := 192) (by omega) (e_192 b kc T S) rfl hS dX13_readWords_153 (fun z14_z bz14_z => ?_)
                refine lv_aload_n hx hb dX13_readWords_156 rfl (lv_at hl 0 rfl) ?_
                refine g_get fl_X13_159_X13 C hM (i := 192) (r := 192) (by omega) (e_192 b kc T S) rfl hS dX13_readWords_157 (fun z15_z bz15_z => ?_)
                refine g_isub hx hb bz14_z bz15_z h dX13_readWords_160 (fun z16_z bz16_z h => ?_)
                refine lv_bipush (v := 8) hx hb dX13_readWords_161 (by decide) ?_
                refine g_icmp_ge (tgt := 170) hx hb bz16_z (show (8 : Int32).toInt = 8 by decide) h dX13_readWords_163 (by decide) (fun h => ?_) (fun h => ?_)
                · exact B170 kf19_ hkf19_ (f_M_readWords_96 v1 kf19_ n) hkf96_ S _ _ _ w3_ hS hM (lv_sub hl [0, 1, 3] rfl) h
                · refine lv_iconst (v := 1) hx hb dX13_readWords_166 (by decide) ?_
                  refine lv_goto (tgt := 171) hx hb dX13_readWords_167 (by decide) ?_
                  exact B171 kf19_ hkf19_ (f_M_readWords_96 v1 kf19_ n) hkf96_ S _ _ _ w3_ 1 1 (show (1 : Int32).toInt = 1 by decide) hS hM (lv_sub hl [0, 1, 3] rfl) h
  have B269 : ∀ (S : SS) (H : Heap) (locs : List Loc) (ls : Array Slot), rng S → mS D b s 220 (jM b kc T S) H locs → lv_has ls 5 [(0, .ref (b + 192)), (1, .int x1)] → f_M_readWords_269 v1 S = some (vr, Sr) → W p l e (mR 6 0 0) s m args below meth c H locs 0 0 Q (F0 m 269 ls []) := by
    intro S H locs ls hS hM hl h
    unfold f_M_readWords_269 at h
    refine lv_aload_n hx hb dX13_readWords_269 rfl (lv_at hl 0 rfl) ?_
    refine m_get fl_X13_86_X13 C hM (i := 192) (by omega) (e_192 b kc T S) (v := .ref (b + 204)) rfl dX13_readWords_270 ?_
    refine lv_iload_n hx hb dX13_readWords_273 rfl (lv_at hl 1 rfl) ?_
    refine g_iald C hM (j := 204) (by omega) (jK_M b kc T (by omega)) (a_204 b kc) hS hx1 (B := 41) rfl h dX13_readWords_274 (fun z1_z bz1_z h => ?_)
    refine g_if_ne (tgt := 288) hx hb bz1_z h dX13_readWords_275 (by decide) (fun h => ?_) (fun h => ?_)
    · refine lv_aload_n hx hb dX13_readWords_288 rfl (lv_at hl 0 rfl) ?_
      obtain ⟨S2_z, cS2_z, h⟩ := w_b1E h
      refine g_callV (J := jM b kc T) (m_runV calV_X13_scan wd_1264 (g_M_scan l D kc b T S hS cS2_z) C hM (i := 192) (by omega) (e_192 b kc T S) rfl hl.1 rfl rfl (Nat.le_of_ble_eq_true rfl) dX13_readWords_289 ⟨Nat.le_of_ble_eq_true rfl, Nat.le_of_ble_eq_true rfl⟩ ⟨Nat.le_of_ble_eq_true rfl, Nat.le_of_ble_eq_true rfl⟩) hM (fun H locs hM hS => ?_)
      exact ret S2_z _ _ _ _ (r_1 h).symm (r_2 h) hM hS dX13_readWords_292
    · refine lv_aload_n hx hb dX13_readWords_278 rfl (lv_at hl 0 rfl) ?_
      refine lv_iconst (v := 1) hx hb dX13_readWords_279 (by decide) ?_
      refine lv_aload_n hx hb dX13_readWords_280 rfl (lv_at hl 0 rfl) ?_
      refine g_get fl_X13_159_X13 C hM (i := 192) (r := 192) (by omega) (e_192 b kc T S) rfl hS dX13_readWords_281 (fun z4_z bz4_z => ?_)
      obtain ⟨S5_z, cS5_z, h⟩ := w_ltE h
      refine g_callQ (J := jM b kc T) (m_runV calV_X13_wrong wd_1252 (g_M_wrong l D kc b T S 1 1 (show (1 : Int32).toInt = 1 by decide) z4_z (gi S 192 10) bz4_z hS cS5_z.symm) C hM (i := 192) (by omega) (e_192 b kc T S) rfl hl.1 rfl rfl (Nat.le_of_ble_eq_true rfl) dX13_readWords_284 ⟨Nat.le_of_ble_eq_true rfl, Nat.le_of_ble_eq_true rfl⟩ ⟨Nat.le_of_ble_eq_true rfl, Nat.le_of_ble_eq_true rfl⟩) hM (fun z6_z H locs bz6_z hM hS => ?_)
      subst bz6_z
      exact g_athrow C hlk hnt hM hS thr (And.intro (r_2 h) (r_1 h).symm) dX13_readWords_287
  have B57 : ∀ (kf19_ : SS → Option (Option Unit × SS)) (hkf19_ : ∀ (S : SS) (H : Heap) (locs : List Loc) (ls : Array Slot), rng S → mS D b s 220 (jM b kc T S) H locs → lv_has ls 5 [(0, .ref (b + 192)), (1, .int x1)] → kf19_ S = some (vr, Sr) → W p l e (mR 6 0 0) s m args below meth c H locs 0 0 Q (F0 m 19 ls [])), ∀ (S : SS) (H : Heap) (locs : List Loc) (ls : Array Slot), rng S → mS D b s 220 (jM b kc T S) H locs → lv_has ls 5 [(0, .ref (b + 192)), (1, .int x1)] → f_M_readWords_57 v1 kf19_ S = some (vr, Sr) → W p l e (mR 6 0 0) s m args below meth c H locs 0 0 Q (F0 m 57 ls []) := by
    intro kf19_ hkf19_ S H locs ls hS hM hl h
    unfold f_M_readWords_57 at h
    refine lv_aload_n hx hb dX13_readWords_57 rfl (lv_at hl 0 rfl) ?_
    refine lv_aload_n hx hb dX13_readWords_58 rfl (lv_at hl 0 rfl) ?_
    refine g_get fl_X13_31_X13 C hM (i := 192) (r := 192) (by omega) (e_192 b kc T S) rfl hS dX13_readWords_59 (fun z1_z bz1_z => ?_)
    refine g_put fl_X13_159_X13 C hM (i := 192) (by omega) (e_192 b kc T S) rfl rfl (Nat.le_of_ble_eq_true rfl) (fs1 := [.ref (b + 193), .ref (b + 194), .ref (b + 195), .int (oi (gi S 192 3)), .int (oi (gi S 192 4)), .int (oi (gi S 192 5)), .ref (b + 196), .ref (b + 197), .int (oi (gi S 192 8)), .int (oi (gi S 192 9)), .int z1_z, .int (oi (gi S 192 11)), .int (oi (gi S 192 12)), .int (oi (gi S 192 13)), .int (oi (gi S 192 14)), .int (oi (gi S 192 15)), .ref (b + 198), .ref (b + 199), .ref (b + 200), .ref (b + 201), .ref (b + 202), .ref (b + 203), .ref (b + 204), .ref (b + 205), .ref (b + 206), .ref (b + 207), .ref (b + 208), .int (oi (gi S 192 27)), .ref (b + 209), .ref (b + 210), .ref (b + 211), .ref (b + 212), .ref (b + 213), .ref (b + 214), .ref (b + 215), .int (oi (gi S 192 35)), .int (oi (gi S 192 36)), .int (oi (gi S 192 37)), .int (oi (gi S 192 38)), .ref (b + 216), .ref (b + 217), .ref (b + 218), .ref (b + 219)]) rfl (p_192_10 bz1_z) (rng_si hS (i32_of bz1_z)) h dX13_readWords_62 (fun S2_z H locs h hM hS => ?_)
    refine lv_aload_n hx hb dX13_readWords_65 rfl (lv_at hl 0 rfl) ?_
    refine g_get fl_X13_31_X13 C hM (i := 192) (r := 192) (by omega) (e_192 b kc T S2_z) rfl hS dX13_readWords_66 (fun z3_z bz3_z => ?_)
    refine lv_aload_n hx hb dX13_readWords_69 rfl (lv_at hl 0 rfl) ?_
    refine g_get fl_X13_14_X13 C hM (i := 192) (r := 192) (by omega) (e_192 b kc T S2_z) rfl hS dX13_readWords_70 (fun z4_z bz4_z => ?_)
    refine g_icmp_eq (tgt := 269) hx hb bz3_z bz4_z h dX13_readWords_73 (by decide) (fun h => ?_) (fun h => ?_)
    · exact B269 S2_z _ _ _ hS hM (lv_sub hl [0, 1] rfl) h
    · refine lv_aload_n hx hb dX13_readWords_76 rfl (lv_at hl 0 rfl) ?_
      refine lv_aload_n hx hb dX13_readWords_77 rfl (lv_at hl 0 rfl) ?_
      refine g_get fl_X13_31_X13 C hM (i := 192) (r := 192) (by omega) (e_192 b kc T S2_z) rfl hS dX13_readWords_78 (fun z5_z bz5_z => ?_)
      obtain ⟨r6_z, cr6_z, h⟩ := w_b1E h
      refine g_callI (J := jM b kc T) (m_runV calV_X13_byteAt wd_1236 (g_M_byteAt l D kc b T S2_z z5_z (gi S2_z 192 11) bz5_z hS cr6_z) C hM (i := 192) (by omega) (e_192 b kc T S2_z) rfl hl.1 rfl rfl (Nat.le_of_ble_eq_true rfl) dX13_readWords_81 ⟨Nat.le_of_ble_eq_true rfl, Nat.le_of_ble_eq_true rfl⟩ ⟨Nat.le_of_ble_eq_true rfl, Nat.le_of_ble_eq_true rfl⟩) hM (fun z7_z H locs bz7_z hM hS => ?_)
      refine lv_bipush (v := 59) hx hb dX13_readWords_84 (by decide) ?_
      refine g_icmp_ne (tgt := 92) hx hb bz7_z (show (59 : Int32).toInt = 59 by decide) h dX13_readWords_86 (by decide) (fun h => ?_) (fun h => ?_)
      · refine lv_iconst (v := 1) hx hb dX13_readWords_92 (by decide) ?_
        refine lv_istore_n (lv' := [(2, .int 1), (0, .ref (b + 192)), (1, .int x1)]) hx hb dX13_readWords_93 rfl hl (by decide) rfl (fun ls hl => ?_)
        refine lv_lconst (v := 0) hx hb dX13_readWords_94 (by decide) ?_
        refine lv_lstore_n (lv' := [(3, .long 0), (2, .int 1), (0, .ref (b + 192)), (1, .int x1)]) hx hb dX13_readWords_95 rfl hl (by decide) rfl (fun ls hl => ?_)
        exact B96 kf19_ hkf19_ FU S2_z _ _ _ 1 1 (show (1 : Int32).toInt = 1 by decide) 0 hS hM (lv_sub hl [2, 3, 1, 0] rfl) h
      · refine lv_goto (tgt := 269) hx hb dX13_readWords_89 (by decide) ?_
        exact B269 S2_z _ _ _ hS hM (lv_sub hl [0, 1] rfl) h
  have B19 : ∀ (n : Nat), ∀ (S : SS) (H : Heap) (locs : List Loc) (ls : Array Slot), rng S → mS D b s 220 (jM b kc T S) H locs → lv_has ls 5 [(0, .ref (b + 192)), (1, .int x1)] → f_M_readWords_19 v1 n S = some (vr, Sr) → W p l e (mR 6 0 0) s m args below meth c H locs 0 0 Q (F0 m 19 ls []) := by
    intro n
    induction n with
    | zero => intro S H locs ls hS hM hl h; exact absurd (h : none = some _) (fun q => nomatch q)
    | succ n hkf19_ =>
      intro S H locs ls hS hM hl h
      have h : f_M_readWords_19_b v1 (f_M_readWords_19 v1 n) S = some (vr, Sr) := h
      unfold f_M_readWords_19_b at h
      refine lv_aload_n hx hb dX13_readWords_19 rfl (lv_at hl 0 rfl) ?_
      refine g_get fl_X13_31_X13 C hM (i := 192) (r := 192) (by omega) (e_192 b kc T S) rfl hS dX13_readWords_20 (fun z1_z bz1_z => ?_)
      refine lv_aload_n hx hb dX13_readWords_23 rfl (lv_at hl 0 rfl) ?_
      refine g_get fl_X13_14_X13 C hM (i := 192) (r := 192) (by omega) (e_192 b kc T S) rfl hS dX13_readWords_24 (fun z2_z bz2_z => ?_)
      refine g_icmp_ge (tgt := 57) hx hb bz1_z bz2_z h dX13_readWords_27 (by decide) (fun h => ?_) (fun h => ?_)
      · exact B57 (f_M_readWords_19 v1 n) hkf19_ S _ _ _ hS hM (lv_sub hl [0, 1] rfl) h
      · refine lv_aload_n hx hb dX13_readWords_30 rfl (lv_at hl 0 rfl) ?_
        refine lv_aload_n hx hb dX13_readWords_31 rfl (lv_at hl 0 rfl) ?_
        refine g_get fl_X13_31_X13 C hM (i := 192) (r := 192) (by omega) (e_192 b kc T S) rfl hS dX13_readWords_32 (fun z3_z bz3_z => ?_)
        obtain ⟨r4_z, cr4_z, h⟩ := w_b1E h
        refine g_callI (J := jM b kc T) (m_runV calV_X13_byteAt wd_1236 (g_M_byteAt l D kc b T S z3_z (gi S 192 11) bz3_z hS cr4_z) C hM (i := 192) (by omega) (e_192 b kc T S) rfl hl.1 rfl rfl (Nat.le_of_ble_eq_true rfl) dX13_readWords_35 ⟨Nat.le_of_ble_eq_true rfl, Nat.le_of_ble_eq_true rfl⟩ ⟨Nat.le_of_ble_eq_true rfl, Nat.le_of_ble_eq_true rfl⟩) hM (fun z5_z H locs bz5_z hM hS => ?_)
        refine g_callI (J := jM b kc T) (m_runS calS_X13_isBlank wd_1240 (g_M_isBlank l D kc b T S z5_z r4_z bz5_z hS rfl) C hM hl.1 rfl rfl (Nat.le_of_ble_eq_true rfl) dX13_readWords_38 ⟨Nat.le_of_ble_eq_true rfl, Nat.le_of_ble_eq_true rfl⟩ ⟨Nat.le_of_ble_eq_true rfl, Nat.le_of_ble_eq_true rfl⟩) hM (fun z6_z H locs bz6_z hM hS => ?_)
        refine g_if_eq (tgt := 57) hx hb bz6_z h dX13_readWords_41 (by decide) (fun h => ?_) (fun h => ?_)
        · exact B57 (f_M_readWords_19 v1 n) hkf19_ S _ _ _ hS hM (lv_sub hl [0, 1] rfl) h
        · refine lv_aload_n hx hb dX13_readWords_44 rfl (lv_at hl 0 rfl) ?_
          refine lv_dup hx hb dX13_readWords_45 rfl ?_
          refine g_get fl_X13_31_X13 C hM (i := 192) (r := 192) (by omega) (e_192 b kc T S) rfl hS dX13_readWords_46 (fun z7_z bz7_z => ?_)
          refine lv_iconst (v := 1) hx hb dX13_readWords_49 (by decide) ?_
          refine g_iadd hx hb bz7_z (show (1 : Int32).toInt = 1 by decide) h dX13_readWords_50 (fun z8_z bz8_z h => ?_)
          refine g_put fl_X13_31_X13 C hM (i := 192) (by omega) (e_192 b kc T S) rfl rfl (Nat.le_of_ble_eq_true rfl) (fs1 := [.ref (b + 193), .ref (b + 194), .ref (b + 195), .int (oi (gi S 192 3)), .int (oi (gi S 192 4)), .int (oi (gi S 192 5)), .ref (b + 196), .ref (b + 197), .int (oi (gi S 192 8)), .int (oi (gi S 192 9)), .int (oi (gi S 192 10)), .int z8_z, .int (oi (gi S 192 12)), .int (oi (gi S 192 13)), .int (oi (gi S 192 14)), .int (oi (gi S 192 15)), .ref (b + 198), .ref (b + 199), .ref (b + 200), .ref (b + 201), .ref (b + 202), .ref (b + 203), .ref (b + 204), .ref (b + 205), .ref (b + 206), .ref (b + 207), .ref (b + 208), .int (oi (gi S 192 27)), .ref (b + 209), .ref (b + 210), .ref (b + 211), .ref (b + 212), .ref (b + 213), .ref (b + 214), .ref (b + 215), .int (oi (gi S 192 35)), .int (oi (gi S 192 36)), .int (oi (gi S 192 37)), .int (oi (gi S 192 38)), .ref (b + 216), .ref (b + 217), .ref (b + 218), .ref (b + 219)]) rfl (p_192_11 bz8_z) (rng_si hS (i32_of bz8_z)) h dX13_readWords_51 (fun S9_z H locs h hM hS => ?_)
          refine lv_goto (tgt := 19) hx hb dX13_readWords_54 (by decide) ?_
          exact hkf19_ S9_z _ _ _ hS hM (lv_sub hl [0, 1] rfl) h
  refine lv_aload_n hx hb dX13_readWords_0 rfl (lv_at hl 0 rfl) ?_
  refine g_ldcS (tx := "=") (i := 11) C (by decide) dX13_readWords_1 ?_
  obtain ⟨r1_z, cr1_z, h⟩ := w_b1E h
  refine g_callI (J := jM b kc T) (m_runV calV_X13_is wd_1273 (g_M_is l D kc b T S 11 (show 11 < 13 by decide) hS cr1_z) C hM (i := 192) (by omega) (e_192 b kc T S) rfl hl.1 rfl rfl (Nat.le_of_ble_eq_true rfl) dX13_readWords_3 ⟨Nat.le_of_ble_eq_true rfl, Nat.le_of_ble_eq_true rfl⟩ ⟨Nat.le_of_ble_eq_true rfl, Nat.le_of_ble_eq_true rfl⟩) hM (fun z2_z H locs bz2_z hM hS => ?_)
  refine g_if_ne (tgt := 19) hx hb bz2_z h dX13_readWords_6 (by decide) (fun h => ?_) (fun h => ?_)
  · exact B19 FU S _ _ _ hS hM (lv_sub hl [0, 1] rfl) h
  · refine lv_aload_n hx hb dX13_readWords_9 rfl (lv_at hl 0 rfl) ?_
    refine lv_iconst (v := 1) hx hb dX13_readWords_10 (by decide) ?_
    refine lv_aload_n hx hb dX13_readWords_11 rfl (lv_at hl 0 rfl) ?_
    refine g_get fl_X13_159_X13 C hM (i := 192) (r := 192) (by omega) (e_192 b kc T S) rfl hS dX13_readWords_12 (fun z3_z bz3_z => ?_)
    obtain ⟨S4_z, cS4_z, h⟩ := w_ltE h
    refine g_callQ (J := jM b kc T) (m_runV calV_X13_wrong wd_1252 (g_M_wrong l D kc b T S 1 1 (show (1 : Int32).toInt = 1 by decide) z3_z (gi S 192 10) bz3_z hS cS4_z.symm) C hM (i := 192) (by omega) (e_192 b kc T S) rfl hl.1 rfl rfl (Nat.le_of_ble_eq_true rfl) dX13_readWords_15 ⟨Nat.le_of_ble_eq_true rfl, Nat.le_of_ble_eq_true rfl⟩ ⟨Nat.le_of_ble_eq_true rfl, Nat.le_of_ble_eq_true rfl⟩) hM (fun z5_z H locs bz5_z hM hS => ?_)
    subst bz5_z
    exact g_athrow C hlk hnt hM hS thr (And.intro (r_2 h) (r_1 h).symm) dX13_readWords_18
theorem g_M_readWords (l : Launch) (D : va_G) (kc : Nat → ClassId) (b : Nat) (T S : SS) (x1 : Int32) (v1 : Int) (hx1 : x1.toInt = v1) (hS : rng S) {Sr : SS} (h : f_M_readWords S v1 = some (some (), Sr)) : cV l yX13_readWords cX13_readWords 5 6 D kc b (jM b kc T) S [.ref (b + 192), .int x1] Sr :=
  g_ofR_v (by decide) (Nat.le_of_ble_eq_true rfl) (fun p e s m args below meth c Q C hlk hnt ret thr hM ls hl => gw_M_readWords l D kc b T S x1 v1 hx1 hS h p e s m args below meth c Q C hlk hnt ret thr hM ls hl)
theorem t_M_readWords (l : Launch) (D : va_G) (kc : Nat → ClassId) (b : Nat) (T S : SS) (x1 : Int32) (v1 : Int) (hx1 : x1.toInt = v1) (hS : rng S) {Sr : SS} (h : f_M_readWords S v1 = some (none, Sr)) : cT l yX13_readWords cX13_readWords 5 none 6 D kc b (jM b kc T) S [.ref (b + 192), .int x1] Sr :=
  g_ofT (α := Unit) (by decide) (Nat.le_of_ble_eq_true rfl) (fun p e s m args below meth c Q C hlk hnt thr hM ls hl => gw_M_readWords l D kc b T S x1 v1 hx1 hS h p e s m args below meth c Q C hlk hnt (fun _ _ _ _ _ hx => nomatch hx) thr hM ls hl)

def f_M_readLine_456 (v1 : Int) (S : SS) : Option (Option Unit × SS) := w_lt (f_M_wrong S 2 (gi S 192 10)) (fun S2_z => some (none, S2_z))
def f_M_readLine_505 (v1 : Int) (S : SS) : Option (Option Unit × SS) := w_b1 (f_M_is S 12) (fun r1_z => (if r1_z = 0 then w_lt (f_M_wrong S 1 (gi S 192 10)) (fun S6_z => some (none, S6_z)) else w_b1 (f_M_scan S) (fun S3_z => some (some (), S3_z))))
def f_M_readLine_500 (v1 : Int) (S : SS) : Option (Option Unit × SS) := w_b3 (f_M_readWords S v1) (fun S3_z => some (none, S3_z)) (fun _ S2_z => f_M_readLine_505 v1 S2_z )
def f_M_readLine_480 (v1 : Int) (S : SS) : Option (Option Unit × SS) := w_chk (0 ≤ v1 ∧ v1 < 41) ((if gi S 199 (v1).toNat = 1 then f_M_readLine_500 v1 S  else w_chk (0 ≤ v1 ∧ v1 < 41) ((if gi S 199 (v1).toNat = 2 then f_M_readLine_500 v1 S  else f_M_readLine_505 v1 S ))))
def f_M_readLine_466 (v1 : Int) (S : SS) : Option (Option Unit × SS) := w_chk (i32 (v1 - 1)) (w_b3 (f_M_number S 0 (v1 - 1)) (fun S4_z => some (none, S4_z)) (fun r2_z S3_z => w_chk (0 ≤ v1 ∧ v1 < 41) (w_lt (si S3_z 201 (v1).toNat r2_z) (fun S6_z => f_M_readLine_480 v1 S6_z ))))
def f_M_readLine_250 (v1 : Int) (S : SS) (v3_ : Int) (vt0_ : Int) (vt1_ : Int) : Option (Option Unit × SS) := w_chk (0 ≤ vt1_ ∧ vt1_ < 41) (w_lt (si S 199 (vt1_).toNat vt0_) (fun S1_z => w_chk (0 ≤ v1 ∧ v1 < 41) ((if gi S1_z 199 (v1).toNat = (-1) then w_lt (f_M_wrong S1_z 1 (gi S1_z 192 10)) (fun S67_z => some (none, S67_z)) else w_b1 (f_M_scan S1_z) (fun S3_z => w_chk (0 ≤ v1 ∧ v1 < 41) ((if gi S3_z 199 (v1).toNat = 0 then w_b3 (f_M_number S3_z 0 v3_) (fun S9_z => some (none, S9_z)) (fun r7_z S8_z => w_chk (0 ≤ v1 ∧ v1 < 41) (w_lt (si S8_z 201 (v1).toNat r7_z) (fun S11_z => w_chk (0 ≤ v1 ∧ v1 < 41) (w_b3 (f_M_number S11_z (gi S11_z 201 (v1).toNat) v3_) (fun S15_z => some (none, S15_z)) (fun r13_z S14_z => w_chk (0 ≤ v1 ∧ v1 < 41) (w_lt (si S14_z 202 (v1).toNat r13_z) (fun S17_z => f_M_readLine_480 v1 S17_z ))))))) else (if gi S3_z 199 (v1).toNat = 1 then w_b3 (f_M_number S3_z 0 (gi S3_z 192 3)) (fun S22_z => some (none, S22_z)) (fun r20_z S21_z => w_chk (0 ≤ v1 ∧ v1 < 41) (w_lt (si S21_z 201 (v1).toNat r20_z) (fun S24_z => f_M_readLine_480 v1 S24_z ))) else (if gi S3_z 199 (v1).toNat = 2 then w_b3 (f_M_number S3_z 0 v3_) (fun S28_z => some (none, S28_z)) (fun r26_z S27_z => w_chk (0 ≤ v1 ∧ v1 < 41) (w_lt (si S27_z 201 (v1).toNat r26_z) (fun S30_z => w_chk (0 ≤ v1 ∧ v1 < 41) (w_b3 (f_M_number S30_z (gi S30_z 201 (v1).toNat) v3_) (fun S34_z => some (none, S34_z)) (fun r32_z S33_z => w_chk (0 ≤ v1 ∧ v1 < 41) (w_lt (si S33_z 202 (v1).toNat r32_z) (fun S36_z => f_M_readLine_480 v1 S36_z ))))))) else (if gi S3_z 199 (v1).toNat = 3 then w_chk (i32 (v3_ - 1)) (w_b3 (f_M_number S3_z 0 (v3_ - 1)) (fun S41_z => some (none, S41_z)) (fun r39_z S40_z => w_chk (0 ≤ v1 ∧ v1 < 41) (w_lt (si S40_z 201 (v1).toNat r39_z) (fun S43_z => w_chk (0 ≤ v1 ∧ v1 < 41) (w_chk (i32 ((gi S43_z 201 (v1).toNat) + 1)) (w_b3 (f_M_number S43_z ((gi S43_z 201 (v1).toNat) + 1) v3_) (fun S48_z => some (none, S48_z)) (fun r46_z S47_z => w_chk (0 ≤ v1 ∧ v1 < 41) (w_lt (si S47_z 202 (v1).toNat r46_z) (fun S50_z => w_chk (0 ≤ v1 ∧ v1 < 41) (w_b3 (f_M_number S50_z (gi S50_z 202 (v1).toNat) v3_) (fun S54_z => some (none, S54_z)) (fun r52_z S53_z => w_chk (0 ≤ v1 ∧ v1 < 41) (w_lt (si S53_z 203 (v1).toNat r52_z) (fun S56_z => f_M_readLine_480 v1 S56_z ))))))))))))) else (if gi S3_z 199 (v1).toNat = 4 then w_b3 (f_M_readMove S3_z v1) (fun S60_z => some (none, S60_z)) (fun _ S59_z => f_M_readLine_480 v1 S59_z ) else (if gi S3_z 192 12 = 2 then (if v1 ≤ gi S3_z 192 13 then f_M_readLine_456 v1 S3_z  else w_chk (0 ≤ (gi S3_z 192 13) ∧ (gi S3_z 192 13) < 41) ((if gi S3_z 199 (gi S3_z 192 13).toNat = 5 then f_M_readLine_456 v1 S3_z  else f_M_readLine_466 v1 S3_z ))) else f_M_readLine_466 v1 S3_z ))))))))))))
def f_M_readLine_249 (v1 : Int) (S : SS) (v3_ : Int) (vt0_ : Int) : Option (Option Unit × SS) := f_M_readLine_250 v1 S v3_ (-1) vt0_
def f_M_readLine_150 (v1 : Int) (S : SS) : Option (Option Unit × SS) := w_chk (i32 ((gi S 192 3) - 1)) (w_b1 (f_M_is S 5) (fun r3_z => (if r3_z = 0 then w_b1 (f_M_is S 6) (fun r5_z => (if r5_z = 0 then w_b1 (f_M_is S 7) (fun r7_z => (if r7_z = 0 then w_b1 (f_M_is S 8) (fun r9_z => (if r9_z = 0 then w_b1 (f_M_is S 9) (fun r11_z => (if r11_z = 0 then w_b1 (f_M_is S 10) (fun r13_z => (if r13_z = 0 then f_M_readLine_249 v1 S ((gi S 192 3) - 1) v1 else w_chk (0 ≤ v1 ∧ v1 < 41) ((if gi S 207 (v1).toNat = 0 then f_M_readLine_250 v1 S ((gi S 192 3) - 1) 5 v1 else f_M_readLine_249 v1 S ((gi S 192 3) - 1) v1)))) else f_M_readLine_250 v1 S ((gi S 192 3) - 1) 4 v1)) else f_M_readLine_250 v1 S ((gi S 192 3) - 1) 3 v1)) else f_M_readLine_250 v1 S ((gi S 192 3) - 1) 2 v1)) else f_M_readLine_250 v1 S ((gi S 192 3) - 1) 1 v1)) else f_M_readLine_250 v1 S ((gi S 192 3) - 1) 0 v1)))
def f_M_readLine_40 (v1 : Int) (S : SS) (vt0_ : Int) : Option (Option Unit × SS) := (if vt0_ = (-1) then w_lt (f_M_wrong S 1 (gi S 192 10)) (fun S21_z => some (none, S21_z)) else (if v1 = 40 then w_lt (f_M_wrong S 3 (gi S 192 10)) (fun S18_z => some (none, S18_z)) else w_chk (0 ≤ v1 ∧ v1 < 41) (w_lt (si S 200 (v1).toNat vt0_) (fun S1_z => w_chk (0 ≤ v1 ∧ v1 < 41) (w_lt (si S1_z 201 (v1).toNat (-1)) (fun S2_z => w_chk (0 ≤ v1 ∧ v1 < 41) (w_lt (si S2_z 202 (v1).toNat (-1)) (fun S3_z => w_chk (0 ≤ v1 ∧ v1 < 41) (w_lt (si S3_z 203 (v1).toNat (-1)) (fun S4_z => w_chk (0 ≤ v1 ∧ v1 < 41) (w_lt (si S4_z 204 (v1).toNat 0) (fun S5_z => w_chk (0 ≤ v1 ∧ v1 < 41) (w_lt (si S5_z 205 (v1).toNat 0) (fun S6_z => w_chk (0 ≤ v1 ∧ v1 < 41) (w_lt (si S6_z 208 (v1).toNat 0) (fun S7_z => w_b1 (f_M_scan S7_z) (fun S8_z => w_b1 (f_M_is S8_z 4) (fun r10_z => w_chk (r10_z = 0 ∨ r10_z = 1) (w_chk (0 ≤ v1 ∧ v1 < 41) (w_lt (si S8_z 207 (v1).toNat r10_z) (fun S13_z => w_chk (0 ≤ v1 ∧ v1 < 41) ((if gi S13_z 207 (v1).toNat = 0 then f_M_readLine_150 v1 S13_z  else w_b1 (f_M_scan S13_z) (fun S15_z => f_M_readLine_150 v1 S15_z ))))))))))))))))))))))))
def f_M_readLine (S : SS) (v1 : Int) : Option (Option Unit × SS) := w_b1 (f_M_is S 1) (fun r1_z => (if r1_z = 0 then w_b1 (f_M_is S 2) (fun r3_z => (if r3_z = 0 then w_b1 (f_M_is S 3) (fun r5_z => (if r5_z = 0 then f_M_readLine_40 v1 S (-1) else f_M_readLine_40 v1 S 2)) else f_M_readLine_40 v1 S 1)) else f_M_readLine_40 v1 S 0))
set_option maxHeartbeats 4000000 in
set_option maxRecDepth 100000 in
theorem gw_M_readLine (l : Launch) (D : va_G) (kc : Nat → ClassId) (b : Nat) (T S : SS) (x1 : Int32) (v1 : Int) (hx1 : x1.toInt = v1) (hS : rng S) {vr : Option Unit} {Sr : SS} (h : f_M_readLine S v1 = some (vr, Sr)) (p : Program) (e : Env) (s : State) (m : MethodId) (args : Array Value) (below : List Frame) (meth : Method) (c : Code) (Q : State → Prop) (C : mC p s m args c cX13_readLine 4 yX13_readLine.cls D kc b) (hlk : meth.locks = false) (hnt : c.exceptionTable.isEmpty = true) (ret : (∀ (S2 : SS) (H : Heap) (locs : List Loc) (ls : Array Slot) (pc : Nat), vr = some () → S2 = Sr → mS D b s 220 (jM b kc T S2) H locs → rng S2 → decode cX13_readLine pc = .ok (.return_, 1) → W p l e (mR 7 0 0) s m args below meth c H locs 0 0 Q (F0 m pc ls []))) (thr : gThr p l e (mR 7 0 0) s m args below meth c Q D b (jM b kc T) (fun S2 => S2 = Sr ∧ vr = none)) (hM : mS D b s 220 (jM b kc T S) s.heap []) (ls : Array Slot) (hl : lv_has ls 4 (lv_args 0 [.ref (b + 192), .int x1])) : W p l e (mR 7 0 0) s m args below meth c s.heap [] 0 0 Q (F0 m 0 ls []) := by
  obtain ⟨hx, hb, hml, hown, hts, hE, hbs⟩ := id C
  have hl : lv_has ls 4 [(0, .ref (b + 192)), (1, .int x1)] := hl
  unfold f_M_readLine at h
  have B456 : ∀ (S : SS) (H : Heap) (locs : List Loc) (ls : Array Slot), rng S → mS D b s 220 (jM b kc T S) H locs → lv_has ls 4 [(0, .ref (b + 192))] → f_M_readLine_456 v1 S = some (vr, Sr) → W p l e (mR 7 0 0) s m args below meth c H locs 0 0 Q (F0 m 456 ls []) := by
    intro S H locs ls hS hM hl h
    unfold f_M_readLine_456 at h
    refine lv_aload_n hx hb dX13_readLine_456 rfl (lv_at hl 0 rfl) ?_
    refine lv_iconst (v := 2) hx hb dX13_readLine_457 (by decide) ?_
    refine lv_aload_n hx hb dX13_readLine_458 rfl (lv_at hl 0 rfl) ?_
    refine g_get fl_X13_159_X13 C hM (i := 192) (r := 192) (by omega) (e_192 b kc T S) rfl hS dX13_readLine_459 (fun z1_z bz1_z => ?_)
    obtain ⟨S2_z, cS2_z, h⟩ := w_ltE h
    refine g_callQ (J := jM b kc T) (m_runV calV_X13_wrong wd_1252 (g_M_wrong l D kc b T S 2 2 (show (2 : Int32).toInt = 2 by decide) z1_z (gi S 192 10) bz1_z hS cS2_z.symm) C hM (i := 192) (by omega) (e_192 b kc T S) rfl hl.1 rfl rfl (Nat.le_of_ble_eq_true rfl) dX13_readLine_462 ⟨Nat.le_of_ble_eq_true rfl, Nat.le_of_ble_eq_true rfl⟩ ⟨Nat.le_of_ble_eq_true rfl, Nat.le_of_ble_eq_true rfl⟩) hM (fun z3_z H locs bz3_z hM hS => ?_)
    subst bz3_z
    exact g_athrow C hlk hnt hM hS thr (And.intro (r_2 h) (r_1 h).symm) dX13_readLine_465
  have B505 : ∀ (S : SS) (H : Heap) (locs : List Loc) (ls : Array Slot), rng S → mS D b s 220 (jM b kc T S) H locs → lv_has ls 4 [(0, .ref (b + 192))] → f_M_readLine_505 v1 S = some (vr, Sr) → W p l e (mR 7 0 0) s m args below meth c H locs 0 0 Q (F0 m 505 ls []) := by
    intro S H locs ls hS hM hl h
    unfold f_M_readLine_505 at h
    refine lv_aload_n hx hb dX13_readLine_505 rfl (lv_at hl 0 rfl) ?_
    refine g_ldcS (tx := ";") (i := 12) C (by decide) dX13_readLine_506 ?_
    obtain ⟨r1_z, cr1_z, h⟩ := w_b1E h
    refine g_callI (J := jM b kc T) (m_runV calV_X13_is wd_1273 (g_M_is l D kc b T S 12 (show 12 < 13 by decide) hS cr1_z) C hM (i := 192) (by omega) (e_192 b kc T S) rfl hl.1 rfl rfl (Nat.le_of_ble_eq_true rfl) dX13_readLine_508 ⟨Nat.le_of_ble_eq_true rfl, Nat.le_of_ble_eq_true rfl⟩ ⟨Nat.le_of_ble_eq_true rfl, Nat.le_of_ble_eq_true rfl⟩) hM (fun z2_z H locs bz2_z hM hS => ?_)
    refine g_if_ne (tgt := 524) hx hb bz2_z h dX13_readLine_511 (by decide) (fun h => ?_) (fun h => ?_)
    · refine lv_aload_n hx hb dX13_readLine_524 rfl (lv_at hl 0 rfl) ?_
      obtain ⟨S3_z, cS3_z, h⟩ := w_b1E h
      refine g_callV (J := jM b kc T) (m_runV calV_X13_scan wd_1264 (g_M_scan l D kc b T S hS cS3_z) C hM (i := 192) (by omega) (e_192 b kc T S) rfl hl.1 rfl rfl (Nat.le_of_ble_eq_true rfl) dX13_readLine_525 ⟨Nat.le_of_ble_eq_true rfl, Nat.le_of_ble_eq_true rfl⟩ ⟨Nat.le_of_ble_eq_true rfl, Nat.le_of_ble_eq_true rfl⟩) hM (fun H locs hM hS => ?_)
      exact ret S3_z _ _ _ _ (r_1 h).symm (r_2 h) hM hS dX13_readLine_528
    · refine lv_aload_n hx hb dX13_readLine_514 rfl (lv_at hl 0 rfl) ?_
      refine lv_iconst (v := 1) hx hb dX13_readLine_515 (by decide) ?_
      refine lv_aload_n hx hb dX13_readLine_516 rfl (lv_at hl 0 rfl) ?_
      refine g_get fl_X13_159_X13 C hM (i := 192) (r := 192) (by omega) (e_192 b kc T S) rfl hS dX13_readLine_517 (fun z5_z bz5_z => ?_)
      obtain ⟨S6_z, cS6_z, h⟩ := w_ltE h
      refine g_callQ (J := jM b kc T) (m_runV calV_X13_wrong wd_1252 (g_M_wrong l D kc b T S 1 1 (show (1 : Int32).toInt = 1 by decide) z5_z (gi S 192 10) bz5_z hS cS6_z.symm) C hM (i := 192) (by omega) (e_192 b kc T S) rfl hl.1 rfl rfl (Nat.le_of_ble_eq_true rfl) dX13_readLine_520 ⟨Nat.le_of_ble_eq_true rfl, Nat.le_of_ble_eq_true rfl⟩ ⟨Nat.le_of_ble_eq_true rfl, Nat.le_of_ble_eq_true rfl⟩) hM (fun z7_z H locs bz7_z hM hS => ?_)
      subst bz7_z
      exact g_athrow C hlk hnt hM hS thr (And.intro (r_2 h) (r_1 h).symm) dX13_readLine_523
  have B500 : ∀ (S : SS) (H : Heap) (locs : List Loc) (ls : Array Slot), rng S → mS D b s 220 (jM b kc T S) H locs → lv_has ls 4 [(0, .ref (b + 192)), (1, .int x1)] → f_M_readLine_500 v1 S = some (vr, Sr) → W p l e (mR 7 0 0) s m args below meth c H locs 0 0 Q (F0 m 500 ls []) := by
    intro S H locs ls hS hM hl h
    unfold f_M_readLine_500 at h
    refine lv_aload_n hx hb dX13_readLine_500 rfl (lv_at hl 0 rfl) ?_
    refine lv_iload_n hx hb dX13_readLine_501 rfl (lv_at hl 1 rfl) ?_
    rcases w_b3E h with ⟨r1_z, S2_z, cr1_z, h⟩ | ⟨S3_z, cr1_z, h⟩
    · refine g_callV (J := jM b kc T) (m_runV calV_X13_readWords wd_1296 (g_M_readWords l D kc b T S x1 v1 hx1 hS cr1_z) C hM (i := 192) (by omega) (e_192 b kc T S) rfl hl.1 rfl rfl (Nat.le_of_ble_eq_true rfl) dX13_readLine_502 ⟨Nat.le_of_ble_eq_true rfl, Nat.le_of_ble_eq_true rfl⟩ ⟨Nat.le_of_ble_eq_true rfl, Nat.le_of_ble_eq_true rfl⟩) hM (fun H locs hM hS => ?_)
      exact B505 S2_z _ _ _ hS hM (lv_sub hl [0] rfl) h
    · exact g_callThr hlk hnt thr (And.intro (r_2 h) (r_1 h).symm) (m_runT calV_X13_readWords wd_1296 (t_M_readWords l D kc b T S x1 v1 hx1 hS cr1_z) C hM (i := 192) (by omega) (e_192 b kc T S) rfl hl.1 rfl rfl (Nat.le_of_ble_eq_true rfl) dX13_readLine_502 ⟨Nat.le_of_ble_eq_true rfl, Nat.le_of_ble_eq_true rfl⟩ ⟨Nat.le_of_ble_eq_true rfl, Nat.le_of_ble_eq_true rfl⟩)
  have B480 : ∀ (S : SS) (H : Heap) (locs : List Loc) (ls : Array Slot), rng S → mS D b s 220 (jM b kc T S) H locs → lv_has ls 4 [(0, .ref (b + 192)), (1, .int x1)] → f_M_readLine_480 v1 S = some (vr, Sr) → W p l e (mR 7 0 0) s m args below meth c H locs 0 0 Q (F0 m 480 ls []) := by
    intro S H locs ls hS hM hl h
    unfold f_M_readLine_480 at h
    refine lv_aload_n hx hb dX13_readLine_480 rfl (lv_at hl 0 rfl) ?_
    refine m_get fl_X13_70_X13 C hM (i := 192) (by omega) (e_192 b kc T S) (v := .ref (b + 199)) rfl dX13_readLine_481 ?_
    refine lv_iload_n hx hb dX13_readLine_484 rfl (lv_at hl 1 rfl) ?_
    refine g_iald C hM (j := 199) (by omega) (jK_M b kc T (by omega)) (a_199 b kc) hS hx1 (B := 41) rfl h dX13_readLine_485 (fun z1_z bz1_z h => ?_)
    refine lv_iconst (v := 1) hx hb dX13_readLine_486 (by decide) ?_
    refine g_icmp_eq (tgt := 500) hx hb bz1_z (show (1 : Int32).toInt = 1 by decide) h dX13_readLine_487 (by decide) (fun h => ?_) (fun h => ?_)
    · exact B500 S _ _ _ hS hM (lv_sub hl [0, 1] rfl) h
    · refine lv_aload_n hx hb dX13_readLine_490 rfl (lv_at hl 0 rfl) ?_
      refine m_get fl_X13_70_X13 C hM (i := 192) (by omega) (e_192 b kc T S) (v := .ref (b + 199)) rfl dX13_readLine_491 ?_
      refine lv_iload_n hx hb dX13_readLine_494 rfl (lv_at hl 1 rfl) ?_
      refine g_iald C hM (j := 199) (by omega) (jK_M b kc T (by omega)) (a_199 b kc) hS hx1 (B := 41) rfl h dX13_readLine_495 (fun z2_z bz2_z h => ?_)
      refine lv_iconst (v := 2) hx hb dX13_readLine_496 (by decide) ?_
      refine g_icmp_ne (tgt := 505) hx hb bz2_z (show (2 : Int32).toInt = 2 by decide) h dX13_readLine_497 (by decide) (fun h => ?_) (fun h => ?_)
      · exact B505 S _ _ _ hS hM (lv_sub hl [0] rfl) h
      · exact B500 S _ _ _ hS hM (lv_sub hl [0, 1] rfl) h
  have B466 : ∀ (S : SS) (H : Heap) (locs : List Loc) (ls : Array Slot), rng S → mS D b s 220 (jM b kc T S) H locs → lv_has ls 4 [(0, .ref (b + 192)), (1, .int x1)] → f_M_readLine_466 v1 S = some (vr, Sr) → W p l e (mR 7 0 0) s m args below meth c H locs 0 0 Q (F0 m 466 ls []) := by
    intro S H locs ls hS hM hl h
    unfold f_M_readLine_466 at h
    refine lv_aload_n hx hb dX13_readLine_466 rfl (lv_at hl 0 rfl) ?_
    refine m_get fl_X13_77_X13 C hM (i := 192) (by omega) (e_192 b kc T S) (v := .ref (b + 201)) rfl dX13_readLine_467 ?_
    refine lv_iload_n hx hb dX13_readLine_470 rfl (lv_at hl 1 rfl) ?_
    refine lv_aload_n hx hb dX13_readLine_471 rfl (lv_at hl 0 rfl) ?_
    refine lv_iconst (v := 0) hx hb dX13_readLine_472 (by decide) ?_
    refine lv_iload_n hx hb dX13_readLine_473 rfl (lv_at hl 1 rfl) ?_
    refine lv_iconst (v := 1) hx hb dX13_readLine_474 (by decide) ?_
    refine g_isub hx hb hx1 (show (1 : Int32).toInt = 1 by decide) h dX13_readLine_475 (fun z1_z bz1_z h => ?_)
    rcases w_b3E h with ⟨r2_z, S3_z, cr2_z, h⟩ | ⟨S4_z, cr2_z, h⟩
    · refine g_callI (J := jM b kc T) (m_runV calV_X13_number wd_1288 (g_M_number l D kc b T S 0 0 (show (0 : Int32).toInt = 0 by decide) z1_z (v1 - 1) bz1_z hS cr2_z) C hM (i := 192) (by omega) (e_192 b kc T S) rfl hl.1 rfl rfl (Nat.le_of_ble_eq_true rfl) dX13_readLine_476 ⟨Nat.le_of_ble_eq_true rfl, Nat.le_of_ble_eq_true rfl⟩ ⟨Nat.le_of_ble_eq_true rfl, Nat.le_of_ble_eq_true rfl⟩) hM (fun z5_z H locs bz5_z hM hS => ?_)
      refine g_iast C hM (j := 201) (by omega) (jK_M b kc T (by omega)) (a_201 b kc) hS hx1 bz5_z (B := 41) rfl h dX13_readLine_479 (fun S6_z H locs h hM hS => ?_)
      exact B480 S6_z _ _ _ hS hM (lv_sub hl [0, 1] rfl) h
    · exact g_callThr hlk hnt thr (And.intro (r_2 h) (r_1 h).symm) (m_runT calV_X13_number wd_1288 (t_M_number l D kc b T S 0 0 (show (0 : Int32).toInt = 0 by decide) z1_z (v1 - 1) bz1_z hS cr2_z) C hM (i := 192) (by omega) (e_192 b kc T S) rfl hl.1 rfl rfl (Nat.le_of_ble_eq_true rfl) dX13_readLine_476 ⟨Nat.le_of_ble_eq_true rfl, Nat.le_of_ble_eq_true rfl⟩ ⟨Nat.le_of_ble_eq_true rfl, Nat.le_of_ble_eq_true rfl⟩)
  have B250 : ∀ (S : SS) (H : Heap) (locs : List Loc) (ls : Array Slot) (x3_ : Int32) (v3_ : Int) (hx3_ : x3_.toInt = v3_) (xt0_ : Int32) (vt0_ : Int) (hxt0_ : xt0_.toInt = vt0_) (xt1_ : Int32) (vt1_ : Int) (hxt1_ : xt1_.toInt = vt1_), rng S → mS D b s 220 (jM b kc T S) H locs → lv_has ls 4 [(0, .ref (b + 192)), (1, .int x1), (3, .int x3_)] → f_M_readLine_250 v1 S v3_ vt0_ vt1_ = some (vr, Sr) → W p l e (mR 7 0 0) s m args below meth c H locs 0 0 Q (F0 m 250 ls [.int xt0_, .int xt1_, .ref (b + 199)]) := by
    intro S H locs ls x3_ v3_ hx3_ xt0_ vt0_ hxt0_ xt1_ vt1_ hxt1_ hS hM hl h
    unfold f_M_readLine_250 at h
    refine g_iast C hM (j := 199) (by omega) (jK_M b kc T (by omega)) (a_199 b kc) hS hxt1_ hxt0_ (B := 41) rfl h dX13_readLine_250 (fun S1_z H locs h hM hS => ?_)
    refine lv_aload_n hx hb dX13_readLine_251 rfl (lv_at hl 0 rfl) ?_
    refine m_get fl_X13_70_X13 C hM (i := 192) (by omega) (e_192 b kc T S1_z) (v := .ref (b + 199)) rfl dX13_readLine_252 ?_
    refine lv_iload_n hx hb dX13_readLine_255 rfl (lv_at hl 1 rfl) ?_
    refine g_iald C hM (j := 199) (by omega) (jK_M b kc T (by omega)) (a_199 b kc) hS hx1 (B := 41) rfl h dX13_readLine_256 (fun z2_z bz2_z h => ?_)
    refine lv_iconst (v := (-1)) hx hb dX13_readLine_257 (by decide) ?_
    refine g_icmp_ne (tgt := 271) hx hb bz2_z (show ((-1) : Int32).toInt = (-1) by decide) h dX13_readLine_258 (by decide) (fun h => ?_) (fun h => ?_)
    · refine lv_aload_n hx hb dX13_readLine_271 rfl (lv_at hl 0 rfl) ?_
      obtain ⟨S3_z, cS3_z, h⟩ := w_b1E h
      refine g_callV (J := jM b kc T) (m_runV calV_X13_scan wd_1264 (g_M_scan l D kc b T S1_z hS cS3_z) C hM (i := 192) (by omega) (e_192 b kc T S1_z) rfl hl.1 rfl rfl (Nat.le_of_ble_eq_true rfl) dX13_readLine_272 ⟨Nat.le_of_ble_eq_true rfl, Nat.le_of_ble_eq_true rfl⟩ ⟨Nat.le_of_ble_eq_true rfl, Nat.le_of_ble_eq_true rfl⟩) hM (fun H locs hM hS => ?_)
      refine lv_aload_n hx hb dX13_readLine_275 rfl (lv_at hl 0 rfl) ?_
      refine m_get fl_X13_70_X13 C hM (i := 192) (by omega) (e_192 b kc T S3_z) (v := .ref (b + 199)) rfl dX13_readLine_276 ?_
      refine lv_iload_n hx hb dX13_readLine_279 rfl (lv_at hl 1 rfl) ?_
      refine g_iald C hM (j := 199) (by omega) (jK_M b kc T (by omega)) (a_199 b kc) hS hx1 (B := 41) rfl h dX13_readLine_280 (fun z5_z bz5_z h => ?_)
      by_cases c6_z : gi S3_z 199 (v1).toNat = 0
      · replace h := w_it c6_z h
        refine lv_tableIn (tgt := 316) hx hb dX13_readLine_281 (by rw [bz5_z, c6_z]; decide) (by rw [bz5_z, c6_z]; decide) (by rw [bz5_z, c6_z]; rfl) (by decide) ?_
        refine lv_aload_n hx hb dX13_readLine_316 rfl (lv_at hl 0 rfl) ?_
        refine m_get fl_X13_77_X13 C hM (i := 192) (by omega) (e_192 b kc T S3_z) (v := .ref (b + 201)) rfl dX13_readLine_317 ?_
        refine lv_iload_n hx hb dX13_readLine_320 rfl (lv_at hl 1 rfl) ?_
        refine lv_aload_n hx hb dX13_readLine_321 rfl (lv_at hl 0 rfl) ?_
        refine lv_iconst (v := 0) hx hb dX13_readLine_322 (by decide) ?_
        refine lv_iload_n hx hb dX13_readLine_323 rfl (lv_at hl 2 rfl) ?_
        rcases w_b3E h with ⟨r7_z, S8_z, cr7_z, h⟩ | ⟨S9_z, cr7_z, h⟩
        · refine g_callI (J := jM b kc T) (m_runV calV_X13_number wd_1288 (g_M_number l D kc b T S3_z 0 0 (show (0 : Int32).toInt = 0 by decide) x3_ v3_ hx3_ hS cr7_z) C hM (i := 192) (by omega) (e_192 b kc T S3_z) rfl hl.1 rfl rfl (Nat.le_of_ble_eq_true rfl) dX13_readLine_324 ⟨Nat.le_of_ble_eq_true rfl, Nat.le_of_ble_eq_true rfl⟩ ⟨Nat.le_of_ble_eq_true rfl, Nat.le_of_ble_eq_true rfl⟩) hM (fun z10_z H locs bz10_z hM hS => ?_)
          refine g_iast C hM (j := 201) (by omega) (jK_M b kc T (by omega)) (a_201 b kc) hS hx1 bz10_z (B := 41) rfl h dX13_readLine_327 (fun S11_z H locs h hM hS => ?_)
          refine lv_aload_n hx hb dX13_readLine_328 rfl (lv_at hl 0 rfl) ?_
          refine m_get fl_X13_80_X13 C hM (i := 192) (by omega) (e_192 b kc T S11_z) (v := .ref (b + 202)) rfl dX13_readLine_329 ?_
          refine lv_iload_n hx hb dX13_readLine_332 rfl (lv_at hl 1 rfl) ?_
          refine lv_aload_n hx hb dX13_readLine_333 rfl (lv_at hl 0 rfl) ?_
          refine lv_aload_n hx hb dX13_readLine_334 rfl (lv_at hl 0 rfl) ?_
          refine m_get fl_X13_77_X13 C hM (i := 192) (by omega) (e_192 b kc T S11_z) (v := .ref (b + 201)) rfl dX13_readLine_335 ?_
          refine lv_iload_n hx hb dX13_readLine_338 rfl (lv_at hl 1 rfl) ?_
          refine g_iald C hM (j := 201) (by omega) (jK_M b kc T (by omega)) (a_201 b kc) hS hx1 (B := 41) rfl h dX13_readLine_339 (fun z12_z bz12_z h => ?_)
          refine lv_iload_n hx hb dX13_readLine_340 rfl (lv_at hl 2 rfl) ?_
          rcases w_b3E h with ⟨r13_z, S14_z, cr13_z, h⟩ | ⟨S15_z, cr13_z, h⟩
          · refine g_callI (J := jM b kc T) (m_runV calV_X13_number wd_1288 (g_M_number l D kc b T S11_z z12_z (gi S11_z 201 (v1).toNat) bz12_z x3_ v3_ hx3_ hS cr13_z) C hM (i := 192) (by omega) (e_192 b kc T S11_z) rfl hl.1 rfl rfl (Nat.le_of_ble_eq_true rfl) dX13_readLine_341 ⟨Nat.le_of_ble_eq_true rfl, Nat.le_of_ble_eq_true rfl⟩ ⟨Nat.le_of_ble_eq_true rfl, Nat.le_of_ble_eq_true rfl⟩) hM (fun z16_z H locs bz16_z hM hS => ?_)
            refine g_iast C hM (j := 202) (by omega) (jK_M b kc T (by omega)) (a_202 b kc) hS hx1 bz16_z (B := 41) rfl h dX13_readLine_344 (fun S17_z H locs h hM hS => ?_)
            refine lv_goto (tgt := 480) hx hb dX13_readLine_345 (by decide) ?_
            exact B480 S17_z _ _ _ hS hM (lv_sub hl [0, 1] rfl) h
          · exact g_callThr hlk hnt thr (And.intro (r_2 h) (r_1 h).symm) (m_runT calV_X13_number wd_1288 (t_M_number l D kc b T S11_z z12_z (gi S11_z 201 (v1).toNat) bz12_z x3_ v3_ hx3_ hS cr13_z) C hM (i := 192) (by omega) (e_192 b kc T S11_z) rfl hl.1 rfl rfl (Nat.le_of_ble_eq_true rfl) dX13_readLine_341 ⟨Nat.le_of_ble_eq_true rfl, Nat.le_of_ble_eq_true rfl⟩ ⟨Nat.le_of_ble_eq_true rfl, Nat.le_of_ble_eq_true rfl⟩)
        · exact g_callThr hlk hnt thr (And.intro (r_2 h) (r_1 h).symm) (m_runT calV_X13_number wd_1288 (t_M_number l D kc b T S3_z 0 0 (show (0 : Int32).toInt = 0 by decide) x3_ v3_ hx3_ hS cr7_z) C hM (i := 192) (by omega) (e_192 b kc T S3_z) rfl hl.1 rfl rfl (Nat.le_of_ble_eq_true rfl) dX13_readLine_324 ⟨Nat.le_of_ble_eq_true rfl, Nat.le_of_ble_eq_true rfl⟩ ⟨Nat.le_of_ble_eq_true rfl, Nat.le_of_ble_eq_true rfl⟩)
      replace h := w_if c6_z h
      by_cases c18_z : gi S3_z 199 (v1).toNat = 1
      · replace h := w_it c18_z h
        refine lv_tableIn (tgt := 348) hx hb dX13_readLine_281 (by rw [bz5_z, c18_z]; decide) (by rw [bz5_z, c18_z]; decide) (by rw [bz5_z, c18_z]; rfl) (by decide) ?_
        refine lv_aload_n hx hb dX13_readLine_348 rfl (lv_at hl 0 rfl) ?_
        refine m_get fl_X13_77_X13 C hM (i := 192) (by omega) (e_192 b kc T S3_z) (v := .ref (b + 201)) rfl dX13_readLine_349 ?_
        refine lv_iload_n hx hb dX13_readLine_352 rfl (lv_at hl 1 rfl) ?_
        refine lv_aload_n hx hb dX13_readLine_353 rfl (lv_at hl 0 rfl) ?_
        refine lv_iconst (v := 0) hx hb dX13_readLine_354 (by decide) ?_
        refine lv_aload_n hx hb dX13_readLine_355 rfl (lv_at hl 0 rfl) ?_
        refine g_get fl_X13_150_X13 C hM (i := 192) (r := 192) (by omega) (e_192 b kc T S3_z) rfl hS dX13_readLine_356 (fun z19_z bz19_z => ?_)
        rcases w_b3E h with ⟨r20_z, S21_z, cr20_z, h⟩ | ⟨S22_z, cr20_z, h⟩
        · refine g_callI (J := jM b kc T) (m_runV calV_X13_number wd_1288 (g_M_number l D kc b T S3_z 0 0 (show (0 : Int32).toInt = 0 by decide) z19_z (gi S3_z 192 3) bz19_z hS cr20_z) C hM (i := 192) (by omega) (e_192 b kc T S3_z) rfl hl.1 rfl rfl (Nat.le_of_ble_eq_true rfl) dX13_readLine_359 ⟨Nat.le_of_ble_eq_true rfl, Nat.le_of_ble_eq_true rfl⟩ ⟨Nat.le_of_ble_eq_true rfl, Nat.le_of_ble_eq_true rfl⟩) hM (fun z23_z H locs bz23_z hM hS => ?_)
          refine g_iast C hM (j := 201) (by omega) (jK_M b kc T (by omega)) (a_201 b kc) hS hx1 bz23_z (B := 41) rfl h dX13_readLine_362 (fun S24_z H locs h hM hS => ?_)
          refine lv_goto (tgt := 480) hx hb dX13_readLine_363 (by decide) ?_
          exact B480 S24_z _ _ _ hS hM (lv_sub hl [0, 1] rfl) h
        · exact g_callThr hlk hnt thr (And.intro (r_2 h) (r_1 h).symm) (m_runT calV_X13_number wd_1288 (t_M_number l D kc b T S3_z 0 0 (show (0 : Int32).toInt = 0 by decide) z19_z (gi S3_z 192 3) bz19_z hS cr20_z) C hM (i := 192) (by omega) (e_192 b kc T S3_z) rfl hl.1 rfl rfl (Nat.le_of_ble_eq_true rfl) dX13_readLine_359 ⟨Nat.le_of_ble_eq_true rfl, Nat.le_of_ble_eq_true rfl⟩ ⟨Nat.le_of_ble_eq_true rfl, Nat.le_of_ble_eq_true rfl⟩)
      replace h := w_if c18_z h
      by_cases c25_z : gi S3_z 199 (v1).toNat = 2
      · replace h := w_it c25_z h
        refine lv_tableIn (tgt := 316) hx hb dX13_readLine_281 (by rw [bz5_z, c25_z]; decide) (by rw [bz5_z, c25_z]; decide) (by rw [bz5_z, c25_z]; rfl) (by decide) ?_
        refine lv_aload_n hx hb dX13_readLine_316 rfl (lv_at hl 0 rfl) ?_
        refine m_get fl_X13_77_X13 C hM (i := 192) (by omega) (e_192 b kc T S3_z) (v := .ref (b + 201)) rfl dX13_readLine_317 ?_
        refine lv_iload_n hx hb dX13_readLine_320 rfl (lv_at hl 1 rfl) ?_
        refine lv_aload_n hx hb dX13_readLine_321 rfl (lv_at hl 0 rfl) ?_
        refine lv_iconst (v := 0) hx hb dX13_readLine_322 (by decide) ?_
        refine lv_iload_n hx hb dX13_readLine_323 rfl (lv_at hl 2 rfl) ?_
        rcases w_b3E h with ⟨r26_z, S27_z, cr26_z, h⟩ | ⟨S28_z, cr26_z, h⟩
        · refine g_callI (J := jM b kc T) (m_runV calV_X13_number wd_1288 (g_M_number l D kc b T S3_z 0 0 (show (0 : Int32).toInt = 0 by decide) x3_ v3_ hx3_ hS cr26_z) C hM (i := 192) (by omega) (e_192 b kc T S3_z) rfl hl.1 rfl rfl (Nat.le_of_ble_eq_true rfl) dX13_readLine_324 ⟨Nat.le_of_ble_eq_true rfl, Nat.le_of_ble_eq_true rfl⟩ ⟨Nat.le_of_ble_eq_true rfl, Nat.le_of_ble_eq_true rfl⟩) hM (fun z29_z H locs bz29_z hM hS => ?_)
          refine g_iast C hM (j := 201) (by omega) (jK_M b kc T (by omega)) (a_201 b kc) hS hx1 bz29_z (B := 41) rfl h dX13_readLine_327 (fun S30_z H locs h hM hS => ?_)
          refine lv_aload_n hx hb dX13_readLine_328 rfl (lv_at hl 0 rfl) ?_
          refine m_get fl_X13_80_X13 C hM (i := 192) (by omega) (e_192 b kc T S30_z) (v := .ref (b + 202)) rfl dX13_readLine_329 ?_
          refine lv_iload_n hx hb dX13_readLine_332 rfl (lv_at hl 1 rfl) ?_
          refine lv_aload_n hx hb dX13_readLine_333 rfl (lv_at hl 0 rfl) ?_
          refine lv_aload_n hx hb dX13_readLine_334 rfl (lv_at hl 0 rfl) ?_
          refine m_get fl_X13_77_X13 C hM (i := 192) (by omega) (e_192 b kc T S30_z) (v := .ref (b + 201)) rfl dX13_readLine_335 ?_
          refine lv_iload_n hx hb dX13_readLine_338 rfl (lv_at hl 1 rfl) ?_
          refine g_iald C hM (j := 201) (by omega) (jK_M b kc T (by omega)) (a_201 b kc) hS hx1 (B := 41) rfl h dX13_readLine_339 (fun z31_z bz31_z h => ?_)
          refine lv_iload_n hx hb dX13_readLine_340 rfl (lv_at hl 2 rfl) ?_
          rcases w_b3E h with ⟨r32_z, S33_z, cr32_z, h⟩ | ⟨S34_z, cr32_z, h⟩
          · refine g_callI (J := jM b kc T) (m_runV calV_X13_number wd_1288 (g_M_number l D kc b T S30_z z31_z (gi S30_z 201 (v1).toNat) bz31_z x3_ v3_ hx3_ hS cr32_z) C hM (i := 192) (by omega) (e_192 b kc T S30_z) rfl hl.1 rfl rfl (Nat.le_of_ble_eq_true rfl) dX13_readLine_341 ⟨Nat.le_of_ble_eq_true rfl, Nat.le_of_ble_eq_true rfl⟩ ⟨Nat.le_of_ble_eq_true rfl, Nat.le_of_ble_eq_true rfl⟩) hM (fun z35_z H locs bz35_z hM hS => ?_)
            refine g_iast C hM (j := 202) (by omega) (jK_M b kc T (by omega)) (a_202 b kc) hS hx1 bz35_z (B := 41) rfl h dX13_readLine_344 (fun S36_z H locs h hM hS => ?_)
            refine lv_goto (tgt := 480) hx hb dX13_readLine_345 (by decide) ?_
            exact B480 S36_z _ _ _ hS hM (lv_sub hl [0, 1] rfl) h
          · exact g_callThr hlk hnt thr (And.intro (r_2 h) (r_1 h).symm) (m_runT calV_X13_number wd_1288 (t_M_number l D kc b T S30_z z31_z (gi S30_z 201 (v1).toNat) bz31_z x3_ v3_ hx3_ hS cr32_z) C hM (i := 192) (by omega) (e_192 b kc T S30_z) rfl hl.1 rfl rfl (Nat.le_of_ble_eq_true rfl) dX13_readLine_341 ⟨Nat.le_of_ble_eq_true rfl, Nat.le_of_ble_eq_true rfl⟩ ⟨Nat.le_of_ble_eq_true rfl, Nat.le_of_ble_eq_true rfl⟩)
        · exact g_callThr hlk hnt thr (And.intro (r_2 h) (r_1 h).symm) (m_runT calV_X13_number wd_1288 (t_M_number l D kc b T S3_z 0 0 (show (0 : Int32).toInt = 0 by decide) x3_ v3_ hx3_ hS cr26_z) C hM (i := 192) (by omega) (e_192 b kc T S3_z) rfl hl.1 rfl rfl (Nat.le_of_ble_eq_true rfl) dX13_readLine_324 ⟨Nat.le_of_ble_eq_true rfl, Nat.le_of_ble_eq_true rfl⟩ ⟨Nat.le_of_ble_eq_true rfl, Nat.le_of_ble_eq_true rfl⟩)
      replace h := w_if c25_z h
      by_cases c37_z : gi S3_z 199 (v1).toNat = 3
      · replace h := w_it c37_z h
        refine lv_tableIn (tgt := 366) hx hb dX13_readLine_281 (by rw [bz5_z, c37_z]; decide) (by rw [bz5_z, c37_z]; decide) (by rw [bz5_z, c37_z]; rfl) (by decide) ?_
        refine lv_aload_n hx hb dX13_readLine_366 rfl (lv_at hl 0 rfl) ?_
        refine m_get fl_X13_77_X13 C hM (i := 192) (by omega) (e_192 b kc T S3_z) (v := .ref (b + 201)) rfl dX13_readLine_367 ?_
        refine lv_iload_n hx hb dX13_readLine_370 rfl (lv_at hl 1 rfl) ?_
        refine lv_aload_n hx hb dX13_readLine_371 rfl (lv_at hl 0 rfl) ?_
        refine lv_iconst (v := 0) hx hb dX13_readLine_372 (by decide) ?_
        refine lv_iload_n hx hb dX13_readLine_373 rfl (lv_at hl 2 rfl) ?_
        refine lv_iconst (v := 1) hx hb dX13_readLine_374 (by decide) ?_
        refine g_isub hx hb hx3_ (show (1 : Int32).toInt = 1 by decide) h dX13_readLine_375 (fun z38_z bz38_z h => ?_)
        rcases w_b3E h with ⟨r39_z, S40_z, cr39_z, h⟩ | ⟨S41_z, cr39_z, h⟩
        · refine g_callI (J := jM b kc T) (m_runV calV_X13_number wd_1288 (g_M_number l D kc b T S3_z 0 0 (show (0 : Int32).toInt = 0 by decide) z38_z (v3_ - 1) bz38_z hS cr39_z) C hM (i := 192) (by omega) (e_192 b kc T S3_z) rfl hl.1 rfl rfl (Nat.le_of_ble_eq_true rfl) dX13_readLine_376 ⟨Nat.le_of_ble_eq_true rfl, Nat.le_of_ble_eq_true rfl⟩ ⟨Nat.le_of_ble_eq_true rfl, Nat.le_of_ble_eq_true rfl⟩) hM (fun z42_z H locs bz42_z hM hS => ?_)
          refine g_iast C hM (j := 201) (by omega) (jK_M b kc T (by omega)) (a_201 b kc) hS hx1 bz42_z (B := 41) rfl h dX13_readLine_379 (fun S43_z H locs h hM hS => ?_)
          refine lv_aload_n hx hb dX13_readLine_380 rfl (lv_at hl 0 rfl) ?_
          refine m_get fl_X13_80_X13 C hM (i := 192) (by omega) (e_192 b kc T S43_z) (v := .ref (b + 202)) rfl dX13_readLine_381 ?_
          refine lv_iload_n hx hb dX13_readLine_384 rfl (lv_at hl 1 rfl) ?_
          refine lv_aload_n hx hb dX13_readLine_385 rfl (lv_at hl 0 rfl) ?_
          refine lv_aload_n hx hb dX13_readLine_386 rfl (lv_at hl 0 rfl) ?_
          refine m_get fl_X13_77_X13 C hM (i := 192) (by omega) (e_192 b kc T S43_z) (v := .ref (b + 201)) rfl dX13_readLine_387 ?_
          refine lv_iload_n hx hb dX13_readLine_390 rfl (lv_at hl 1 rfl) ?_
          refine g_iald C hM (j := 201) (by omega) (jK_M b kc T (by omega)) (a_201 b kc) hS hx1 (B := 41) rfl h dX13_readLine_391 (fun z44_z bz44_z h => ?_)
          refine lv_iconst (v := 1) hx hb dX13_readLine_392 (by decide) ?_
          refine g_iadd hx hb bz44_z (show (1 : Int32).toInt = 1 by decide) h dX13_readLine_393 (fun z45_z bz45_z h => ?_)
          refine lv_iload_n hx hb dX13_readLine_394 rfl (lv_at hl 2 rfl) ?_
          rcases w_b3E h with ⟨r46_z, S47_z, cr46_z, h⟩ | ⟨S48_z, cr46_z, h⟩
          · refine g_callI (J := jM b kc T) (m_runV calV_X13_number wd_1288 (g_M_number l D kc b T S43_z z45_z ((gi S43_z 201 (v1).toNat) + 1) bz45_z x3_ v3_ hx3_ hS cr46_z) C hM (i := 192) (by omega) (e_192 b kc T S43_z) rfl hl.1 rfl rfl (Nat.le_of_ble_eq_true rfl) dX13_readLine_395 ⟨Nat.le_of_ble_eq_true rfl, Nat.le_of_ble_eq_true rfl⟩ ⟨Nat.le_of_ble_eq_true rfl, Nat.le_of_ble_eq_true rfl⟩) hM (fun z49_z H locs bz49_z hM hS => ?_)
            refine g_iast C hM (j := 202) (by omega) (jK_M b kc T (by omega)) (a_202 b kc) hS hx1 bz49_z (B := 41) rfl h dX13_readLine_398 (fun S50_z H locs h hM hS => ?_)
            refine lv_aload_n hx hb dX13_readLine_399 rfl (lv_at hl 0 rfl) ?_
            refine m_get fl_X13_83_X13 C hM (i := 192) (by omega) (e_192 b kc T S50_z) (v := .ref (b + 203)) rfl dX13_readLine_400 ?_
            refine lv_iload_n hx hb dX13_readLine_403 rfl (lv_at hl 1 rfl) ?_
            refine lv_aload_n hx hb dX13_readLine_404 rfl (lv_at hl 0 rfl) ?_
            refine lv_aload_n hx hb dX13_readLine_405 rfl (lv_at hl 0 rfl) ?_
            refine m_get fl_X13_80_X13 C hM (i := 192) (by omega) (e_192 b kc T S50_z) (v := .ref (b + 202)) rfl dX13_readLine_406 ?_
            refine lv_iload_n hx hb dX13_readLine_409 rfl (lv_at hl 1 rfl) ?_
            refine g_iald C hM (j := 202) (by omega) (jK_M b kc T (by omega)) (a_202 b kc) hS hx1 (B := 41) rfl h dX13_readLine_410 (fun z51_z bz51_z h => ?_)
            refine lv_iload_n hx hb dX13_readLine_411 rfl (lv_at hl 2 rfl) ?_
            rcases w_b3E h with ⟨r52_z, S53_z, cr52_z, h⟩ | ⟨S54_z, cr52_z, h⟩
            · refine g_callI (J := jM b kc T) (m_runV calV_X13_number wd_1288 (g_M_number l D kc b T S50_z z51_z (gi S50_z 202 (v1).toNat) bz51_z x3_ v3_ hx3_ hS cr52_z) C hM (i := 192) (by omega) (e_192 b kc T S50_z) rfl hl.1 rfl rfl (Nat.le_of_ble_eq_true rfl) dX13_readLine_412 ⟨Nat.le_of_ble_eq_true rfl, Nat.le_of_ble_eq_true rfl⟩ ⟨Nat.le_of_ble_eq_true rfl, Nat.le_of_ble_eq_true rfl⟩) hM (fun z55_z H locs bz55_z hM hS => ?_)
              refine g_iast C hM (j := 203) (by omega) (jK_M b kc T (by omega)) (a_203 b kc) hS hx1 bz55_z (B := 41) rfl h dX13_readLine_415 (fun S56_z H locs h hM hS => ?_)
              refine lv_goto (tgt := 480) hx hb dX13_readLine_416 (by decide) ?_
              exact B480 S56_z _ _ _ hS hM (lv_sub hl [0, 1] rfl) h
            · exact g_callThr hlk hnt thr (And.intro (r_2 h) (r_1 h).symm) (m_runT calV_X13_number wd_1288 (t_M_number l D kc b T S50_z z51_z (gi S50_z 202 (v1).toNat) bz51_z x3_ v3_ hx3_ hS cr52_z) C hM (i := 192) (by omega) (e_192 b kc T S50_z) rfl hl.1 rfl rfl (Nat.le_of_ble_eq_true rfl) dX13_readLine_412 ⟨Nat.le_of_ble_eq_true rfl, Nat.le_of_ble_eq_true rfl⟩ ⟨Nat.le_of_ble_eq_true rfl, Nat.le_of_ble_eq_true rfl⟩)
          · exact g_callThr hlk hnt thr (And.intro (r_2 h) (r_1 h).symm) (m_runT calV_X13_number wd_1288 (t_M_number l D kc b T S43_z z45_z ((gi S43_z 201 (v1).toNat) + 1) bz45_z x3_ v3_ hx3_ hS cr46_z) C hM (i := 192) (by omega) (e_192 b kc T S43_z) rfl hl.1 rfl rfl (Nat.le_of_ble_eq_true rfl) dX13_readLine_395 ⟨Nat.le_of_ble_eq_true rfl, Nat.le_of_ble_eq_true rfl⟩ ⟨Nat.le_of_ble_eq_true rfl, Nat.le_of_ble_eq_true rfl⟩)
        · exact g_callThr hlk hnt thr (And.intro (r_2 h) (r_1 h).symm) (m_runT calV_X13_number wd_1288 (t_M_number l D kc b T S3_z 0 0 (show (0 : Int32).toInt = 0 by decide) z38_z (v3_ - 1) bz38_z hS cr39_z) C hM (i := 192) (by omega) (e_192 b kc T S3_z) rfl hl.1 rfl rfl (Nat.le_of_ble_eq_true rfl) dX13_readLine_376 ⟨Nat.le_of_ble_eq_true rfl, Nat.le_of_ble_eq_true rfl⟩ ⟨Nat.le_of_ble_eq_true rfl, Nat.le_of_ble_eq_true rfl⟩)
      replace h := w_if c37_z h
      by_cases c57_z : gi S3_z 199 (v1).toNat = 4
      · replace h := w_it c57_z h
        refine lv_tableIn (tgt := 419) hx hb dX13_readLine_281 (by rw [bz5_z, c57_z]; decide) (by rw [bz5_z, c57_z]; decide) (by rw [bz5_z, c57_z]; rfl) (by decide) ?_
        refine lv_aload_n hx hb dX13_readLine_419 rfl (lv_at hl 0 rfl) ?_
        refine lv_iload_n hx hb dX13_readLine_420 rfl (lv_at hl 1 rfl) ?_
        rcases w_b3E h with ⟨r58_z, S59_z, cr58_z, h⟩ | ⟨S60_z, cr58_z, h⟩
        · refine g_callV (J := jM b kc T) (m_runV calV_X13_readMove wd_1292 (g_M_readMove l D kc b T S3_z x1 v1 hx1 hS cr58_z) C hM (i := 192) (by omega) (e_192 b kc T S3_z) rfl hl.1 rfl rfl (Nat.le_of_ble_eq_true rfl) dX13_readLine_421 ⟨Nat.le_of_ble_eq_true rfl, Nat.le_of_ble_eq_true rfl⟩ ⟨Nat.le_of_ble_eq_true rfl, Nat.le_of_ble_eq_true rfl⟩) hM (fun H locs hM hS => ?_)
          refine lv_goto (tgt := 480) hx hb dX13_readLine_424 (by decide) ?_
          exact B480 S59_z _ _ _ hS hM (lv_sub hl [0, 1] rfl) h
        · exact g_callThr hlk hnt thr (And.intro (r_2 h) (r_1 h).symm) (m_runT calV_X13_readMove wd_1292 (t_M_readMove l D kc b T S3_z x1 v1 hx1 hS cr58_z) C hM (i := 192) (by omega) (e_192 b kc T S3_z) rfl hl.1 rfl rfl (Nat.le_of_ble_eq_true rfl) dX13_readLine_421 ⟨Nat.le_of_ble_eq_true rfl, Nat.le_of_ble_eq_true rfl⟩ ⟨Nat.le_of_ble_eq_true rfl, Nat.le_of_ble_eq_true rfl⟩)
      replace h := w_if c57_z h
      refine lv_tableOut (tgt := 427) hx hb dX13_readLine_281 (by rw [bz5_z]; omega) (by decide) ?_
      refine lv_aload_n hx hb dX13_readLine_427 rfl (lv_at hl 0 rfl) ?_
      refine g_get fl_X13_162_X13 C hM (i := 192) (r := 192) (by omega) (e_192 b kc T S3_z) rfl hS dX13_readLine_428 (fun z62_z bz62_z => ?_)
      refine lv_iconst (v := 2) hx hb dX13_readLine_431 (by decide) ?_
      refine g_icmp_ne (tgt := 466) hx hb bz62_z (show (2 : Int32).toInt = 2 by decide) h dX13_readLine_432 (by decide) (fun h => ?_) (fun h => ?_)
      · exact B466 S3_z _ _ _ hS hM (lv_sub hl [0, 1] rfl) h
      · refine lv_aload_n hx hb dX13_readLine_435 rfl (lv_at hl 0 rfl) ?_
        refine g_get fl_X13_165_X13 C hM (i := 192) (r := 192) (by omega) (e_192 b kc T S3_z) rfl hS dX13_readLine_436 (fun z63_z bz63_z => ?_)
        refine lv_iload_n hx hb dX13_readLine_439 rfl (lv_at hl 1 rfl) ?_
        refine g_icmp_ge (tgt := 456) hx hb bz63_z hx1 h dX13_readLine_440 (by decide) (fun h => ?_) (fun h => ?_)
        · exact B456 S3_z _ _ _ hS hM (lv_sub hl [0] rfl) h
        · refine lv_aload_n hx hb dX13_readLine_443 rfl (lv_at hl 0 rfl) ?_
          refine m_get fl_X13_70_X13 C hM (i := 192) (by omega) (e_192 b kc T S3_z) (v := .ref (b + 199)) rfl dX13_readLine_444 ?_
          refine lv_aload_n hx hb dX13_readLine_447 rfl (lv_at hl 0 rfl) ?_
          refine g_get fl_X13_165_X13 C hM (i := 192) (r := 192) (by omega) (e_192 b kc T S3_z) rfl hS dX13_readLine_448 (fun z64_z bz64_z => ?_)
          refine g_iald C hM (j := 199) (by omega) (jK_M b kc T (by omega)) (a_199 b kc) hS bz64_z (B := 41) rfl h dX13_readLine_451 (fun z65_z bz65_z h => ?_)
          refine lv_iconst (v := 5) hx hb dX13_readLine_452 (by decide) ?_
          refine g_icmp_ne (tgt := 466) hx hb bz65_z (show (5 : Int32).toInt = 5 by decide) h dX13_readLine_453 (by decide) (fun h => ?_) (fun h => ?_)
          · exact B466 S3_z _ _ _ hS hM (lv_sub hl [0, 1] rfl) h
          · exact B456 S3_z _ _ _ hS hM (lv_sub hl [0] rfl) h
    · refine lv_aload_n hx hb dX13_readLine_261 rfl (lv_at hl 0 rfl) ?_
      refine lv_iconst (v := 1) hx hb dX13_readLine_262 (by decide) ?_
      refine lv_aload_n hx hb dX13_readLine_263 rfl (lv_at hl 0 rfl) ?_
      refine g_get fl_X13_159_X13 C hM (i := 192) (r := 192) (by omega) (e_192 b kc T S1_z) rfl hS dX13_readLine_264 (fun z66_z bz66_z => ?_)
      obtain ⟨S67_z, cS67_z, h⟩ := w_ltE h
      refine g_callQ (J := jM b kc T) (m_runV calV_X13_wrong wd_1252 (g_M_wrong l D kc b T S1_z 1 1 (show (1 : Int32).toInt = 1 by decide) z66_z (gi S1_z 192 10) bz66_z hS cS67_z.symm) C hM (i := 192) (by omega) (e_192 b kc T S1_z) rfl hl.1 rfl rfl (Nat.le_of_ble_eq_true rfl) dX13_readLine_267 ⟨Nat.le_of_ble_eq_true rfl, Nat.le_of_ble_eq_true rfl⟩ ⟨Nat.le_of_ble_eq_true rfl, Nat.le_of_ble_eq_true rfl⟩) hM (fun z68_z H locs bz68_z hM hS => ?_)
      subst bz68_z
      exact g_athrow C hlk hnt hM hS thr (And.intro (r_2 h) (r_1 h).symm) dX13_readLine_270
  have B249 : ∀ (S : SS) (H : Heap) (locs : List Loc) (ls : Array Slot) (x3_ : Int32) (v3_ : Int) (hx3_ : x3_.toInt = v3_) (xt0_ : Int32) (vt0_ : Int) (hxt0_ : xt0_.toInt = vt0_), rng S → mS D b s 220 (jM b kc T S) H locs → lv_has ls 4 [(0, .ref (b + 192)), (1, .int x1), (3, .int x3_)] → f_M_readLine_249 v1 S v3_ vt0_ = some (vr, Sr) → W p l e (mR 7 0 0) s m args below meth c H locs 0 0 Q (F0 m 249 ls [.int xt0_, .ref (b + 199)]) := by
    intro S H locs ls x3_ v3_ hx3_ xt0_ vt0_ hxt0_ hS hM hl h
    unfold f_M_readLine_249 at h
    refine lv_iconst (v := (-1)) hx hb dX13_readLine_249 (by decide) ?_
    exact B250 S _ _ _ x3_ v3_ hx3_ (-1) (-1) (show ((-1) : Int32).toInt = (-1) by decide) xt0_ vt0_ hxt0_ hS hM (lv_sub hl [0, 1, 2] rfl) h
  have B150 : ∀ (S : SS) (H : Heap) (locs : List Loc) (ls : Array Slot), rng S → mS D b s 220 (jM b kc T S) H locs → lv_has ls 4 [(0, .ref (b + 192)), (1, .int x1)] → f_M_readLine_150 v1 S = some (vr, Sr) → W p l e (mR 7 0 0) s m args below meth c H locs 0 0 Q (F0 m 150 ls []) := by
    intro S H locs ls hS hM hl h
    unfold f_M_readLine_150 at h
    refine lv_aload_n hx hb dX13_readLine_150 rfl (lv_at hl 0 rfl) ?_
    refine g_get fl_X13_150_X13 C hM (i := 192) (r := 192) (by omega) (e_192 b kc T S) rfl hS dX13_readLine_151 (fun z1_z bz1_z => ?_)
    refine lv_iconst (v := 1) hx hb dX13_readLine_154 (by decide) ?_
    refine g_isub hx hb bz1_z (show (1 : Int32).toInt = 1 by decide) h dX13_readLine_155 (fun z2_z bz2_z h => ?_)
    refine lv_istore_n (lv' := [(3, .int z2_z), (0, .ref (b + 192)), (1, .int x1)]) hx hb dX13_readLine_156 rfl hl (by decide) rfl (fun ls hl => ?_)
    refine lv_aload_n hx hb dX13_readLine_157 rfl (lv_at hl 1 rfl) ?_
    refine m_get fl_X13_70_X13 C hM (i := 192) (by omega) (e_192 b kc T S) (v := .ref (b + 199)) rfl dX13_readLine_158 ?_
    refine lv_iload_n hx hb dX13_readLine_161 rfl (lv_at hl 2 rfl) ?_
    refine lv_aload_n hx hb dX13_readLine_162 rfl (lv_at hl 1 rfl) ?_
    refine g_ldcS (tx := "strike") (i := 5) C (by decide) dX13_readLine_163 ?_
    obtain ⟨r3_z, cr3_z, h⟩ := w_b1E h
    refine g_callI (J := jM b kc T) (m_runV calV_X13_is wd_1273 (g_M_is l D kc b T S 5 (show 5 < 13 by decide) hS cr3_z) C hM (i := 192) (by omega) (e_192 b kc T S) rfl hl.1 rfl rfl (Nat.le_of_ble_eq_true rfl) dX13_readLine_165 ⟨Nat.le_of_ble_eq_true rfl, Nat.le_of_ble_eq_true rfl⟩ ⟨Nat.le_of_ble_eq_true rfl, Nat.le_of_ble_eq_true rfl⟩) hM (fun z4_z H locs bz4_z hM hS => ?_)
    refine g_if_eq (tgt := 175) hx hb bz4_z h dX13_readLine_168 (by decide) (fun h => ?_) (fun h => ?_)
    · refine lv_aload_n hx hb dX13_readLine_175 rfl (lv_at hl 1 rfl) ?_
      refine g_ldcS (tx := "put") (i := 6) C (by decide) dX13_readLine_176 ?_
      obtain ⟨r5_z, cr5_z, h⟩ := w_b1E h
      refine g_callI (J := jM b kc T) (m_runV calV_X13_is wd_1273 (g_M_is l D kc b T S 6 (show 6 < 13 by decide) hS cr5_z) C hM (i := 192) (by omega) (e_192 b kc T S) rfl hl.1 rfl rfl (Nat.le_of_ble_eq_true rfl) dX13_readLine_178 ⟨Nat.le_of_ble_eq_true rfl, Nat.le_of_ble_eq_true rfl⟩ ⟨Nat.le_of_ble_eq_true rfl, Nat.le_of_ble_eq_true rfl⟩) hM (fun z6_z H locs bz6_z hM hS => ?_)
      refine g_if_eq (tgt := 188) hx hb bz6_z h dX13_readLine_181 (by decide) (fun h => ?_) (fun h => ?_)
      · refine lv_aload_n hx hb dX13_readLine_188 rfl (lv_at hl 1 rfl) ?_
        refine g_ldcS (tx := "change") (i := 7) C (by decide) dX13_readLine_189 ?_
        obtain ⟨r7_z, cr7_z, h⟩ := w_b1E h
        refine g_callI (J := jM b kc T) (m_runV calV_X13_is wd_1273 (g_M_is l D kc b T S 7 (show 7 < 13 by decide) hS cr7_z) C hM (i := 192) (by omega) (e_192 b kc T S) rfl hl.1 rfl rfl (Nat.le_of_ble_eq_true rfl) dX13_readLine_191 ⟨Nat.le_of_ble_eq_true rfl, Nat.le_of_ble_eq_true rfl⟩ ⟨Nat.le_of_ble_eq_true rfl, Nat.le_of_ble_eq_true rfl⟩) hM (fun z8_z H locs bz8_z hM hS => ?_)
        refine g_if_eq (tgt := 201) hx hb bz8_z h dX13_readLine_194 (by decide) (fun h => ?_) (fun h => ?_)
        · refine lv_aload_n hx hb dX13_readLine_201 rfl (lv_at hl 1 rfl) ?_
          refine g_ldcS (tx := "turn") (i := 8) C (by decide) dX13_readLine_202 ?_
          obtain ⟨r9_z, cr9_z, h⟩ := w_b1E h
          refine g_callI (J := jM b kc T) (m_runV calV_X13_is wd_1273 (g_M_is l D kc b T S 8 (show 8 < 13 by decide) hS cr9_z) C hM (i := 192) (by omega) (e_192 b kc T S) rfl hl.1 rfl rfl (Nat.le_of_ble_eq_true rfl) dX13_readLine_204 ⟨Nat.le_of_ble_eq_true rfl, Nat.le_of_ble_eq_true rfl⟩ ⟨Nat.le_of_ble_eq_true rfl, Nat.le_of_ble_eq_true rfl⟩) hM (fun z10_z H locs bz10_z hM hS => ?_)
          refine g_if_eq (tgt := 214) hx hb bz10_z h dX13_readLine_207 (by decide) (fun h => ?_) (fun h => ?_)
          · refine lv_aload_n hx hb dX13_readLine_214 rfl (lv_at hl 1 rfl) ?_
            refine g_ldcS (tx := "move") (i := 9) C (by decide) dX13_readLine_215 ?_
            obtain ⟨r11_z, cr11_z, h⟩ := w_b1E h
            refine g_callI (J := jM b kc T) (m_runV calV_X13_is wd_1273 (g_M_is l D kc b T S 9 (show 9 < 13 by decide) hS cr11_z) C hM (i := 192) (by omega) (e_192 b kc T S) rfl hl.1 rfl rfl (Nat.le_of_ble_eq_true rfl) dX13_readLine_217 ⟨Nat.le_of_ble_eq_true rfl, Nat.le_of_ble_eq_true rfl⟩ ⟨Nat.le_of_ble_eq_true rfl, Nat.le_of_ble_eq_true rfl⟩) hM (fun z12_z H locs bz12_z hM hS => ?_)
            refine g_if_eq (tgt := 227) hx hb bz12_z h dX13_readLine_220 (by decide) (fun h => ?_) (fun h => ?_)
            · refine lv_aload_n hx hb dX13_readLine_227 rfl (lv_at hl 1 rfl) ?_
              refine g_ldcS (tx := "stet") (i := 10) C (by decide) dX13_readLine_228 ?_
              obtain ⟨r13_z, cr13_z, h⟩ := w_b1E h
              refine g_callI (J := jM b kc T) (m_runV calV_X13_is wd_1273 (g_M_is l D kc b T S 10 (show 10 < 13 by decide) hS cr13_z) C hM (i := 192) (by omega) (e_192 b kc T S) rfl hl.1 rfl rfl (Nat.le_of_ble_eq_true rfl) dX13_readLine_230 ⟨Nat.le_of_ble_eq_true rfl, Nat.le_of_ble_eq_true rfl⟩ ⟨Nat.le_of_ble_eq_true rfl, Nat.le_of_ble_eq_true rfl⟩) hM (fun z14_z H locs bz14_z hM hS => ?_)
              refine g_if_eq (tgt := 249) hx hb bz14_z h dX13_readLine_233 (by decide) (fun h => ?_) (fun h => ?_)
              · exact B249 S _ _ _ z2_z ((gi S 192 3) - 1) bz2_z x1 v1 hx1 hS hM (lv_sub hl [1, 2, 0] rfl) h
              · refine lv_aload_n hx hb dX13_readLine_236 rfl (lv_at hl 1 rfl) ?_
                refine m_get fl_X13_95_X13 C hM (i := 192) (by omega) (e_192 b kc T S) (v := .ref (b + 207)) rfl dX13_readLine_237 ?_
                refine lv_iload_n hx hb dX13_readLine_240 rfl (lv_at hl 2 rfl) ?_
                refine g_zald C hM (j := 207) (by omega) (jK_M b kc T (by omega)) (a_207 b kc) hS hx1 (B := 41) rfl h dX13_readLine_241 (fun z15_z bz15_z h => ?_)
                refine g_if_ne (tgt := 249) hx hb bz15_z h dX13_readLine_242 (by decide) (fun h => ?_) (fun h => ?_)
                · exact B249 S _ _ _ z2_z ((gi S 192 3) - 1) bz2_z x1 v1 hx1 hS hM (lv_sub hl [1, 2, 0] rfl) h
                · refine lv_iconst (v := 5) hx hb dX13_readLine_245 (by decide) ?_
                  refine lv_goto (tgt := 250) hx hb dX13_readLine_246 (by decide) ?_
                  exact B250 S _ _ _ z2_z ((gi S 192 3) - 1) bz2_z 5 5 (show (5 : Int32).toInt = 5 by decide) x1 v1 hx1 hS hM (lv_sub hl [1, 2, 0] rfl) h
            · refine lv_iconst (v := 4) hx hb dX13_readLine_223 (by decide) ?_
              refine lv_goto (tgt := 250) hx hb dX13_readLine_224 (by decide) ?_
              exact B250 S _ _ _ z2_z ((gi S 192 3) - 1) bz2_z 4 4 (show (4 : Int32).toInt = 4 by decide) x1 v1 hx1 hS hM (lv_sub hl [1, 2, 0] rfl) h
          · refine lv_iconst (v := 3) hx hb dX13_readLine_210 (by decide) ?_
            refine lv_goto (tgt := 250) hx hb dX13_readLine_211 (by decide) ?_
            exact B250 S _ _ _ z2_z ((gi S 192 3) - 1) bz2_z 3 3 (show (3 : Int32).toInt = 3 by decide) x1 v1 hx1 hS hM (lv_sub hl [1, 2, 0] rfl) h
        · refine lv_iconst (v := 2) hx hb dX13_readLine_197 (by decide) ?_
          refine lv_goto (tgt := 250) hx hb dX13_readLine_198 (by decide) ?_
          exact B250 S _ _ _ z2_z ((gi S 192 3) - 1) bz2_z 2 2 (show (2 : Int32).toInt = 2 by decide) x1 v1 hx1 hS hM (lv_sub hl [1, 2, 0] rfl) h
      · refine lv_iconst (v := 1) hx hb dX13_readLine_184 (by decide) ?_
        refine lv_goto (tgt := 250) hx hb dX13_readLine_185 (by decide) ?_
        exact B250 S _ _ _ z2_z ((gi S 192 3) - 1) bz2_z 1 1 (show (1 : Int32).toInt = 1 by decide) x1 v1 hx1 hS hM (lv_sub hl [1, 2, 0] rfl) h
    · refine lv_iconst (v := 0) hx hb dX13_readLine_171 (by decide) ?_
      refine lv_goto (tgt := 250) hx hb dX13_readLine_172 (by decide) ?_
      exact B250 S _ _ _ z2_z ((gi S 192 3) - 1) bz2_z 0 0 (show (0 : Int32).toInt = 0 by decide) x1 v1 hx1 hS hM (lv_sub hl [1, 2, 0] rfl) h
  have B40 : ∀ (S : SS) (H : Heap) (locs : List Loc) (ls : Array Slot) (xt0_ : Int32) (vt0_ : Int) (hxt0_ : xt0_.toInt = vt0_), rng S → mS D b s 220 (jM b kc T S) H locs → lv_has ls 4 [(0, .ref (b + 192)), (1, .int x1)] → f_M_readLine_40 v1 S vt0_ = some (vr, Sr) → W p l e (mR 7 0 0) s m args below meth c H locs 0 0 Q (F0 m 40 ls [.int xt0_]) := by
    intro S H locs ls xt0_ vt0_ hxt0_ hS hM hl h
    unfold f_M_readLine_40 at h
    refine lv_istore_n (lv' := [(2, .int xt0_), (0, .ref (b + 192)), (1, .int x1)]) hx hb dX13_readLine_40 rfl hl (by decide) rfl (fun ls hl => ?_)
    refine lv_iload_n hx hb dX13_readLine_41 rfl (lv_at hl 0 rfl) ?_
    refine lv_iconst (v := (-1)) hx hb dX13_readLine_42 (by decide) ?_
    refine g_icmp_ne (tgt := 56) hx hb hxt0_ (show ((-1) : Int32).toInt = (-1) by decide) h dX13_readLine_43 (by decide) (fun h => ?_) (fun h => ?_)
    · refine lv_iload_n hx hb dX13_readLine_56 rfl (lv_at hl 2 rfl) ?_
      refine lv_bipush (v := 40) hx hb dX13_readLine_57 (by decide) ?_
      refine g_icmp_ne (tgt := 72) hx hb hx1 (show (40 : Int32).toInt = 40 by decide) h dX13_readLine_59 (by decide) (fun h => ?_) (fun h => ?_)
      · refine lv_aload_n hx hb dX13_readLine_72 rfl (lv_at hl 1 rfl) ?_
        refine m_get fl_X13_74_X13 C hM (i := 192) (by omega) (e_192 b kc T S) (v := .ref (b + 200)) rfl dX13_readLine_73 ?_
        refine lv_iload_n hx hb dX13_readLine_76 rfl (lv_at hl 2 rfl) ?_
        refine lv_iload_n hx hb dX13_readLine_77 rfl (lv_at hl 0 rfl) ?_
        refine g_iast C hM (j := 200) (by omega) (jK_M b kc T (by omega)) (a_200 b kc) hS hx1 hxt0_ (B := 41) rfl h dX13_readLine_78 (fun S1_z H locs h hM hS => ?_)
        refine lv_aload_n hx hb dX13_readLine_79 rfl (lv_at hl 1 rfl) ?_
        refine m_get fl_X13_77_X13 C hM (i := 192) (by omega) (e_192 b kc T S1_z) (v := .ref (b + 201)) rfl dX13_readLine_80 ?_
        refine lv_iload_n hx hb dX13_readLine_83 rfl (lv_at hl 2 rfl) ?_
        refine lv_iconst (v := (-1)) hx hb dX13_readLine_84 (by decide) ?_
        refine g_iast C hM (j := 201) (by omega) (jK_M b kc T (by omega)) (a_201 b kc) hS hx1 (show ((-1) : Int32).toInt = (-1) by decide) (B := 41) rfl h dX13_readLine_85 (fun S2_z H locs h hM hS => ?_)
        refine lv_aload_n hx hb dX13_readLine_86 rfl (lv_at hl 1 rfl) ?_
        refine m_get fl_X13_80_X13 C hM (i := 192) (by omega) (e_192 b kc T S2_z) (v := .ref (b + 202)) rfl dX13_readLine_87 ?_
        refine lv_iload_n hx hb dX13_readLine_90 rfl (lv_at hl 2 rfl) ?_
        refine lv_iconst (v := (-1)) hx hb dX13_readLine_91 (by decide) ?_
        refine g_iast C hM (j := 202) (by omega) (jK_M b kc T (by omega)) (a_202 b kc) hS hx1 (show ((-1) : Int32).toInt = (-1) by decide) (B := 41) rfl h dX13_readLine_92 (fun S3_z H locs h hM hS => ?_)
        refine lv_aload_n hx hb dX13_readLine_93 rfl (lv_at hl 1 rfl) ?_
        refine m_get fl_X13_83_X13 C hM (i := 192) (by omega) (e_192 b kc T S3_z) (v := .ref (b + 203)) rfl dX13_readLine_94 ?_
        refine lv_iload_n hx hb dX13_readLine_97 rfl (lv_at hl 2 rfl) ?_
        refine lv_iconst (v := (-1)) hx hb dX13_readLine_98 (by decide) ?_
        refine g_iast C hM (j := 203) (by omega) (jK_M b kc T (by omega)) (a_203 b kc) hS hx1 (show ((-1) : Int32).toInt = (-1) by decide) (B := 41) rfl h dX13_readLine_99 (fun S4_z H locs h hM hS => ?_)
        refine lv_aload_n hx hb dX13_readLine_100 rfl (lv_at hl 1 rfl) ?_
        refine m_get fl_X13_86_X13 C hM (i := 192) (by omega) (e_192 b kc T S4_z) (v := .ref (b + 204)) rfl dX13_readLine_101 ?_
        refine lv_iload_n hx hb dX13_readLine_104 rfl (lv_at hl 2 rfl) ?_
        refine lv_iconst (v := 0) hx hb dX13_readLine_105 (by decide) ?_
        refine g_iast C hM (j := 204) (by omega) (jK_M b kc T (by omega)) (a_204 b kc) hS hx1 (show (0 : Int32).toInt = 0 by decide) (B := 41) rfl h dX13_readLine_106 (fun S5_z H locs h hM hS => ?_)
        refine lv_aload_n hx hb dX13_readLine_107 rfl (lv_at hl 1 rfl) ?_
        refine m_get fl_X13_89_X13 C hM (i := 192) (by omega) (e_192 b kc T S5_z) (v := .ref (b + 205)) rfl dX13_readLine_108 ?_
        refine lv_iload_n hx hb dX13_readLine_111 rfl (lv_at hl 2 rfl) ?_
        refine lv_iconst (v := 0) hx hb dX13_readLine_112 (by decide) ?_
        refine g_iast C hM (j := 205) (by omega) (jK_M b kc T (by omega)) (a_205 b kc) hS hx1 (show (0 : Int32).toInt = 0 by decide) (B := 41) rfl h dX13_readLine_113 (fun S6_z H locs h hM hS => ?_)
        refine lv_aload_n hx hb dX13_readLine_114 rfl (lv_at hl 1 rfl) ?_
        refine m_get fl_X13_99_X13 C hM (i := 192) (by omega) (e_192 b kc T S6_z) (v := .ref (b + 208)) rfl dX13_readLine_115 ?_
        refine lv_iload_n hx hb dX13_readLine_118 rfl (lv_at hl 2 rfl) ?_
        refine lv_iconst (v := 0) hx hb dX13_readLine_119 (by decide) ?_
        refine g_zast C hM (j := 208) (by omega) (jK_M b kc T (by omega)) (a_208 b kc) hS hx1 (show (0 : Int32).toInt = 0 by decide) (by decide) (B := 41) rfl h dX13_readLine_120 (fun S7_z H locs h hM hS => ?_)
        refine lv_aload_n hx hb dX13_readLine_121 rfl (lv_at hl 1 rfl) ?_
        obtain ⟨S8_z, cS8_z, h⟩ := w_b1E h
        refine g_callV (J := jM b kc T) (m_runV calV_X13_scan wd_1264 (g_M_scan l D kc b T S7_z hS cS8_z) C hM (i := 192) (by omega) (e_192 b kc T S7_z) rfl hl.1 rfl rfl (Nat.le_of_ble_eq_true rfl) dX13_readLine_122 ⟨Nat.le_of_ble_eq_true rfl, Nat.le_of_ble_eq_true rfl⟩ ⟨Nat.le_of_ble_eq_true rfl, Nat.le_of_ble_eq_true rfl⟩) hM (fun H locs hM hS => ?_)
        refine lv_aload_n hx hb dX13_readLine_125 rfl (lv_at hl 1 rfl) ?_
        refine m_get fl_X13_95_X13 C hM (i := 192) (by omega) (e_192 b kc T S8_z) (v := .ref (b + 207)) rfl dX13_readLine_126 ?_
        refine lv_iload_n hx hb dX13_readLine_129 rfl (lv_at hl 2 rfl) ?_
        refine lv_aload_n hx hb dX13_readLine_130 rfl (lv_at hl 1 rfl) ?_
        refine g_ldcS (tx := "?") (i := 4) C (by decide) dX13_readLine_131 ?_
        obtain ⟨r10_z, cr10_z, h⟩ := w_b1E h
        refine g_callI (J := jM b kc T) (m_runV calV_X13_is wd_1273 (g_M_is l D kc b T S8_z 4 (show 4 < 13 by decide) hS cr10_z) C hM (i := 192) (by omega) (e_192 b kc T S8_z) rfl hl.1 rfl rfl (Nat.le_of_ble_eq_true rfl) dX13_readLine_133 ⟨Nat.le_of_ble_eq_true rfl, Nat.le_of_ble_eq_true rfl⟩ ⟨Nat.le_of_ble_eq_true rfl, Nat.le_of_ble_eq_true rfl⟩) hM (fun z11_z H locs bz11_z hM hS => ?_)
        obtain ⟨c12_z, h⟩ := w_chkE h
        refine g_zast C hM (j := 207) (by omega) (jK_M b kc T (by omega)) (a_207 b kc) hS hx1 bz11_z c12_z (B := 41) rfl h dX13_readLine_136 (fun S13_z H locs h hM hS => ?_)
        refine lv_aload_n hx hb dX13_readLine_137 rfl (lv_at hl 1 rfl) ?_
        refine m_get fl_X13_95_X13 C hM (i := 192) (by omega) (e_192 b kc T S13_z) (v := .ref (b + 207)) rfl dX13_readLine_138 ?_
        refine lv_iload_n hx hb dX13_readLine_141 rfl (lv_at hl 2 rfl) ?_
        refine g_zald C hM (j := 207) (by omega) (jK_M b kc T (by omega)) (a_207 b kc) hS hx1 (B := 41) rfl h dX13_readLine_142 (fun z14_z bz14_z h => ?_)
        refine g_if_eq (tgt := 150) hx hb bz14_z h dX13_readLine_143 (by decide) (fun h => ?_) (fun h => ?_)
        · exact B150 S13_z _ _ _ hS hM (lv_sub hl [1, 2] rfl) h
        · refine lv_aload_n hx hb dX13_readLine_146 rfl (lv_at hl 1 rfl) ?_
          obtain ⟨S15_z, cS15_z, h⟩ := w_b1E h
          refine g_callV (J := jM b kc T) (m_runV calV_X13_scan wd_1264 (g_M_scan l D kc b T S13_z hS cS15_z) C hM (i := 192) (by omega) (e_192 b kc T S13_z) rfl hl.1 rfl rfl (Nat.le_of_ble_eq_true rfl) dX13_readLine_147 ⟨Nat.le_of_ble_eq_true rfl, Nat.le_of_ble_eq_true rfl⟩ ⟨Nat.le_of_ble_eq_true rfl, Nat.le_of_ble_eq_true rfl⟩) hM (fun H locs hM hS => ?_)
          exact B150 S15_z _ _ _ hS hM (lv_sub hl [1, 2] rfl) h
      · refine lv_aload_n hx hb dX13_readLine_62 rfl (lv_at hl 1 rfl) ?_
        refine lv_iconst (v := 3) hx hb dX13_readLine_63 (by decide) ?_
        refine lv_aload_n hx hb dX13_readLine_64 rfl (lv_at hl 1 rfl) ?_
        refine g_get fl_X13_159_X13 C hM (i := 192) (r := 192) (by omega) (e_192 b kc T S) rfl hS dX13_readLine_65 (fun z17_z bz17_z => ?_)
        obtain ⟨S18_z, cS18_z, h⟩ := w_ltE h
        refine g_callQ (J := jM b kc T) (m_runV calV_X13_wrong wd_1252 (g_M_wrong l D kc b T S 3 3 (show (3 : Int32).toInt = 3 by decide) z17_z (gi S 192 10) bz17_z hS cS18_z.symm) C hM (i := 192) (by omega) (e_192 b kc T S) rfl hl.1 rfl rfl (Nat.le_of_ble_eq_true rfl) dX13_readLine_68 ⟨Nat.le_of_ble_eq_true rfl, Nat.le_of_ble_eq_true rfl⟩ ⟨Nat.le_of_ble_eq_true rfl, Nat.le_of_ble_eq_true rfl⟩) hM (fun z19_z H locs bz19_z hM hS => ?_)
        subst bz19_z
        exact g_athrow C hlk hnt hM hS thr (And.intro (r_2 h) (r_1 h).symm) dX13_readLine_71
    · refine lv_aload_n hx hb dX13_readLine_46 rfl (lv_at hl 1 rfl) ?_
      refine lv_iconst (v := 1) hx hb dX13_readLine_47 (by decide) ?_
      refine lv_aload_n hx hb dX13_readLine_48 rfl (lv_at hl 1 rfl) ?_
      refine g_get fl_X13_159_X13 C hM (i := 192) (r := 192) (by omega) (e_192 b kc T S) rfl hS dX13_readLine_49 (fun z20_z bz20_z => ?_)
      obtain ⟨S21_z, cS21_z, h⟩ := w_ltE h
      refine g_callQ (J := jM b kc T) (m_runV calV_X13_wrong wd_1252 (g_M_wrong l D kc b T S 1 1 (show (1 : Int32).toInt = 1 by decide) z20_z (gi S 192 10) bz20_z hS cS21_z.symm) C hM (i := 192) (by omega) (e_192 b kc T S) rfl hl.1 rfl rfl (Nat.le_of_ble_eq_true rfl) dX13_readLine_52 ⟨Nat.le_of_ble_eq_true rfl, Nat.le_of_ble_eq_true rfl⟩ ⟨Nat.le_of_ble_eq_true rfl, Nat.le_of_ble_eq_true rfl⟩) hM (fun z22_z H locs bz22_z hM hS => ?_)
      subst bz22_z
      exact g_athrow C hlk hnt hM hS thr (And.intro (r_2 h) (r_1 h).symm) dX13_readLine_55
  refine lv_aload_n hx hb dX13_readLine_0 rfl (lv_at hl 0 rfl) ?_
  refine g_ldcS (tx := "author") (i := 1) C (by decide) dX13_readLine_1 ?_
  obtain ⟨r1_z, cr1_z, h⟩ := w_b1E h
  refine g_callI (J := jM b kc T) (m_runV calV_X13_is wd_1273 (g_M_is l D kc b T S 1 (show 1 < 13 by decide) hS cr1_z) C hM (i := 192) (by omega) (e_192 b kc T S) rfl hl.1 rfl rfl (Nat.le_of_ble_eq_true rfl) dX13_readLine_3 ⟨Nat.le_of_ble_eq_true rfl, Nat.le_of_ble_eq_true rfl⟩ ⟨Nat.le_of_ble_eq_true rfl, Nat.le_of_ble_eq_true rfl⟩) hM (fun z2_z H locs bz2_z hM hS => ?_)
  refine g_if_eq (tgt := 13) hx hb bz2_z h dX13_readLine_6 (by decide) (fun h => ?_) (fun h => ?_)
  · refine lv_aload_n hx hb dX13_readLine_13 rfl (lv_at hl 0 rfl) ?_
    refine g_ldcS (tx := "reader") (i := 2) C (by decide) dX13_readLine_14 ?_
    obtain ⟨r3_z, cr3_z, h⟩ := w_b1E h
    refine g_callI (J := jM b kc T) (m_runV calV_X13_is wd_1273 (g_M_is l D kc b T S 2 (show 2 < 13 by decide) hS cr3_z) C hM (i := 192) (by omega) (e_192 b kc T S) rfl hl.1 rfl rfl (Nat.le_of_ble_eq_true rfl) dX13_readLine_16 ⟨Nat.le_of_ble_eq_true rfl, Nat.le_of_ble_eq_true rfl⟩ ⟨Nat.le_of_ble_eq_true rfl, Nat.le_of_ble_eq_true rfl⟩) hM (fun z4_z H locs bz4_z hM hS => ?_)
    refine g_if_eq (tgt := 26) hx hb bz4_z h dX13_readLine_19 (by decide) (fun h => ?_) (fun h => ?_)
    · refine lv_aload_n hx hb dX13_readLine_26 rfl (lv_at hl 0 rfl) ?_
      refine g_ldcS (tx := "printer") (i := 3) C (by decide) dX13_readLine_27 ?_
      obtain ⟨r5_z, cr5_z, h⟩ := w_b1E h
      refine g_callI (J := jM b kc T) (m_runV calV_X13_is wd_1273 (g_M_is l D kc b T S 3 (show 3 < 13 by decide) hS cr5_z) C hM (i := 192) (by omega) (e_192 b kc T S) rfl hl.1 rfl rfl (Nat.le_of_ble_eq_true rfl) dX13_readLine_29 ⟨Nat.le_of_ble_eq_true rfl, Nat.le_of_ble_eq_true rfl⟩ ⟨Nat.le_of_ble_eq_true rfl, Nat.le_of_ble_eq_true rfl⟩) hM (fun z6_z H locs bz6_z hM hS => ?_)
      refine g_if_eq (tgt := 39) hx hb bz6_z h dX13_readLine_32 (by decide) (fun h => ?_) (fun h => ?_)
      · refine lv_iconst (v := (-1)) hx hb dX13_readLine_39 (by decide) ?_
        exact B40 S _ _ _ (-1) (-1) (show ((-1) : Int32).toInt = (-1) by decide) hS hM (lv_sub hl [0, 1] rfl) h
      · refine lv_iconst (v := 2) hx hb dX13_readLine_35 (by decide) ?_
        refine lv_goto (tgt := 40) hx hb dX13_readLine_36 (by decide) ?_
        exact B40 S _ _ _ 2 2 (show (2 : Int32).toInt = 2 by decide) hS hM (lv_sub hl [0, 1] rfl) h
    · refine lv_iconst (v := 1) hx hb dX13_readLine_22 (by decide) ?_
      refine lv_goto (tgt := 40) hx hb dX13_readLine_23 (by decide) ?_
      exact B40 S _ _ _ 1 1 (show (1 : Int32).toInt = 1 by decide) hS hM (lv_sub hl [0, 1] rfl) h
  · refine lv_iconst (v := 0) hx hb dX13_readLine_9 (by decide) ?_
    refine lv_goto (tgt := 40) hx hb dX13_readLine_10 (by decide) ?_
    exact B40 S _ _ _ 0 0 (show (0 : Int32).toInt = 0 by decide) hS hM (lv_sub hl [0, 1] rfl) h
theorem g_M_readLine (l : Launch) (D : va_G) (kc : Nat → ClassId) (b : Nat) (T S : SS) (x1 : Int32) (v1 : Int) (hx1 : x1.toInt = v1) (hS : rng S) {Sr : SS} (h : f_M_readLine S v1 = some (some (), Sr)) : cV l yX13_readLine cX13_readLine 4 7 D kc b (jM b kc T) S [.ref (b + 192), .int x1] Sr :=
  g_ofR_v (by decide) (Nat.le_of_ble_eq_true rfl) (fun p e s m args below meth c Q C hlk hnt ret thr hM ls hl => gw_M_readLine l D kc b T S x1 v1 hx1 hS h p e s m args below meth c Q C hlk hnt ret thr hM ls hl)
theorem t_M_readLine (l : Launch) (D : va_G) (kc : Nat → ClassId) (b : Nat) (T S : SS) (x1 : Int32) (v1 : Int) (hx1 : x1.toInt = v1) (hS : rng S) {Sr : SS} (h : f_M_readLine S v1 = some (none, Sr)) : cT l yX13_readLine cX13_readLine 4 none 7 D kc b (jM b kc T) S [.ref (b + 192), .int x1] Sr :=
  g_ofT (α := Unit) (by decide) (Nat.le_of_ble_eq_true rfl) (fun p e s m args below meth c Q C hlk hnt thr hM ls hl => gw_M_readLine l D kc b T S x1 v1 hx1 hS h p e s m args below meth c Q C hlk hnt (fun _ _ _ _ _ hx => nomatch hx) thr hM ls hl)

def f_M_first_19_b (kf19_ : SS → Int → Int → Option (Int × SS)) (S : SS) (v1_ : Int) (v2_ : Int) : Option (Int × SS) := (if v1_ ≤ v2_ then w_lt (si S 192 3 v1_) (fun S1_z => w_lt (si S1_z 192 27 0) (fun S2_z => some (v1_, S2_z))) else w_chk (0 ≤ v2_ ∧ v2_ < 150) (w_chk (0 ≤ v2_ ∧ v2_ < 60) (w_lt (sl S 193 (v2_).toNat (gl S 198 (v2_).toNat)) (fun S4_z => w_chk (i32 (v2_ + 1)) (kf19_ S4_z v1_ (v2_ + 1))))))
def f_M_first_19 : Nat → SS → Int → Int → Option (Int × SS)
  | 0 => fun _ _ _ => none
  | n + 1 => f_M_first_19_b (f_M_first_19 n)
def f_M_first (S : SS) : Option (Int × SS) := w_lt (f_M_begin S) (fun S1_z => w_b3 (f_M_readProof S1_z 60) (fun S5_z => some ((-1), S5_z)) (fun r3_z S4_z => f_M_first_19 FU S4_z r3_z 0))
set_option maxHeartbeats 4000000 in
set_option maxRecDepth 100000 in
theorem g_M_first (l : Launch) (D : va_G) (kc : Nat → ClassId) (b : Nat) (T S : SS) (hS : rng S) {vr : Int} {Sr : SS} (h : f_M_first S = some (vr, Sr)) : cW l yX13_first cX13_first 3 .int [(4, 11, 14, 67)] 4 D kc b (jM b kc T) S [.ref (b + 192)] vr Sr := by
  refine g_begW (by decide) (Nat.le_of_ble_eq_true rfl) ?_
  intro p e s m args below meth c Q C ht ret hM ls hl
  obtain ⟨hx, hb, hml, hown, hts, hE, hbs⟩ := id C
  have hl : lv_has ls 3 [(0, .ref (b + 192))] := hl
  unfold f_M_first at h
  have B19 : ∀ (n : Nat), ∀ (S : SS) (H : Heap) (locs : List Loc) (ls : Array Slot) (x1_ : Int32) (v1_ : Int) (hx1_ : x1_.toInt = v1_) (x2_ : Int32) (v2_ : Int) (hx2_ : x2_.toInt = v2_), rng S → mS D b s 220 (jM b kc T S) H locs → lv_has ls 3 [(0, .ref (b + 192)), (1, .int x1_), (2, .int x2_)] → f_M_first_19 n S v1_ v2_ = some (vr, Sr) → W p l e (mR 4 0 0) s m args below meth c H locs 0 0 Q (F0 m 19 ls []) := by
    intro n
    induction n with
    | zero => intro S H locs ls x1_ v1_ hx1_ x2_ v2_ hx2_ hS hM hl h; exact absurd (h : none = some _) (fun q => nomatch q)
    | succ n hkf19_ =>
      intro S H locs ls x1_ v1_ hx1_ x2_ v2_ hx2_ hS hM hl h
      have h : f_M_first_19_b (f_M_first_19 n) S v1_ v2_ = some (vr, Sr) := h
      unfold f_M_first_19_b at h
      refine lv_iload_n hx hb dX13_first_19 rfl (lv_at hl 2 rfl) ?_
      refine lv_iload_n hx hb dX13_first_20 rfl (lv_at hl 1 rfl) ?_
      refine g_icmp_ge (tgt := 42) hx hb hx2_ hx1_ h dX13_first_21 (by decide) (fun h => ?_) (fun h => ?_)
      · refine lv_aload_n hx hb dX13_first_42 rfl (lv_at hl 0 rfl) ?_
        refine lv_iload_n hx hb dX13_first_43 rfl (lv_at hl 1 rfl) ?_
        refine g_put fl_X13_150_X13 C hM (i := 192) (by omega) (e_192 b kc T S) rfl rfl (Nat.le_of_ble_eq_true rfl) (fs1 := [.ref (b + 193), .ref (b + 194), .ref (b + 195), .int x1_, .int (oi (gi S 192 4)), .int (oi (gi S 192 5)), .ref (b + 196), .ref (b + 197), .int (oi (gi S 192 8)), .int (oi (gi S 192 9)), .int (oi (gi S 192 10)), .int (oi (gi S 192 11)), .int (oi (gi S 192 12)), .int (oi (gi S 192 13)), .int (oi (gi S 192 14)), .int (oi (gi S 192 15)), .ref (b + 198), .ref (b + 199), .ref (b + 200), .ref (b + 201), .ref (b + 202), .ref (b + 203), .ref (b + 204), .ref (b + 205), .ref (b + 206), .ref (b + 207), .ref (b + 208), .int (oi (gi S 192 27)), .ref (b + 209), .ref (b + 210), .ref (b + 211), .ref (b + 212), .ref (b + 213), .ref (b + 214), .ref (b + 215), .int (oi (gi S 192 35)), .int (oi (gi S 192 36)), .int (oi (gi S 192 37)), .int (oi (gi S 192 38)), .ref (b + 216), .ref (b + 217), .ref (b + 218), .ref (b + 219)]) rfl (p_192_3 hx1_) (rng_si hS (i32_of hx1_)) h dX13_first_44 (fun S1_z H locs h hM hS => ?_)
        refine lv_aload_n hx hb dX13_first_47 rfl (lv_at hl 0 rfl) ?_
        refine lv_iconst (v := 0) hx hb dX13_first_48 (by decide) ?_
        refine g_put fl_X13_153_X13 C hM (i := 192) (by omega) (e_192 b kc T S1_z) rfl rfl (Nat.le_of_ble_eq_true rfl) (fs1 := [.ref (b + 193), .ref (b + 194), .ref (b + 195), .int (oi (gi S1_z 192 3)), .int (oi (gi S1_z 192 4)), .int (oi (gi S1_z 192 5)), .ref (b + 196), .ref (b + 197), .int (oi (gi S1_z 192 8)), .int (oi (gi S1_z 192 9)), .int (oi (gi S1_z 192 10)), .int (oi (gi S1_z 192 11)), .int (oi (gi S1_z 192 12)), .int (oi (gi S1_z 192 13)), .int (oi (gi S1_z 192 14)), .int (oi (gi S1_z 192 15)), .ref (b + 198), .ref (b + 199), .ref (b + 200), .ref (b + 201), .ref (b + 202), .ref (b + 203), .ref (b + 204), .ref (b + 205), .ref (b + 206), .ref (b + 207), .ref (b + 208), .int 0, .ref (b + 209), .ref (b + 210), .ref (b + 211), .ref (b + 212), .ref (b + 213), .ref (b + 214), .ref (b + 215), .int (oi (gi S1_z 192 35)), .int (oi (gi S1_z 192 36)), .int (oi (gi S1_z 192 37)), .int (oi (gi S1_z 192 38)), .ref (b + 216), .ref (b + 217), .ref (b + 218), .ref (b + 219)]) rfl (p_192_27 (show (0 : Int32).toInt = 0 by decide)) (rng_si hS (i32_of (show (0 : Int32).toInt = 0 by decide))) h dX13_first_49 (fun S2_z H locs h hM hS => ?_)
        refine lv_iload_n hx hb dX13_first_52 rfl (lv_at hl 1 rfl) ?_
        exact ret S2_z _ _ _ _ x1_ (hx1_.trans (r_1 h)) (r_2 h) hM hS dX13_first_53
      · refine lv_aload_n hx hb dX13_first_24 rfl (lv_at hl 0 rfl) ?_
        refine m_get fl_X13_58_X13 C hM (i := 192) (by omega) (e_192 b kc T S) (v := .ref (b + 193)) rfl dX13_first_25 ?_
        refine lv_iload_n hx hb dX13_first_28 rfl (lv_at hl 2 rfl) ?_
        refine lv_aload_n hx hb dX13_first_29 rfl (lv_at hl 0 rfl) ?_
        refine m_get fl_X13_48_X13 C hM (i := 192) (by omega) (e_192 b kc T S) (v := .ref (b + 198)) rfl dX13_first_30 ?_
        refine lv_iload_n hx hb dX13_first_33 rfl (lv_at hl 2 rfl) ?_
        refine g_lald C hM (j := 198) (by omega) (jK_M b kc T (by omega)) (a_198 b kc) hx2_ (B := 150) rfl h dX13_first_34 (fun h => ?_)
        refine g_last C hM (j := 193) (by omega) (jK_M b kc T (by omega)) (a_193 b kc) hS hx2_ (B := 60) rfl h dX13_first_35 (fun S4_z H locs h hM hS => ?_)
        refine g_iinc (y := 1) hx hb hx2_ (by decide) (by decide) h dX13_first_36 hl (k := 2) rfl (by decide) (fun z5_z ls bz5_z h hl => ?_)
        have hl : lv_has ls 3 [(2, .int z5_z), (0, .ref (b + 192)), (1, .int x1_)] := hl
        refine lv_goto (tgt := 19) hx hb dX13_first_39 (by decide) ?_
        exact hkf19_ S4_z _ _ _ x1_ v1_ hx1_ z5_z (v2_ + 1) bz5_z hS hM (lv_sub hl [1, 2, 0] rfl) h
  refine lv_aload_n hx hb dX13_first_0 rfl (lv_at hl 0 rfl) ?_
  obtain ⟨S1_z, cS1_z, h⟩ := w_ltE h
  refine g_callV (J := jM b kc T) (m_runV calV_X13_begin wd_1228 (g_M_begin l D kc b T S hS cS1_z.symm) C hM (i := 192) (by omega) (e_192 b kc T S) rfl hl.1 rfl rfl (Nat.le_of_ble_eq_true rfl) dX13_first_1 ⟨Nat.le_of_ble_eq_true rfl, Nat.le_of_ble_eq_true rfl⟩ ⟨Nat.le_of_ble_eq_true rfl, Nat.le_of_ble_eq_true rfl⟩) hM (fun H locs hM hS => ?_)
  refine lv_aload_n hx hb dX13_first_4 rfl (lv_at hl 0 rfl) ?_
  refine lv_bipush (v := 60) hx hb dX13_first_5 (by decide) ?_
  rcases w_b3E h with ⟨r3_z, S4_z, cr3_z, h⟩ | ⟨S5_z, cr3_z, h⟩
  · refine g_callI (J := jM b kc T) (m_runV calV_X13_readProof wd_1232 (g_M_readProof l D kc b T S1_z 60 60 (show (60 : Int32).toInt = 60 by decide) hS cr3_z) C hM (i := 192) (by omega) (e_192 b kc T S1_z) rfl hl.1 rfl rfl (Nat.le_of_ble_eq_true rfl) dX13_first_7 ⟨Nat.le_of_ble_eq_true rfl, Nat.le_of_ble_eq_true rfl⟩ ⟨Nat.le_of_ble_eq_true rfl, Nat.le_of_ble_eq_true rfl⟩) hM (fun z6_z H locs bz6_z hM hS => ?_)
    refine lv_istore_n (lv' := [(1, .int z6_z), (0, .ref (b + 192))]) hx hb dX13_first_10 rfl hl (by decide) rfl (fun ls hl => ?_)
    refine lv_goto (tgt := 17) hx hb dX13_first_11 (by decide) ?_
    refine lv_iconst (v := 0) hx hb dX13_first_17 (by decide) ?_
    refine lv_istore_n (lv' := [(2, .int 0), (1, .int z6_z), (0, .ref (b + 192))]) hx hb dX13_first_18 rfl hl (by decide) rfl (fun ls hl => ?_)
    exact B19 FU S4_z _ _ _ z6_z r3_z bz6_z 0 0 (show (0 : Int32).toInt = 0 by decide) hS hM (lv_sub hl [2, 1, 0] rfl) h
  · refine g_callCatch C ht (by decide) (by decide) (by decide) wd_1019 (fun S2 => e_196 b kc T S2) (m_runT calV_X13_readProof wd_1232 (t_M_readProof l D kc b T S1_z 60 60 (show (60 : Int32).toInt = 60 by decide) hS cr3_z) C hM (i := 192) (by omega) (e_192 b kc T S1_z) rfl hl.1 rfl rfl (Nat.le_of_ble_eq_true rfl) dX13_first_7 ⟨Nat.le_of_ble_eq_true rfl, Nat.le_of_ble_eq_true rfl⟩ ⟨Nat.le_of_ble_eq_true rfl, Nat.le_of_ble_eq_true rfl⟩) (fun H locs hM hS => ?_)
    refine lv_astore_n (lv' := [(2, .ref (b + 196)), (0, .ref (b + 192))]) hx hb dX13_first_14 rfl hl (by decide) rfl (fun ls hl => ?_)
    refine lv_iconst (v := (-1)) hx hb dX13_first_15 (by decide) ?_
    exact ret S5_z _ _ _ _ (-1) ((show ((-1) : Int32).toInt = (-1) by decide).trans (r_1 h)) (r_2 h) hM hS dX13_first_16

def f_M_second_20_b (kf20_ : SS → Int → Int → Option (Int × SS)) (S : SS) (v1_ : Int) (v2_ : Int) : Option (Int × SS) := (if v1_ ≤ v2_ then w_lt (si S 192 4 v1_) (fun S1_z => some (v1_, S1_z)) else w_chk (0 ≤ v2_ ∧ v2_ < 150) (w_chk (0 ≤ v2_ ∧ v2_ < 150) (w_lt (sl S 194 (v2_).toNat (gl S 198 (v2_).toNat)) (fun S3_z => w_chk (i32 (v2_ + 1)) (kf20_ S3_z v1_ (v2_ + 1))))))
def f_M_second_20 : Nat → SS → Int → Int → Option (Int × SS)
  | 0 => fun _ _ _ => none
  | n + 1 => f_M_second_20_b (f_M_second_20 n)
def f_M_second (S : SS) : Option (Int × SS) := w_lt (f_M_begin S) (fun S1_z => w_b3 (f_M_readProof S1_z 150) (fun S5_z => some ((-1), S5_z)) (fun r3_z S4_z => f_M_second_20 FU S4_z r3_z 0))
set_option maxHeartbeats 4000000 in
set_option maxRecDepth 100000 in
theorem g_M_second (l : Launch) (D : va_G) (kc : Nat → ClassId) (b : Nat) (T S : SS) (hS : rng S) {vr : Int} {Sr : SS} (h : f_M_second S = some (vr, Sr)) : cW l yX13_second cX13_second 3 .int [(4, 12, 15, 67)] 4 D kc b (jM b kc T) S [.ref (b + 192)] vr Sr := by
  refine g_begW (by decide) (Nat.le_of_ble_eq_true rfl) ?_
  intro p e s m args below meth c Q C ht ret hM ls hl
  obtain ⟨hx, hb, hml, hown, hts, hE, hbs⟩ := id C
  have hl : lv_has ls 3 [(0, .ref (b + 192))] := hl
  unfold f_M_second at h
  have B20 : ∀ (n : Nat), ∀ (S : SS) (H : Heap) (locs : List Loc) (ls : Array Slot) (x1_ : Int32) (v1_ : Int) (hx1_ : x1_.toInt = v1_) (x2_ : Int32) (v2_ : Int) (hx2_ : x2_.toInt = v2_), rng S → mS D b s 220 (jM b kc T S) H locs → lv_has ls 3 [(0, .ref (b + 192)), (1, .int x1_), (2, .int x2_)] → f_M_second_20 n S v1_ v2_ = some (vr, Sr) → W p l e (mR 4 0 0) s m args below meth c H locs 0 0 Q (F0 m 20 ls []) := by
    intro n
    induction n with
    | zero => intro S H locs ls x1_ v1_ hx1_ x2_ v2_ hx2_ hS hM hl h; exact absurd (h : none = some _) (fun q => nomatch q)
    | succ n hkf20_ =>
      intro S H locs ls x1_ v1_ hx1_ x2_ v2_ hx2_ hS hM hl h
      have h : f_M_second_20_b (f_M_second_20 n) S v1_ v2_ = some (vr, Sr) := h
      unfold f_M_second_20_b at h
      refine lv_iload_n hx hb dX13_second_20 rfl (lv_at hl 2 rfl) ?_
      refine lv_iload_n hx hb dX13_second_21 rfl (lv_at hl 1 rfl) ?_
      refine g_icmp_ge (tgt := 43) hx hb hx2_ hx1_ h dX13_second_22 (by decide) (fun h => ?_) (fun h => ?_)
      · refine lv_aload_n hx hb dX13_second_43 rfl (lv_at hl 0 rfl) ?_
        refine lv_iload_n hx hb dX13_second_44 rfl (lv_at hl 1 rfl) ?_
        refine g_put fl_X13_156_X13 C hM (i := 192) (by omega) (e_192 b kc T S) rfl rfl (Nat.le_of_ble_eq_true rfl) (fs1 := [.ref (b + 193), .ref (b + 194), .ref (b + 195), .int (oi (gi S 192 3)), .int x1_, .int (oi (gi S 192 5)), .ref (b + 196), .ref (b + 197), .int (oi (gi S 192 8)), .int (oi (gi S 192 9)), .int (oi (gi S 192 10)), .int (oi (gi S 192 11)), .int (oi (gi S 192 12)), .int (oi (gi S 192 13)), .int (oi (gi S 192 14)), .int (oi (gi S 192 15)), .ref (b + 198), .ref (b + 199), .ref (b + 200), .ref (b + 201), .ref (b + 202), .ref (b + 203), .ref (b + 204), .ref (b + 205), .ref (b + 206), .ref (b + 207), .ref (b + 208), .int (oi (gi S 192 27)), .ref (b + 209), .ref (b + 210), .ref (b + 211), .ref (b + 212), .ref (b + 213), .ref (b + 214), .ref (b + 215), .int (oi (gi S 192 35)), .int (oi (gi S 192 36)), .int (oi (gi S 192 37)), .int (oi (gi S 192 38)), .ref (b + 216), .ref (b + 217), .ref (b + 218), .ref (b + 219)]) rfl (p_192_4 hx1_) (rng_si hS (i32_of hx1_)) h dX13_second_45 (fun S1_z H locs h hM hS => ?_)
        refine lv_iload_n hx hb dX13_second_48 rfl (lv_at hl 1 rfl) ?_
        exact ret S1_z _ _ _ _ x1_ (hx1_.trans (r_1 h)) (r_2 h) hM hS dX13_second_49
      · refine lv_aload_n hx hb dX13_second_25 rfl (lv_at hl 0 rfl) ?_
        refine m_get fl_X13_61_X13 C hM (i := 192) (by omega) (e_192 b kc T S) (v := .ref (b + 194)) rfl dX13_second_26 ?_
        refine lv_iload_n hx hb dX13_second_29 rfl (lv_at hl 2 rfl) ?_
        refine lv_aload_n hx hb dX13_second_30 rfl (lv_at hl 0 rfl) ?_
        refine m_get fl_X13_48_X13 C hM (i := 192) (by omega) (e_192 b kc T S) (v := .ref (b + 198)) rfl dX13_second_31 ?_
        refine lv_iload_n hx hb dX13_second_34 rfl (lv_at hl 2 rfl) ?_
        refine g_lald C hM (j := 198) (by omega) (jK_M b kc T (by omega)) (a_198 b kc) hx2_ (B := 150) rfl h dX13_second_35 (fun h => ?_)
        refine g_last C hM (j := 194) (by omega) (jK_M b kc T (by omega)) (a_194 b kc) hS hx2_ (B := 150) rfl h dX13_second_36 (fun S3_z H locs h hM hS => ?_)
        refine g_iinc (y := 1) hx hb hx2_ (by decide) (by decide) h dX13_second_37 hl (k := 2) rfl (by decide) (fun z4_z ls bz4_z h hl => ?_)
        have hl : lv_has ls 3 [(2, .int z4_z), (0, .ref (b + 192)), (1, .int x1_)] := hl
        refine lv_goto (tgt := 20) hx hb dX13_second_40 (by decide) ?_
        exact hkf20_ S3_z _ _ _ x1_ v1_ hx1_ z4_z (v2_ + 1) bz4_z hS hM (lv_sub hl [1, 2, 0] rfl) h
  refine lv_aload_n hx hb dX13_second_0 rfl (lv_at hl 0 rfl) ?_
  obtain ⟨S1_z, cS1_z, h⟩ := w_ltE h
  refine g_callV (J := jM b kc T) (m_runV calV_X13_begin wd_1228 (g_M_begin l D kc b T S hS cS1_z.symm) C hM (i := 192) (by omega) (e_192 b kc T S) rfl hl.1 rfl rfl (Nat.le_of_ble_eq_true rfl) dX13_second_1 ⟨Nat.le_of_ble_eq_true rfl, Nat.le_of_ble_eq_true rfl⟩ ⟨Nat.le_of_ble_eq_true rfl, Nat.le_of_ble_eq_true rfl⟩) hM (fun H locs hM hS => ?_)
  refine lv_aload_n hx hb dX13_second_4 rfl (lv_at hl 0 rfl) ?_
  refine lv_sipush (v := 150) hx hb dX13_second_5 (by decide) ?_
  rcases w_b3E h with ⟨r3_z, S4_z, cr3_z, h⟩ | ⟨S5_z, cr3_z, h⟩
  · refine g_callI (J := jM b kc T) (m_runV calV_X13_readProof wd_1232 (g_M_readProof l D kc b T S1_z 150 150 (show (150 : Int32).toInt = 150 by decide) hS cr3_z) C hM (i := 192) (by omega) (e_192 b kc T S1_z) rfl hl.1 rfl rfl (Nat.le_of_ble_eq_true rfl) dX13_second_8 ⟨Nat.le_of_ble_eq_true rfl, Nat.le_of_ble_eq_true rfl⟩ ⟨Nat.le_of_ble_eq_true rfl, Nat.le_of_ble_eq_true rfl⟩) hM (fun z6_z H locs bz6_z hM hS => ?_)
    refine lv_istore_n (lv' := [(1, .int z6_z), (0, .ref (b + 192))]) hx hb dX13_second_11 rfl hl (by decide) rfl (fun ls hl => ?_)
    refine lv_goto (tgt := 18) hx hb dX13_second_12 (by decide) ?_
    refine lv_iconst (v := 0) hx hb dX13_second_18 (by decide) ?_
    refine lv_istore_n (lv' := [(2, .int 0), (1, .int z6_z), (0, .ref (b + 192))]) hx hb dX13_second_19 rfl hl (by decide) rfl (fun ls hl => ?_)
    exact B20 FU S4_z _ _ _ z6_z r3_z bz6_z 0 0 (show (0 : Int32).toInt = 0 by decide) hS hM (lv_sub hl [2, 1, 0] rfl) h
  · refine g_callCatch C ht (by decide) (by decide) (by decide) wd_1019 (fun S2 => e_196 b kc T S2) (m_runT calV_X13_readProof wd_1232 (t_M_readProof l D kc b T S1_z 150 150 (show (150 : Int32).toInt = 150 by decide) hS cr3_z) C hM (i := 192) (by omega) (e_192 b kc T S1_z) rfl hl.1 rfl rfl (Nat.le_of_ble_eq_true rfl) dX13_second_8 ⟨Nat.le_of_ble_eq_true rfl, Nat.le_of_ble_eq_true rfl⟩ ⟨Nat.le_of_ble_eq_true rfl, Nat.le_of_ble_eq_true rfl⟩) (fun H locs hM hS => ?_)
    refine lv_astore_n (lv' := [(2, .ref (b + 196)), (0, .ref (b + 192))]) hx hb dX13_second_15 rfl hl (by decide) rfl (fun ls hl => ?_)
    refine lv_iconst (v := (-1)) hx hb dX13_second_16 (by decide) ?_
    exact ret S5_z _ _ _ _ (-1) ((show ((-1) : Int32).toInt = (-1) by decide).trans (r_1 h)) (r_2 h) hM hS dX13_second_17

def f_M_marks_13_b (kf13_ : SS → Int → Option (Int × SS)) (S : SS) (v1_ : Int) : Option (Int × SS) := (if gi S 192 12 = 0 then w_chk (i32 (v1_ - (gi S 192 27))) (w_lt (si S 192 27 v1_) (fun S4_z => some (v1_ - (gi S 192 27), S4_z))) else w_b3 (f_M_readLine S v1_) (fun S7_z => some ((-1), S7_z)) (fun _ S6_z => w_chk (i32 (v1_ + 1)) (kf13_ S6_z (v1_ + 1))))
def f_M_marks_13 : Nat → SS → Int → Option (Int × SS)
  | 0 => fun _ _ => none
  | n + 1 => f_M_marks_13_b (f_M_marks_13 n)
def f_M_marks (S : SS) : Option (Int × SS) := w_lt (f_M_begin S) (fun S1_z => w_b1 (f_M_scan S1_z) (fun S4_z => f_M_marks_13 FU S4_z (gi S1_z 192 27)))
set_option maxHeartbeats 4000000 in
set_option maxRecDepth 100000 in
theorem g_M_marks (l : Launch) (D : va_G) (kc : Nat → ClassId) (b : Nat) (T S : SS) (hS : rng S) {vr : Int} {Sr : SS} (h : f_M_marks S = some (vr, Sr)) : cW l yX13_marks cX13_marks 3 .int [(9, 31, 34, 67)] 8 D kc b (jM b kc T) S [.ref (b + 192)] vr Sr := by
  refine g_begW (by decide) (Nat.le_of_ble_eq_true rfl) ?_
  intro p e s m args below meth c Q C ht ret hM ls hl
  obtain ⟨hx, hb, hml, hown, hts, hE, hbs⟩ := id C
  have hl : lv_has ls 3 [(0, .ref (b + 192))] := hl
  unfold f_M_marks at h
  have B13 : ∀ (n : Nat), ∀ (S : SS) (H : Heap) (locs : List Loc) (ls : Array Slot) (x1_ : Int32) (v1_ : Int) (hx1_ : x1_.toInt = v1_), rng S → mS D b s 220 (jM b kc T S) H locs → lv_has ls 3 [(0, .ref (b + 192)), (1, .int x1_)] → f_M_marks_13 n S v1_ = some (vr, Sr) → W p l e (mR 8 0 0) s m args below meth c H locs 0 0 Q (F0 m 13 ls []) := by
    intro n
    induction n with
    | zero => intro S H locs ls x1_ v1_ hx1_ hS hM hl h; exact absurd (h : none = some _) (fun q => nomatch q)
    | succ n hkf13_ =>
      intro S H locs ls x1_ v1_ hx1_ hS hM hl h
      have h : f_M_marks_13_b (f_M_marks_13 n) S v1_ = some (vr, Sr) := h
      unfold f_M_marks_13_b at h
      refine lv_aload_n hx hb dX13_marks_13 rfl (lv_at hl 0 rfl) ?_
      refine g_get fl_X13_162_X13 C hM (i := 192) (r := 192) (by omega) (e_192 b kc T S) rfl hS dX13_marks_14 (fun z1_z bz1_z => ?_)
      refine g_if_eq (tgt := 31) hx hb bz1_z h dX13_marks_17 (by decide) (fun h => ?_) (fun h => ?_)
      · refine lv_goto (tgt := 37) hx hb dX13_marks_31 (by decide) ?_
        refine lv_iload_n hx hb dX13_marks_37 rfl (lv_at hl 1 rfl) ?_
        refine lv_aload_n hx hb dX13_marks_38 rfl (lv_at hl 0 rfl) ?_
        refine g_get fl_X13_153_X13 C hM (i := 192) (r := 192) (by omega) (e_192 b kc T S) rfl hS dX13_marks_39 (fun z2_z bz2_z => ?_)
        refine g_isub hx hb hx1_ bz2_z h dX13_marks_42 (fun z3_z bz3_z h => ?_)
        refine lv_istore_n (lv' := [(2, .int z3_z), (0, .ref (b + 192)), (1, .int x1_)]) hx hb dX13_marks_43 rfl hl (by decide) rfl (fun ls hl => ?_)
        refine lv_aload_n hx hb dX13_marks_44 rfl (lv_at hl 1 rfl) ?_
        refine lv_iload_n hx hb dX13_marks_45 rfl (lv_at hl 2 rfl) ?_
        refine g_put fl_X13_153_X13 C hM (i := 192) (by omega) (e_192 b kc T S) rfl rfl (Nat.le_of_ble_eq_true rfl) (fs1 := [.ref (b + 193), .ref (b + 194), .ref (b + 195), .int (oi (gi S 192 3)), .int (oi (gi S 192 4)), .int (oi (gi S 192 5)), .ref (b + 196), .ref (b + 197), .int (oi (gi S 192 8)), .int (oi (gi S 192 9)), .int (oi (gi S 192 10)), .int (oi (gi S 192 11)), .int (oi (gi S 192 12)), .int (oi (gi S 192 13)), .int (oi (gi S 192 14)), .int (oi (gi S 192 15)), .ref (b + 198), .ref (b + 199), .ref (b + 200), .ref (b + 201), .ref (b + 202), .ref (b + 203), .ref (b + 204), .ref (b + 205), .ref (b + 206), .ref (b + 207), .ref (b + 208), .int x1_, .ref (b + 209), .ref (b + 210), .ref (b + 211), .ref (b + 212), .ref (b + 213), .ref (b + 214), .ref (b + 215), .int (oi (gi S 192 35)), .int (oi (gi S 192 36)), .int (oi (gi S 192 37)), .int (oi (gi S 192 38)), .ref (b + 216), .ref (b + 217), .ref (b + 218), .ref (b + 219)]) rfl (p_192_27 hx1_) (rng_si hS (i32_of hx1_)) h dX13_marks_46 (fun S4_z H locs h hM hS => ?_)
        refine lv_iload_n hx hb dX13_marks_49 rfl (lv_at hl 0 rfl) ?_
        exact ret S4_z _ _ _ _ z3_z (bz3_z.trans (r_1 h)) (r_2 h) hM hS dX13_marks_50
      · refine lv_aload_n hx hb dX13_marks_20 rfl (lv_at hl 0 rfl) ?_
        refine lv_iload_n hx hb dX13_marks_21 rfl (lv_at hl 1 rfl) ?_
        rcases w_b3E h with ⟨r5_z, S6_z, cr5_z, h⟩ | ⟨S7_z, cr5_z, h⟩
        · refine g_callV (J := jM b kc T) (m_runV calV_X13_readLine wd_1268 (g_M_readLine l D kc b T S x1_ v1_ hx1_ hS cr5_z) C hM (i := 192) (by omega) (e_192 b kc T S) rfl hl.1 rfl rfl (Nat.le_of_ble_eq_true rfl) dX13_marks_22 ⟨Nat.le_of_ble_eq_true rfl, Nat.le_of_ble_eq_true rfl⟩ ⟨Nat.le_of_ble_eq_true rfl, Nat.le_of_ble_eq_true rfl⟩) hM (fun H locs hM hS => ?_)
          refine g_iinc (y := 1) hx hb hx1_ (by decide) (by decide) h dX13_marks_25 hl (k := 1) rfl (by decide) (fun z9_z ls bz9_z h hl => ?_)
          have hl : lv_has ls 3 [(1, .int z9_z), (0, .ref (b + 192))] := hl
          refine lv_goto (tgt := 13) hx hb dX13_marks_28 (by decide) ?_
          exact hkf13_ S6_z _ _ _ z9_z (v1_ + 1) bz9_z hS hM (lv_sub hl [1, 0] rfl) h
        · refine g_callCatch C ht (by decide) (by decide) (by decide) wd_1019 (fun S2 => e_196 b kc T S2) (m_runT calV_X13_readLine wd_1268 (t_M_readLine l D kc b T S x1_ v1_ hx1_ hS cr5_z) C hM (i := 192) (by omega) (e_192 b kc T S) rfl hl.1 rfl rfl (Nat.le_of_ble_eq_true rfl) dX13_marks_22 ⟨Nat.le_of_ble_eq_true rfl, Nat.le_of_ble_eq_true rfl⟩ ⟨Nat.le_of_ble_eq_true rfl, Nat.le_of_ble_eq_true rfl⟩) (fun H locs hM hS => ?_)
          refine lv_astore_n (lv' := [(2, .ref (b + 196)), (0, .ref (b + 192)), (1, .int x1_)]) hx hb dX13_marks_34 rfl hl (by decide) rfl (fun ls hl => ?_)
          refine lv_iconst (v := (-1)) hx hb dX13_marks_35 (by decide) ?_
          exact ret S7_z _ _ _ _ (-1) ((show ((-1) : Int32).toInt = (-1) by decide).trans (r_1 h)) (r_2 h) hM hS dX13_marks_36
  refine lv_aload_n hx hb dX13_marks_0 rfl (lv_at hl 0 rfl) ?_
  obtain ⟨S1_z, cS1_z, h⟩ := w_ltE h
  refine g_callV (J := jM b kc T) (m_runV calV_X13_begin wd_1228 (g_M_begin l D kc b T S hS cS1_z.symm) C hM (i := 192) (by omega) (e_192 b kc T S) rfl hl.1 rfl rfl (Nat.le_of_ble_eq_true rfl) dX13_marks_1 ⟨Nat.le_of_ble_eq_true rfl, Nat.le_of_ble_eq_true rfl⟩ ⟨Nat.le_of_ble_eq_true rfl, Nat.le_of_ble_eq_true rfl⟩) hM (fun H locs hM hS => ?_)
  refine lv_aload_n hx hb dX13_marks_4 rfl (lv_at hl 0 rfl) ?_
  refine g_get fl_X13_153_X13 C hM (i := 192) (r := 192) (by omega) (e_192 b kc T S1_z) rfl hS dX13_marks_5 (fun z3_z bz3_z => ?_)
  refine lv_istore_n (lv' := [(1, .int z3_z), (0, .ref (b + 192))]) hx hb dX13_marks_8 rfl hl (by decide) rfl (fun ls hl => ?_)
  refine lv_aload_n hx hb dX13_marks_9 rfl (lv_at hl 1 rfl) ?_
  obtain ⟨S4_z, cS4_z, h⟩ := w_b1E h
  refine g_callV (J := jM b kc T) (m_runV calV_X13_scan wd_1264 (g_M_scan l D kc b T S1_z hS cS4_z) C hM (i := 192) (by omega) (e_192 b kc T S1_z) rfl hl.1 rfl rfl (Nat.le_of_ble_eq_true rfl) dX13_marks_10 ⟨Nat.le_of_ble_eq_true rfl, Nat.le_of_ble_eq_true rfl⟩ ⟨Nat.le_of_ble_eq_true rfl, Nat.le_of_ble_eq_true rfl⟩) hM (fun H locs hM hS => ?_)
  exact B13 FU S4_z _ _ _ z3_z (gi S1_z 192 27) bz3_z hS hM (lv_sub hl [1, 0] rfl) h
