def isSheet (b : Nat) (kc : Nat → ClassId) (i a N : Nat) : Prop := (∀ f, XS b kc f → okSheet b a N (f i)) ∧ (∀ f, XS b kc f → okLongs kc N (f a)) ∧ (∀ x, okSheet b a N x → okX b kc i x) ∧ (∀ x, okLongs kc N x → okX b kc a x) ∧ i < 192 ∧ a < 192 ∧ i ≠ a ∧ N ≤ 300
theorem isS_4 (b : Nat) (kc : Nat → ClassId) : isSheet b kc 4 5 60 := ⟨fun f h => h.a 4 (by decide), fun f h => h.a 5 (by decide), fun x h => okX_a (by decide) h, fun x h => okX_a (by decide) h, by decide, by decide, by decide, by decide⟩
theorem isS_6 (b : Nat) (kc : Nat → ClassId) : isSheet b kc 6 7 150 := ⟨fun f h => h.a 6 (by decide), fun f h => h.a 7 (by decide), fun x h => okX_a (by decide) h, fun x h => okX_a (by decide) h, by decide, by decide, by decide, by decide⟩
theorem isS_8 (b : Nat) (kc : Nat → ClassId) : isSheet b kc 8 9 300 := ⟨fun f h => h.a 8 (by decide), fun f h => h.a 9 (by decide), fun x h => okX_a (by decide) h, fun x h => okX_a (by decide) h, by decide, by decide, by decide, by decide⟩
theorem isS_175 (b : Nat) (kc : Nat → ClassId) : isSheet b kc 175 176 150 := ⟨fun f h => h.b 175 (by decide) (by decide), fun f h => h.b 176 (by decide) (by decide), fun x h => okX_b (by decide) h, fun x h => okX_b (by decide) h, by decide, by decide, by decide, by decide⟩
theorem isS_184 (b : Nat) (kc : Nat → ClassId) : isSheet b kc 184 185 108 := ⟨fun f h => h.b 184 (by decide) (by decide), fun f h => h.b 185 (by decide) (by decide), fun x h => okX_b (by decide) h, fun x h => okX_b (by decide) h, by decide, by decide, by decide, by decide⟩
theorem isS_m (b : Nat) (kc : Nat → ClassId) {j : Nat} (hj : j < 40) : isSheet b kc (14 + 4 * j + 2) (14 + 4 * j + 3) 6 := ⟨fun f h => h.m hj 2 (by decide), fun f h => h.m hj 3 (by decide), fun x h => (okX_m hj (by decide)).mpr h, fun x h => (okX_m hj (by decide)).mpr h, by omega, by omega, by omega, by decide⟩
set_option maxHeartbeats 4000000 in
set_option maxRecDepth 100000 in
theorem s_Fault_clear (l : Launch) (D : va_G) (kc : Nat → ClassId) (b : Nat) (f : Nat → va_E)  (hX0 : XS b kc f) : mMv l yX1_clear cX1_clear 1 1 0 0 D kc b 220 f [.ref (b + 3)] (fun u => XS b kc u.2 ∧ u.1 = 220 ∧ (∀ j, 192 ≤ j → u.2 j = f j) ∧ True) := by
  refine m_beg_v (by decide) (Nat.le_of_ble_eq_true rfl) ?_
  intro p e s m args below meth c Q C hnm ret hM ls hl
  obtain ⟨hx, hb, hml, hown, hts, hE, hbs⟩ := id C
  obtain ⟨L0, L1, L2, Lm⟩ := m_l01
  have hl : lv_has ls 1 [(0, .ref (b + 3))] := hl
  refine lv_aload_n hx hb dX1_clear_0 rfl (lv_at hl 0 rfl) ?_
  refine lv_iconst (v := 0) hx hb dX1_clear_1 (by decide) ?_
  obtain ⟨z2, z3, o1⟩ := hX0.a 3 (by decide)
  refine m_put fl_X1_9_X1 C hM (i := 3) (by omega) o1 rfl rfl (Nat.le_of_ble_eq_true rfl) (fs1 := [.int 0, .int z3]) rfl dX1_clear_2 (fun H locs f1 ef1 hM => ?_)
  refine lv_aload_n hx hb dX1_clear_5 rfl (lv_at hl 0 rfl) ?_
  refine lv_iconst (v := (-1)) hx hb dX1_clear_6 (by decide) ?_
  have k4 : f1 3 = .inr (1, [.int 0, .int z3]) := m_eq ef1
  refine m_put fl_X1_15_X1 C hM (i := 3) (by omega) k4 rfl rfl (Nat.le_of_ble_eq_true rfl) (fs1 := [.int 0, .int (-1)]) rfl dX1_clear_7 (fun H locs f2 ef2 hM => ?_)
  have hX1 : XS b kc f1 := hX0.set ef1 (okX_a (by decide) ⟨0, z3, rfl⟩)
  have hX2 : XS b kc f2 := hX1.set ef2 (okX_a (by decide) ⟨0, (-1), rfl⟩)
  have fr5 : ∀ j, 192 ≤ j → f1 j = f j := fun j hj => m_ne ef1 rfl (by omega)
  have fr6 : ∀ j, 192 ≤ j → f2 j = f j := fun j hj => m_ne ef2 (fr5 j hj) (by omega)
  exact ret 220 f2 _ _ _ _ hM ⟨hX2, rfl, fr6, trivial⟩ dX1_clear_10
set_option maxHeartbeats 4000000 in
set_option maxRecDepth 100000 in
theorem s_Fault_tellOf (l : Launch) (D : va_G) (kc : Nat → ClassId) (b : Nat) (f : Nat → va_E) (a1 a2 : Int32) (hX0 : XS b kc f) : mMi l yX1_tellOf cX1_tellOf 3 .boolean 1 0 0 D kc b 220 f [.ref (b + 3), .int a1, .int a2] (fun r u => XS b kc u.2 ∧ u.1 = 220 ∧ (∀ j, 192 ≤ j → u.2 j = f j) ∧ r = 0) := by
  refine m_beg_z (by decide) (Nat.le_of_ble_eq_true rfl) ?_
  intro p e s m args below meth c Q C hnm ret hM ls hl
  obtain ⟨hx, hb, hml, hown, hts, hE, hbs⟩ := id C
  obtain ⟨L0, L1, L2, Lm⟩ := m_l01
  have hl : lv_has ls 3 [(0, .ref (b + 3)), (1, .int a1), (2, .int a2)] := hl
  refine lv_aload_n hx hb dX1_tellOf_0 rfl (lv_at hl 0 rfl) ?_
  refine lv_iload_n hx hb dX1_tellOf_1 rfl (lv_at hl 1 rfl) ?_
  obtain ⟨z2, z3, o1⟩ := hX0.a 3 (by decide)
  refine m_put fl_X1_9_X1 C hM (i := 3) (by omega) o1 rfl rfl (Nat.le_of_ble_eq_true rfl) (fs1 := [.int a1, .int z3]) rfl dX1_tellOf_2 (fun H locs f1 ef1 hM => ?_)
  refine lv_aload_n hx hb dX1_tellOf_5 rfl (lv_at hl 0 rfl) ?_
  refine lv_iload_n hx hb dX1_tellOf_6 rfl (lv_at hl 2 rfl) ?_
  have k4 : f1 3 = .inr (1, [.int a1, .int z3]) := m_eq ef1
  refine m_put fl_X1_15_X1 C hM (i := 3) (by omega) k4 rfl rfl (Nat.le_of_ble_eq_true rfl) (fs1 := [.int a1, .int a2]) rfl dX1_tellOf_7 (fun H locs f2 ef2 hM => ?_)
  refine lv_iconst (v := 0) hx hb dX1_tellOf_10 (by decide) ?_
  have hX1 : XS b kc f1 := hX0.set ef1 (okX_a (by decide) ⟨a1, z3, rfl⟩)
  have hX2 : XS b kc f2 := hX1.set ef2 (okX_a (by decide) ⟨a1, a2, rfl⟩)
  have fr5 : ∀ j, 192 ≤ j → f1 j = f j := fun j hj => m_ne ef1 rfl (by omega)
  have fr6 : ∀ j, 192 ≤ j → f2 j = f j := fun j hj => m_ne ef2 (fr5 j hj) (by omega)
  exact ret 220 f2 _ _ _ _ 0 hM ⟨hX2, rfl, fr6, rfl⟩ (by first | rfl | decide) dX1_tellOf_11
set_option maxHeartbeats 4000000 in
set_option maxRecDepth 100000 in
theorem s_Tape_byteAt (l : Launch) (D : va_G) (kc : Nat → ClassId) (b : Nat) (f : Nat → va_E) (a1 : Int32) (hX0 : XS b kc f) : mMi l yX10_byteAt cX10_byteAt 2 .int 1 0 0 D kc b 220 f [.ref (b + 1), .int a1] (fun r u => XS b kc u.2 ∧ u.1 = 220 ∧ (∀ j, 192 ≤ j → u.2 j = f j) ∧ (-1 ≤ r.toInt ∧ r.toInt ≤ 255)) := by
  refine m_beg_i (by decide) (Nat.le_of_ble_eq_true rfl) ?_
  intro p e s m args below meth c Q C hnm ret hM ls hl
  obtain ⟨hx, hb, hml, hown, hts, hE, hbs⟩ := id C
  obtain ⟨L0, L1, L2, Lm⟩ := m_l01
  have hl : lv_has ls 2 [(0, .ref (b + 1)), (1, .int a1)] := hl
  refine lv_iload_n hx hb dX10_byteAt_0 rfl (lv_at hl 1 rfl) ?_
  refine t_if_lt (tgt := 21) (a := a1.toInt) hx hb rfl dX10_byteAt_1 (by decide) (fun c1 => ?_) (fun c1 => ?_)
  · refine lv_iconst (v := (-1)) hx hb dX10_byteAt_21 (by decide) ?_
    refine lv_goto (tgt := 35) hx hb dX10_byteAt_22 (by decide) ?_
    exact ret 220 f _ _ _ _ (-1) hM ⟨hX0, rfl, (fun _ _ => rfl), (by first | omega | decide)⟩ dX10_byteAt_35
  · refine lv_iload_n hx hb dX10_byteAt_4 rfl (lv_at hl 1 rfl) ?_
    refine lv_aload_n hx hb dX10_byteAt_5 rfl (lv_at hl 0 rfl) ?_
    obtain ⟨z3, b4, o2⟩ := hX0.a 1 (by decide)
    refine m_get fl_X10_15_X10 C hM (i := 1) (by omega) o2 (v := .int z3) rfl dX10_byteAt_6 ?_
    refine t_icmp_ge (tgt := 21) (a := a1.toInt) (d := z3.toInt) hx hb rfl rfl dX10_byteAt_9 (by decide) (fun c5 => ?_) (fun c5 => ?_)
    · refine lv_iconst (v := (-1)) hx hb dX10_byteAt_21 (by decide) ?_
      refine lv_goto (tgt := 35) hx hb dX10_byteAt_22 (by decide) ?_
      exact ret 220 f _ _ _ _ (-1) hM ⟨hX0, rfl, (fun _ _ => rfl), (by first | omega | decide)⟩ dX10_byteAt_35
    · refine lv_iload_n hx hb dX10_byteAt_12 rfl (lv_at hl 1 rfl) ?_
      refine lv_aload_n hx hb dX10_byteAt_13 rfl (lv_at hl 0 rfl) ?_
      refine m_get fl_X10_9_X10 C hM (i := 1) (by omega) o2 (v := .ref (b + 2)) rfl dX10_byteAt_14 ?_
      obtain ⟨g7, o6⟩ := hX0.a 2 (by decide)
      refine m_alen C hM (j := 2) (by omega) 0 o6 rfl (v := 2000) rfl dX10_byteAt_17 ?_
      refine t_icmp_lt (tgt := 25) (a := a1.toInt) (d := 2000) hx hb rfl (by decide) dX10_byteAt_18 (by decide) (fun c8 => ?_) (fun c8 => ?_)
      · refine lv_aload_n hx hb dX10_byteAt_25 rfl (lv_at hl 0 rfl) ?_
        refine m_get fl_X10_9_X10 C hM (i := 1) (by omega) o2 (v := .ref (b + 2)) rfl dX10_byteAt_26 ?_
        refine lv_iload_n hx hb dX10_byteAt_29 rfl (lv_at hl 1 rfl) ?_
        refine m_bald C hM (j := 2) (by omega) o6 (t_in rfl (by omega) (by omega)) dX10_byteAt_30 ?_
        refine lv_sipush (v := 255) hx hb dX10_byteAt_31 (by decide) ?_
        refine lv_iand hx hb dX10_byteAt_34 ?_
        refine lv_topi (fun x9 ex9 => ?_)
        have bx9 : 0 ≤ x9.toInt ∧ x9.toInt ≤ 255 := by rw [ex9]; exact t_byte _
        exact ret 220 f _ _ _ _ x9 hM ⟨hX0, rfl, (fun _ _ => rfl), (by first | omega | decide)⟩ dX10_byteAt_35
      · refine lv_iconst (v := (-1)) hx hb dX10_byteAt_21 (by decide) ?_
        refine lv_goto (tgt := 35) hx hb dX10_byteAt_22 (by decide) ?_
        exact ret 220 f _ _ _ _ (-1) hM ⟨hX0, rfl, (fun _ _ => rfl), (by first | omega | decide)⟩ dX10_byteAt_35
set_option maxHeartbeats 4000000 in
set_option maxRecDepth 100000 in
theorem s_Tape_addFour (l : Launch) (D : va_G) (kc : Nat → ClassId) (b : Nat) (f : Nat → va_E) (a1 : Int32) (hX0 : XS b kc f) : mMv l yX10_addFour cX10_addFour 3 1 0 0 D kc b 220 f [.ref (b + 1), .int a1] (fun u => XS b kc u.2 ∧ u.1 = 220 ∧ (∀ j, 192 ≤ j → u.2 j = f j) ∧ True) := by
  refine m_beg_v (by decide) (Nat.le_of_ble_eq_true rfl) ?_
  intro p e s m args below meth c Q C hnm ret hM ls hl
  obtain ⟨hx, hb, hml, hown, hts, hE, hbs⟩ := id C
  obtain ⟨L0, L1, L2, Lm⟩ := m_l01
  have hl : lv_has ls 3 [(0, .ref (b + 1)), (1, .int a1)] := hl
  refine lv_bipush (v := 24) hx hb dX10_addFour_0 (by decide) ?_
  refine lv_istore_n (lv' := [(2, .int 24), (0, .ref (b + 1)), (1, .int a1)]) hx hb dX10_addFour_2 rfl hl (by decide) rfl (fun ls hl => ?_)
  refine lv_iload_n hx hb dX10_addFour_3 rfl (lv_at hl 0 rfl) ?_
  refine lv_if_lt (tgt := 55) hx hb dX10_addFour_4 (by decide) (fun h => absurd h (by decide)) (fun _ => ?_)
  refine lv_aload_n hx hb dX10_addFour_7 rfl (lv_at hl 1 rfl) ?_
  obtain ⟨z2, b3, o1⟩ := hX0.a 1 (by decide)
  refine m_get fl_X10_15_X10 C hM (i := 1) (by omega) o1 (v := .int z2) rfl dX10_addFour_8 ?_
  refine t_if_lt (tgt := 49) (a := z2.toInt) hx hb rfl dX10_addFour_11 (by decide) (fun c4 => ?_) (fun c4 => ?_)
  · exfalso; omega
  · refine lv_aload_n hx hb dX10_addFour_14 rfl (lv_at hl 1 rfl) ?_
    refine m_get fl_X10_15_X10 C hM (i := 1) (by omega) o1 (v := .int z2) rfl dX10_addFour_15 ?_
    refine lv_aload_n hx hb dX10_addFour_18 rfl (lv_at hl 1 rfl) ?_
    refine m_get fl_X10_9_X10 C hM (i := 1) (by omega) o1 (v := .ref (b + 2)) rfl dX10_addFour_19 ?_
    obtain ⟨g6, o5⟩ := hX0.a 2 (by decide)
    refine m_alen C hM (j := 2) (by omega) 0 o5 rfl (v := 2000) rfl dX10_addFour_22 ?_
    refine t_icmp_ge (tgt := 49) (a := z2.toInt) (d := 2000) hx hb rfl (by decide) dX10_addFour_23 (by decide) (fun c7 => ?_) (fun c7 => ?_)
    · refine lv_iinc (v := 16) (lv' := [(2, .int 16), (0, .ref (b + 1)), (1, .int a1)]) hx hb dX10_addFour_49 hl (k := 0) rfl (by decide) (by decide) rfl (fun ls hl => ?_)
      refine lv_goto (tgt := 3) hx hb dX10_addFour_52 (by decide) ?_
      refine lv_iload_n hx hb dX10_addFour_3 rfl (lv_at hl 0 rfl) ?_
      refine lv_if_lt (tgt := 55) hx hb dX10_addFour_4 (by decide) (fun h => absurd h (by decide)) (fun _ => ?_)
      refine lv_aload_n hx hb dX10_addFour_7 rfl (lv_at hl 1 rfl) ?_
      refine m_get fl_X10_15_X10 C hM (i := 1) (by omega) o1 (v := .int z2) rfl dX10_addFour_8 ?_
      refine t_if_lt (tgt := 49) (a := z2.toInt) hx hb rfl dX10_addFour_11 (by decide) (fun c8 => ?_) (fun c8 => ?_)
      · exfalso; omega
      · refine lv_aload_n hx hb dX10_addFour_14 rfl (lv_at hl 1 rfl) ?_
        refine m_get fl_X10_15_X10 C hM (i := 1) (by omega) o1 (v := .int z2) rfl dX10_addFour_15 ?_
        refine lv_aload_n hx hb dX10_addFour_18 rfl (lv_at hl 1 rfl) ?_
        refine m_get fl_X10_9_X10 C hM (i := 1) (by omega) o1 (v := .ref (b + 2)) rfl dX10_addFour_19 ?_
        refine m_alen C hM (j := 2) (by omega) 0 o5 rfl (v := 2000) rfl dX10_addFour_22 ?_
        refine t_icmp_ge (tgt := 49) (a := z2.toInt) (d := 2000) hx hb rfl (by decide) dX10_addFour_23 (by decide) (fun c9 => ?_) (fun c9 => ?_)
        · refine lv_iinc (v := 8) (lv' := [(2, .int 8), (0, .ref (b + 1)), (1, .int a1)]) hx hb dX10_addFour_49 hl (k := 0) rfl (by decide) (by decide) rfl (fun ls hl => ?_)
          refine lv_goto (tgt := 3) hx hb dX10_addFour_52 (by decide) ?_
          refine lv_iload_n hx hb dX10_addFour_3 rfl (lv_at hl 0 rfl) ?_
          refine lv_if_lt (tgt := 55) hx hb dX10_addFour_4 (by decide) (fun h => absurd h (by decide)) (fun _ => ?_)
          refine lv_aload_n hx hb dX10_addFour_7 rfl (lv_at hl 1 rfl) ?_
          refine m_get fl_X10_15_X10 C hM (i := 1) (by omega) o1 (v := .int z2) rfl dX10_addFour_8 ?_
          refine t_if_lt (tgt := 49) (a := z2.toInt) hx hb rfl dX10_addFour_11 (by decide) (fun c10 => ?_) (fun c10 => ?_)
          · exfalso; omega
          · refine lv_aload_n hx hb dX10_addFour_14 rfl (lv_at hl 1 rfl) ?_
            refine m_get fl_X10_15_X10 C hM (i := 1) (by omega) o1 (v := .int z2) rfl dX10_addFour_15 ?_
            refine lv_aload_n hx hb dX10_addFour_18 rfl (lv_at hl 1 rfl) ?_
            refine m_get fl_X10_9_X10 C hM (i := 1) (by omega) o1 (v := .ref (b + 2)) rfl dX10_addFour_19 ?_
            refine m_alen C hM (j := 2) (by omega) 0 o5 rfl (v := 2000) rfl dX10_addFour_22 ?_
            refine t_icmp_ge (tgt := 49) (a := z2.toInt) (d := 2000) hx hb rfl (by decide) dX10_addFour_23 (by decide) (fun c11 => ?_) (fun c11 => ?_)
            · refine lv_iinc (v := 0) (lv' := [(2, .int 0), (0, .ref (b + 1)), (1, .int a1)]) hx hb dX10_addFour_49 hl (k := 0) rfl (by decide) (by decide) rfl (fun ls hl => ?_)
              refine lv_goto (tgt := 3) hx hb dX10_addFour_52 (by decide) ?_
              refine lv_iload_n hx hb dX10_addFour_3 rfl (lv_at hl 0 rfl) ?_
              refine lv_if_lt (tgt := 55) hx hb dX10_addFour_4 (by decide) (fun h => absurd h (by decide)) (fun _ => ?_)
              refine lv_aload_n hx hb dX10_addFour_7 rfl (lv_at hl 1 rfl) ?_
              refine m_get fl_X10_15_X10 C hM (i := 1) (by omega) o1 (v := .int z2) rfl dX10_addFour_8 ?_
              refine t_if_lt (tgt := 49) (a := z2.toInt) hx hb rfl dX10_addFour_11 (by decide) (fun c12 => ?_) (fun c12 => ?_)
              · exfalso; omega
              · refine lv_aload_n hx hb dX10_addFour_14 rfl (lv_at hl 1 rfl) ?_
                refine m_get fl_X10_15_X10 C hM (i := 1) (by omega) o1 (v := .int z2) rfl dX10_addFour_15 ?_
                refine lv_aload_n hx hb dX10_addFour_18 rfl (lv_at hl 1 rfl) ?_
                refine m_get fl_X10_9_X10 C hM (i := 1) (by omega) o1 (v := .ref (b + 2)) rfl dX10_addFour_19 ?_
                refine m_alen C hM (j := 2) (by omega) 0 o5 rfl (v := 2000) rfl dX10_addFour_22 ?_
                refine t_icmp_ge (tgt := 49) (a := z2.toInt) (d := 2000) hx hb rfl (by decide) dX10_addFour_23 (by decide) (fun c13 => ?_) (fun c13 => ?_)
                · refine lv_iinc (v := (-8)) (lv' := [(2, .int (-8)), (0, .ref (b + 1)), (1, .int a1)]) hx hb dX10_addFour_49 hl (k := 0) rfl (by decide) (by decide) rfl (fun ls hl => ?_)
                  refine lv_goto (tgt := 3) hx hb dX10_addFour_52 (by decide) ?_
                  refine lv_iload_n hx hb dX10_addFour_3 rfl (lv_at hl 0 rfl) ?_
                  refine lv_if_lt (tgt := 55) hx hb dX10_addFour_4 (by decide) (fun _ => ?_) (fun h => absurd (by decide) h)
                  exact ret 220 f _ _ _ _ hM ⟨hX0, rfl, (fun _ _ => rfl), trivial⟩ dX10_addFour_55
                · exfalso; omega
            · exfalso; omega
        · exfalso; omega
    · refine lv_aload_n hx hb dX10_addFour_26 rfl (lv_at hl 1 rfl) ?_
      refine m_get fl_X10_9_X10 C hM (i := 1) (by omega) o1 (v := .ref (b + 2)) rfl dX10_addFour_27 ?_
      refine lv_aload_n hx hb dX10_addFour_30 rfl (lv_at hl 1 rfl) ?_
      refine m_get fl_X10_15_X10 C hM (i := 1) (by omega) o1 (v := .int z2) rfl dX10_addFour_31 ?_
      refine lv_iload_n hx hb dX10_addFour_34 rfl (lv_at hl 2 rfl) ?_
      refine lv_iload_n hx hb dX10_addFour_35 rfl (lv_at hl 0 rfl) ?_
      obtain ⟨x14, ex14⟩ : ∃ z : Int32, (a1.toUInt32 >>> ((24 : Int32).toUInt32 &&& Int32.toUInt32 31)).toInt32 = z := ⟨_, rfl⟩
      refine lv_iushr hx hb dX10_addFour_36 ex14 ?_
      refine lv_i2b hx hb dX10_addFour_37 rfl ?_
      refine lv_topi (fun x15 ex15 => ?_)
      refine m_bast C hM (j := 2) (by omega) o5 (t_in rfl (by omega) (by omega)) dX10_addFour_38 (fun H locs f1 ef1 hM => ?_)
      have ef1 : f1 = va_up f 2 (.inl (kc 0, 2000, .inl (upd g6 z2.toNatClampNeg x15.toInt8.toInt32))) := ef1
      refine lv_aload_n hx hb dX10_addFour_39 rfl (lv_at hl 1 rfl) ?_
      refine lv_dup hx hb dX10_addFour_40 rfl ?_
      have k16 : f1 1 = .inr (10, [.ref (b + 2), .int z2]) := m_ne ef1 o1 (by omega)
      refine m_get fl_X10_15_X10 C hM (i := 1) (by omega) k16 (v := .int z2) rfl dX10_addFour_41 ?_
      refine lv_iconst (v := 1) hx hb dX10_addFour_44 (by decide) ?_
      refine lv_iadd hx hb dX10_addFour_45 ?_
      refine lv_topi (fun x17 ex17 => ?_)
      have bx17 : x17.toInt = z2.toInt + 1 := by rw [ex17]; exact t_add rfl (by decide) (by have q1z2 := Int32.toInt_lt z2; have q2z2 := Int32.le_toInt z2; omega) (by have q1z2 := Int32.toInt_lt z2; have q2z2 := Int32.le_toInt z2; omega)
      refine m_put fl_X10_15_X10 C hM (i := 1) (by omega) k16 rfl rfl (Nat.le_of_ble_eq_true rfl) (fs1 := [.ref (b + 2), .int x17]) rfl dX10_addFour_46 (fun H locs f2 ef2 hM => ?_)
      refine lv_iinc (v := 16) (lv' := [(2, .int 16), (0, .ref (b + 1)), (1, .int a1)]) hx hb dX10_addFour_49 hl (k := 0) rfl (by decide) (by decide) rfl (fun ls hl => ?_)
      refine lv_goto (tgt := 3) hx hb dX10_addFour_52 (by decide) ?_
      refine lv_iload_n hx hb dX10_addFour_3 rfl (lv_at hl 0 rfl) ?_
      refine lv_if_lt (tgt := 55) hx hb dX10_addFour_4 (by decide) (fun h => absurd h (by decide)) (fun _ => ?_)
      refine lv_aload_n hx hb dX10_addFour_7 rfl (lv_at hl 1 rfl) ?_
      have k18 : f2 1 = .inr (10, [.ref (b + 2), .int x17]) := m_eq ef2
      refine m_get fl_X10_15_X10 C hM (i := 1) (by omega) k18 (v := .int x17) rfl dX10_addFour_8 ?_
      refine t_if_lt (tgt := 49) (a := x17.toInt) hx hb rfl dX10_addFour_11 (by decide) (fun c19 => ?_) (fun c19 => ?_)
      · exfalso; omega
      · refine lv_aload_n hx hb dX10_addFour_14 rfl (lv_at hl 1 rfl) ?_
        refine m_get fl_X10_15_X10 C hM (i := 1) (by omega) k18 (v := .int x17) rfl dX10_addFour_15 ?_
        refine lv_aload_n hx hb dX10_addFour_18 rfl (lv_at hl 1 rfl) ?_
        refine m_get fl_X10_9_X10 C hM (i := 1) (by omega) k18 (v := .ref (b + 2)) rfl dX10_addFour_19 ?_
        have k20 : f1 2 = .inl (kc 0, 2000, .inl (upd g6 z2.toNatClampNeg x15.toInt8.toInt32)) := m_eq ef1
        have k21 : f2 2 = .inl (kc 0, 2000, .inl (upd g6 z2.toNatClampNeg x15.toInt8.toInt32)) := m_ne ef2 k20 (by omega)
        refine m_alen C hM (j := 2) (by omega) 0 k21 rfl (v := 2000) rfl dX10_addFour_22 ?_
        refine t_icmp_ge (tgt := 49) (a := x17.toInt) (d := 2000) hx hb rfl (by decide) dX10_addFour_23 (by decide) (fun c22 => ?_) (fun c22 => ?_)
        · refine lv_iinc (v := 8) (lv' := [(2, .int 8), (0, .ref (b + 1)), (1, .int a1)]) hx hb dX10_addFour_49 hl (k := 0) rfl (by decide) (by decide) rfl (fun ls hl => ?_)
          refine lv_goto (tgt := 3) hx hb dX10_addFour_52 (by decide) ?_
          refine lv_iload_n hx hb dX10_addFour_3 rfl (lv_at hl 0 rfl) ?_
          refine lv_if_lt (tgt := 55) hx hb dX10_addFour_4 (by decide) (fun h => absurd h (by decide)) (fun _ => ?_)
          refine lv_aload_n hx hb dX10_addFour_7 rfl (lv_at hl 1 rfl) ?_
          refine m_get fl_X10_15_X10 C hM (i := 1) (by omega) k18 (v := .int x17) rfl dX10_addFour_8 ?_
          refine t_if_lt (tgt := 49) (a := x17.toInt) hx hb rfl dX10_addFour_11 (by decide) (fun c23 => ?_) (fun c23 => ?_)
          · exfalso; omega
          · refine lv_aload_n hx hb dX10_addFour_14 rfl (lv_at hl 1 rfl) ?_
            refine m_get fl_X10_15_X10 C hM (i := 1) (by omega) k18 (v := .int x17) rfl dX10_addFour_15 ?_
            refine lv_aload_n hx hb dX10_addFour_18 rfl (lv_at hl 1 rfl) ?_
            refine m_get fl_X10_9_X10 C hM (i := 1) (by omega) k18 (v := .ref (b + 2)) rfl dX10_addFour_19 ?_
            refine m_alen C hM (j := 2) (by omega) 0 k21 rfl (v := 2000) rfl dX10_addFour_22 ?_
            refine t_icmp_ge (tgt := 49) (a := x17.toInt) (d := 2000) hx hb rfl (by decide) dX10_addFour_23 (by decide) (fun c24 => ?_) (fun c24 => ?_)
            · refine lv_iinc (v := 0) (lv' := [(2, .int 0), (0, .ref (b + 1)), (1, .int a1)]) hx hb dX10_addFour_49 hl (k := 0) rfl (by decide) (by decide) rfl (fun ls hl => ?_)
              refine lv_goto (tgt := 3) hx hb dX10_addFour_52 (by decide) ?_
              refine lv_iload_n hx hb dX10_addFour_3 rfl (lv_at hl 0 rfl) ?_
              refine lv_if_lt (tgt := 55) hx hb dX10_addFour_4 (by decide) (fun h => absurd h (by decide)) (fun _ => ?_)
              refine lv_aload_n hx hb dX10_addFour_7 rfl (lv_at hl 1 rfl) ?_
              refine m_get fl_X10_15_X10 C hM (i := 1) (by omega) k18 (v := .int x17) rfl dX10_addFour_8 ?_
              refine t_if_lt (tgt := 49) (a := x17.toInt) hx hb rfl dX10_addFour_11 (by decide) (fun c25 => ?_) (fun c25 => ?_)
              · exfalso; omega
              · refine lv_aload_n hx hb dX10_addFour_14 rfl (lv_at hl 1 rfl) ?_
                refine m_get fl_X10_15_X10 C hM (i := 1) (by omega) k18 (v := .int x17) rfl dX10_addFour_15 ?_
                refine lv_aload_n hx hb dX10_addFour_18 rfl (lv_at hl 1 rfl) ?_
                refine m_get fl_X10_9_X10 C hM (i := 1) (by omega) k18 (v := .ref (b + 2)) rfl dX10_addFour_19 ?_
                refine m_alen C hM (j := 2) (by omega) 0 k21 rfl (v := 2000) rfl dX10_addFour_22 ?_
                refine t_icmp_ge (tgt := 49) (a := x17.toInt) (d := 2000) hx hb rfl (by decide) dX10_addFour_23 (by decide) (fun c26 => ?_) (fun c26 => ?_)
                · refine lv_iinc (v := (-8)) (lv' := [(2, .int (-8)), (0, .ref (b + 1)), (1, .int a1)]) hx hb dX10_addFour_49 hl (k := 0) rfl (by decide) (by decide) rfl (fun ls hl => ?_)
                  refine lv_goto (tgt := 3) hx hb dX10_addFour_52 (by decide) ?_
                  refine lv_iload_n hx hb dX10_addFour_3 rfl (lv_at hl 0 rfl) ?_
                  refine lv_if_lt (tgt := 55) hx hb dX10_addFour_4 (by decide) (fun _ => ?_) (fun h => absurd (by decide) h)
                  have hX1 : XS b kc f1 := hX0.set ef1 (okX_a (by decide) ⟨_, rfl⟩)
                  have hX2 : XS b kc f2 := hX1.set ef2 (okX_a (by decide) ⟨x17, (by first | omega | decide), rfl⟩)
                  have fr27 : ∀ j, 192 ≤ j → f1 j = f j := fun j hj => m_ne ef1 rfl (by omega)
                  have fr28 : ∀ j, 192 ≤ j → f2 j = f j := fun j hj => m_ne ef2 (fr27 j hj) (by omega)
                  exact ret 220 f2 _ _ _ _ hM ⟨hX2, rfl, fr28, trivial⟩ dX10_addFour_55
                · exfalso; omega
            · exfalso; omega
        · refine lv_aload_n hx hb dX10_addFour_26 rfl (lv_at hl 1 rfl) ?_
          refine m_get fl_X10_9_X10 C hM (i := 1) (by omega) k18 (v := .ref (b + 2)) rfl dX10_addFour_27 ?_
          refine lv_aload_n hx hb dX10_addFour_30 rfl (lv_at hl 1 rfl) ?_
          refine m_get fl_X10_15_X10 C hM (i := 1) (by omega) k18 (v := .int x17) rfl dX10_addFour_31 ?_
          refine lv_iload_n hx hb dX10_addFour_34 rfl (lv_at hl 2 rfl) ?_
          refine lv_iload_n hx hb dX10_addFour_35 rfl (lv_at hl 0 rfl) ?_
          obtain ⟨x29, ex29⟩ : ∃ z : Int32, (a1.toUInt32 >>> ((16 : Int32).toUInt32 &&& Int32.toUInt32 31)).toInt32 = z := ⟨_, rfl⟩
          refine lv_iushr hx hb dX10_addFour_36 ex29 ?_
          refine lv_i2b hx hb dX10_addFour_37 rfl ?_
          refine lv_topi (fun x30 ex30 => ?_)
          refine m_bast C hM (j := 2) (by omega) k21 (t_in rfl (by omega) (by omega)) dX10_addFour_38 (fun H locs f3 ef3 hM => ?_)
          have ef3 : f3 = va_up f2 2 (.inl (kc 0, 2000, .inl (upd (upd g6 z2.toNatClampNeg x15.toInt8.toInt32) x17.toNatClampNeg x30.toInt8.toInt32))) := ef3
          refine lv_aload_n hx hb dX10_addFour_39 rfl (lv_at hl 1 rfl) ?_
          refine lv_dup hx hb dX10_addFour_40 rfl ?_
          have k31 : f3 1 = .inr (10, [.ref (b + 2), .int x17]) := m_ne ef3 k18 (by omega)
          refine m_get fl_X10_15_X10 C hM (i := 1) (by omega) k31 (v := .int x17) rfl dX10_addFour_41 ?_
          refine lv_iconst (v := 1) hx hb dX10_addFour_44 (by decide) ?_
          refine lv_iadd hx hb dX10_addFour_45 ?_
          refine lv_topi (fun x32 ex32 => ?_)
          have bx32 : x32.toInt = x17.toInt + 1 := by rw [ex32]; exact t_add rfl (by decide) (by have q1x17 := Int32.toInt_lt x17; have q2x17 := Int32.le_toInt x17; omega) (by have q1x17 := Int32.toInt_lt x17; have q2x17 := Int32.le_toInt x17; omega)
          refine m_put fl_X10_15_X10 C hM (i := 1) (by omega) k31 rfl rfl (Nat.le_of_ble_eq_true rfl) (fs1 := [.ref (b + 2), .int x32]) rfl dX10_addFour_46 (fun H locs f4 ef4 hM => ?_)
          refine lv_iinc (v := 8) (lv' := [(2, .int 8), (0, .ref (b + 1)), (1, .int a1)]) hx hb dX10_addFour_49 hl (k := 0) rfl (by decide) (by decide) rfl (fun ls hl => ?_)
          refine lv_goto (tgt := 3) hx hb dX10_addFour_52 (by decide) ?_
          refine lv_iload_n hx hb dX10_addFour_3 rfl (lv_at hl 0 rfl) ?_
          refine lv_if_lt (tgt := 55) hx hb dX10_addFour_4 (by decide) (fun h => absurd h (by decide)) (fun _ => ?_)
          refine lv_aload_n hx hb dX10_addFour_7 rfl (lv_at hl 1 rfl) ?_
          have k33 : f4 1 = .inr (10, [.ref (b + 2), .int x32]) := m_eq ef4
          refine m_get fl_X10_15_X10 C hM (i := 1) (by omega) k33 (v := .int x32) rfl dX10_addFour_8 ?_
          refine t_if_lt (tgt := 49) (a := x32.toInt) hx hb rfl dX10_addFour_11 (by decide) (fun c34 => ?_) (fun c34 => ?_)
          · exfalso; omega
          · refine lv_aload_n hx hb dX10_addFour_14 rfl (lv_at hl 1 rfl) ?_
            refine m_get fl_X10_15_X10 C hM (i := 1) (by omega) k33 (v := .int x32) rfl dX10_addFour_15 ?_
            refine lv_aload_n hx hb dX10_addFour_18 rfl (lv_at hl 1 rfl) ?_
            refine m_get fl_X10_9_X10 C hM (i := 1) (by omega) k33 (v := .ref (b + 2)) rfl dX10_addFour_19 ?_
            have k35 : f3 2 = .inl (kc 0, 2000, .inl (upd (upd g6 z2.toNatClampNeg x15.toInt8.toInt32) x17.toNatClampNeg x30.toInt8.toInt32)) := m_eq ef3
            have k36 : f4 2 = .inl (kc 0, 2000, .inl (upd (upd g6 z2.toNatClampNeg x15.toInt8.toInt32) x17.toNatClampNeg x30.toInt8.toInt32)) := m_ne ef4 k35 (by omega)
            refine m_alen C hM (j := 2) (by omega) 0 k36 rfl (v := 2000) rfl dX10_addFour_22 ?_
            refine t_icmp_ge (tgt := 49) (a := x32.toInt) (d := 2000) hx hb rfl (by decide) dX10_addFour_23 (by decide) (fun c37 => ?_) (fun c37 => ?_)
            · refine lv_iinc (v := 0) (lv' := [(2, .int 0), (0, .ref (b + 1)), (1, .int a1)]) hx hb dX10_addFour_49 hl (k := 0) rfl (by decide) (by decide) rfl (fun ls hl => ?_)
              refine lv_goto (tgt := 3) hx hb dX10_addFour_52 (by decide) ?_
              refine lv_iload_n hx hb dX10_addFour_3 rfl (lv_at hl 0 rfl) ?_
              refine lv_if_lt (tgt := 55) hx hb dX10_addFour_4 (by decide) (fun h => absurd h (by decide)) (fun _ => ?_)
              refine lv_aload_n hx hb dX10_addFour_7 rfl (lv_at hl 1 rfl) ?_
              refine m_get fl_X10_15_X10 C hM (i := 1) (by omega) k33 (v := .int x32) rfl dX10_addFour_8 ?_
              refine t_if_lt (tgt := 49) (a := x32.toInt) hx hb rfl dX10_addFour_11 (by decide) (fun c38 => ?_) (fun c38 => ?_)
              · exfalso; omega
              · refine lv_aload_n hx hb dX10_addFour_14 rfl (lv_at hl 1 rfl) ?_
                refine m_get fl_X10_15_X10 C hM (i := 1) (by omega) k33 (v := .int x32) rfl dX10_addFour_15 ?_
                refine lv_aload_n hx hb dX10_addFour_18 rfl (lv_at hl 1 rfl) ?_
                refine m_get fl_X10_9_X10 C hM (i := 1) (by omega) k33 (v := .ref (b + 2)) rfl dX10_addFour_19 ?_
                refine m_alen C hM (j := 2) (by omega) 0 k36 rfl (v := 2000) rfl dX10_addFour_22 ?_
                refine t_icmp_ge (tgt := 49) (a := x32.toInt) (d := 2000) hx hb rfl (by decide) dX10_addFour_23 (by decide) (fun c39 => ?_) (fun c39 => ?_)
                · refine lv_iinc (v := (-8)) (lv' := [(2, .int (-8)), (0, .ref (b + 1)), (1, .int a1)]) hx hb dX10_addFour_49 hl (k := 0) rfl (by decide) (by decide) rfl (fun ls hl => ?_)
                  refine lv_goto (tgt := 3) hx hb dX10_addFour_52 (by decide) ?_
                  refine lv_iload_n hx hb dX10_addFour_3 rfl (lv_at hl 0 rfl) ?_
                  refine lv_if_lt (tgt := 55) hx hb dX10_addFour_4 (by decide) (fun _ => ?_) (fun h => absurd (by decide) h)
                  have hX1 : XS b kc f1 := hX0.set ef1 (okX_a (by decide) ⟨_, rfl⟩)
                  have hX2 : XS b kc f2 := hX1.set ef2 (okX_a (by decide) ⟨x17, (by first | omega | decide), rfl⟩)
                  have hX3 : XS b kc f3 := hX2.set ef3 (okX_a (by decide) ⟨_, rfl⟩)
                  have hX4 : XS b kc f4 := hX3.set ef4 (okX_a (by decide) ⟨x32, (by first | omega | decide), rfl⟩)
                  have fr40 : ∀ j, 192 ≤ j → f1 j = f j := fun j hj => m_ne ef1 rfl (by omega)
                  have fr41 : ∀ j, 192 ≤ j → f2 j = f j := fun j hj => m_ne ef2 (fr40 j hj) (by omega)
                  have fr42 : ∀ j, 192 ≤ j → f3 j = f j := fun j hj => m_ne ef3 (fr41 j hj) (by omega)
                  have fr43 : ∀ j, 192 ≤ j → f4 j = f j := fun j hj => m_ne ef4 (fr42 j hj) (by omega)
                  exact ret 220 f4 _ _ _ _ hM ⟨hX4, rfl, fr43, trivial⟩ dX10_addFour_55
                · exfalso; omega
            · refine lv_aload_n hx hb dX10_addFour_26 rfl (lv_at hl 1 rfl) ?_
              refine m_get fl_X10_9_X10 C hM (i := 1) (by omega) k33 (v := .ref (b + 2)) rfl dX10_addFour_27 ?_
              refine lv_aload_n hx hb dX10_addFour_30 rfl (lv_at hl 1 rfl) ?_
              refine m_get fl_X10_15_X10 C hM (i := 1) (by omega) k33 (v := .int x32) rfl dX10_addFour_31 ?_
              refine lv_iload_n hx hb dX10_addFour_34 rfl (lv_at hl 2 rfl) ?_
              refine lv_iload_n hx hb dX10_addFour_35 rfl (lv_at hl 0 rfl) ?_
              obtain ⟨x44, ex44⟩ : ∃ z : Int32, (a1.toUInt32 >>> ((8 : Int32).toUInt32 &&& Int32.toUInt32 31)).toInt32 = z := ⟨_, rfl⟩
              refine lv_iushr hx hb dX10_addFour_36 ex44 ?_
              refine lv_i2b hx hb dX10_addFour_37 rfl ?_
              refine lv_topi (fun x45 ex45 => ?_)
              refine m_bast C hM (j := 2) (by omega) k36 (t_in rfl (by omega) (by omega)) dX10_addFour_38 (fun H locs f5 ef5 hM => ?_)
              have ef5 : f5 = va_up f4 2 (.inl (kc 0, 2000, .inl (upd (upd (upd g6 z2.toNatClampNeg x15.toInt8.toInt32) x17.toNatClampNeg x30.toInt8.toInt32) x32.toNatClampNeg x45.toInt8.toInt32))) := ef5
              refine lv_aload_n hx hb dX10_addFour_39 rfl (lv_at hl 1 rfl) ?_
              refine lv_dup hx hb dX10_addFour_40 rfl ?_
              have k46 : f5 1 = .inr (10, [.ref (b + 2), .int x32]) := m_ne ef5 k33 (by omega)
              refine m_get fl_X10_15_X10 C hM (i := 1) (by omega) k46 (v := .int x32) rfl dX10_addFour_41 ?_
              refine lv_iconst (v := 1) hx hb dX10_addFour_44 (by decide) ?_
              refine lv_iadd hx hb dX10_addFour_45 ?_
              refine lv_topi (fun x47 ex47 => ?_)
              have bx47 : x47.toInt = x32.toInt + 1 := by rw [ex47]; exact t_add rfl (by decide) (by have q1x32 := Int32.toInt_lt x32; have q2x32 := Int32.le_toInt x32; omega) (by have q1x32 := Int32.toInt_lt x32; have q2x32 := Int32.le_toInt x32; omega)
              refine m_put fl_X10_15_X10 C hM (i := 1) (by omega) k46 rfl rfl (Nat.le_of_ble_eq_true rfl) (fs1 := [.ref (b + 2), .int x47]) rfl dX10_addFour_46 (fun H locs f6 ef6 hM => ?_)
              refine lv_iinc (v := 0) (lv' := [(2, .int 0), (0, .ref (b + 1)), (1, .int a1)]) hx hb dX10_addFour_49 hl (k := 0) rfl (by decide) (by decide) rfl (fun ls hl => ?_)
              refine lv_goto (tgt := 3) hx hb dX10_addFour_52 (by decide) ?_
              refine lv_iload_n hx hb dX10_addFour_3 rfl (lv_at hl 0 rfl) ?_
              refine lv_if_lt (tgt := 55) hx hb dX10_addFour_4 (by decide) (fun h => absurd h (by decide)) (fun _ => ?_)
              refine lv_aload_n hx hb dX10_addFour_7 rfl (lv_at hl 1 rfl) ?_
              have k48 : f6 1 = .inr (10, [.ref (b + 2), .int x47]) := m_eq ef6
              refine m_get fl_X10_15_X10 C hM (i := 1) (by omega) k48 (v := .int x47) rfl dX10_addFour_8 ?_
              refine t_if_lt (tgt := 49) (a := x47.toInt) hx hb rfl dX10_addFour_11 (by decide) (fun c49 => ?_) (fun c49 => ?_)
              · exfalso; omega
              · refine lv_aload_n hx hb dX10_addFour_14 rfl (lv_at hl 1 rfl) ?_
                refine m_get fl_X10_15_X10 C hM (i := 1) (by omega) k48 (v := .int x47) rfl dX10_addFour_15 ?_
                refine lv_aload_n hx hb dX10_addFour_18 rfl (lv_at hl 1 rfl) ?_
                refine m_get fl_X10_9_X10 C hM (i := 1) (by omega) k48 (v := .ref (b + 2)) rfl dX10_addFour_19 ?_
                have k50 : f5 2 = .inl (kc 0, 2000, .inl (upd (upd (upd g6 z2.toNatClampNeg x15.toInt8.toInt32) x17.toNatClampNeg x30.toInt8.toInt32) x32.toNatClampNeg x45.toInt8.toInt32)) := m_eq ef5
                have k51 : f6 2 = .inl (kc 0, 2000, .inl (upd (upd (upd g6 z2.toNatClampNeg x15.toInt8.toInt32) x17.toNatClampNeg x30.toInt8.toInt32) x32.toNatClampNeg x45.toInt8.toInt32)) := m_ne ef6 k50 (by omega)
                refine m_alen C hM (j := 2) (by omega) 0 k51 rfl (v := 2000) rfl dX10_addFour_22 ?_
                refine t_icmp_ge (tgt := 49) (a := x47.toInt) (d := 2000) hx hb rfl (by decide) dX10_addFour_23 (by decide) (fun c52 => ?_) (fun c52 => ?_)
                · refine lv_iinc (v := (-8)) (lv' := [(2, .int (-8)), (0, .ref (b + 1)), (1, .int a1)]) hx hb dX10_addFour_49 hl (k := 0) rfl (by decide) (by decide) rfl (fun ls hl => ?_)
                  refine lv_goto (tgt := 3) hx hb dX10_addFour_52 (by decide) ?_
                  refine lv_iload_n hx hb dX10_addFour_3 rfl (lv_at hl 0 rfl) ?_
                  refine lv_if_lt (tgt := 55) hx hb dX10_addFour_4 (by decide) (fun _ => ?_) (fun h => absurd (by decide) h)
                  have hX1 : XS b kc f1 := hX0.set ef1 (okX_a (by decide) ⟨_, rfl⟩)
                  have hX2 : XS b kc f2 := hX1.set ef2 (okX_a (by decide) ⟨x17, (by first | omega | decide), rfl⟩)
                  have hX3 : XS b kc f3 := hX2.set ef3 (okX_a (by decide) ⟨_, rfl⟩)
                  have hX4 : XS b kc f4 := hX3.set ef4 (okX_a (by decide) ⟨x32, (by first | omega | decide), rfl⟩)
                  have hX5 : XS b kc f5 := hX4.set ef5 (okX_a (by decide) ⟨_, rfl⟩)
                  have hX6 : XS b kc f6 := hX5.set ef6 (okX_a (by decide) ⟨x47, (by first | omega | decide), rfl⟩)
                  have fr53 : ∀ j, 192 ≤ j → f1 j = f j := fun j hj => m_ne ef1 rfl (by omega)
                  have fr54 : ∀ j, 192 ≤ j → f2 j = f j := fun j hj => m_ne ef2 (fr53 j hj) (by omega)
                  have fr55 : ∀ j, 192 ≤ j → f3 j = f j := fun j hj => m_ne ef3 (fr54 j hj) (by omega)
                  have fr56 : ∀ j, 192 ≤ j → f4 j = f j := fun j hj => m_ne ef4 (fr55 j hj) (by omega)
                  have fr57 : ∀ j, 192 ≤ j → f5 j = f j := fun j hj => m_ne ef5 (fr56 j hj) (by omega)
                  have fr58 : ∀ j, 192 ≤ j → f6 j = f j := fun j hj => m_ne ef6 (fr57 j hj) (by omega)
                  exact ret 220 f6 _ _ _ _ hM ⟨hX6, rfl, fr58, trivial⟩ dX10_addFour_55
                · refine lv_aload_n hx hb dX10_addFour_26 rfl (lv_at hl 1 rfl) ?_
                  refine m_get fl_X10_9_X10 C hM (i := 1) (by omega) k48 (v := .ref (b + 2)) rfl dX10_addFour_27 ?_
                  refine lv_aload_n hx hb dX10_addFour_30 rfl (lv_at hl 1 rfl) ?_
                  refine m_get fl_X10_15_X10 C hM (i := 1) (by omega) k48 (v := .int x47) rfl dX10_addFour_31 ?_
                  refine lv_iload_n hx hb dX10_addFour_34 rfl (lv_at hl 2 rfl) ?_
                  refine lv_iload_n hx hb dX10_addFour_35 rfl (lv_at hl 0 rfl) ?_
                  obtain ⟨x59, ex59⟩ : ∃ z : Int32, (a1.toUInt32 >>> ((0 : Int32).toUInt32 &&& Int32.toUInt32 31)).toInt32 = z := ⟨_, rfl⟩
                  refine lv_iushr hx hb dX10_addFour_36 ex59 ?_
                  refine lv_i2b hx hb dX10_addFour_37 rfl ?_
                  refine lv_topi (fun x60 ex60 => ?_)
                  refine m_bast C hM (j := 2) (by omega) k51 (t_in rfl (by omega) (by omega)) dX10_addFour_38 (fun H locs f7 ef7 hM => ?_)
                  have ef7 : f7 = va_up f6 2 (.inl (kc 0, 2000, .inl (upd (upd (upd (upd g6 z2.toNatClampNeg x15.toInt8.toInt32) x17.toNatClampNeg x30.toInt8.toInt32) x32.toNatClampNeg x45.toInt8.toInt32) x47.toNatClampNeg x60.toInt8.toInt32))) := ef7
                  refine lv_aload_n hx hb dX10_addFour_39 rfl (lv_at hl 1 rfl) ?_
                  refine lv_dup hx hb dX10_addFour_40 rfl ?_
                  have k61 : f7 1 = .inr (10, [.ref (b + 2), .int x47]) := m_ne ef7 k48 (by omega)
                  refine m_get fl_X10_15_X10 C hM (i := 1) (by omega) k61 (v := .int x47) rfl dX10_addFour_41 ?_
                  refine lv_iconst (v := 1) hx hb dX10_addFour_44 (by decide) ?_
                  refine lv_iadd hx hb dX10_addFour_45 ?_
                  refine lv_topi (fun x62 ex62 => ?_)
                  have bx62 : x62.toInt = x47.toInt + 1 := by rw [ex62]; exact t_add rfl (by decide) (by have q1x47 := Int32.toInt_lt x47; have q2x47 := Int32.le_toInt x47; omega) (by have q1x47 := Int32.toInt_lt x47; have q2x47 := Int32.le_toInt x47; omega)
                  refine m_put fl_X10_15_X10 C hM (i := 1) (by omega) k61 rfl rfl (Nat.le_of_ble_eq_true rfl) (fs1 := [.ref (b + 2), .int x62]) rfl dX10_addFour_46 (fun H locs f8 ef8 hM => ?_)
                  refine lv_iinc (v := (-8)) (lv' := [(2, .int (-8)), (0, .ref (b + 1)), (1, .int a1)]) hx hb dX10_addFour_49 hl (k := 0) rfl (by decide) (by decide) rfl (fun ls hl => ?_)
                  refine lv_goto (tgt := 3) hx hb dX10_addFour_52 (by decide) ?_
                  refine lv_iload_n hx hb dX10_addFour_3 rfl (lv_at hl 0 rfl) ?_
                  refine lv_if_lt (tgt := 55) hx hb dX10_addFour_4 (by decide) (fun _ => ?_) (fun h => absurd (by decide) h)
                  have hX1 : XS b kc f1 := hX0.set ef1 (okX_a (by decide) ⟨_, rfl⟩)
                  have hX2 : XS b kc f2 := hX1.set ef2 (okX_a (by decide) ⟨x17, (by first | omega | decide), rfl⟩)
                  have hX3 : XS b kc f3 := hX2.set ef3 (okX_a (by decide) ⟨_, rfl⟩)
                  have hX4 : XS b kc f4 := hX3.set ef4 (okX_a (by decide) ⟨x32, (by first | omega | decide), rfl⟩)
                  have hX5 : XS b kc f5 := hX4.set ef5 (okX_a (by decide) ⟨_, rfl⟩)
                  have hX6 : XS b kc f6 := hX5.set ef6 (okX_a (by decide) ⟨x47, (by first | omega | decide), rfl⟩)
                  have hX7 : XS b kc f7 := hX6.set ef7 (okX_a (by decide) ⟨_, rfl⟩)
                  have hX8 : XS b kc f8 := hX7.set ef8 (okX_a (by decide) ⟨x62, (by first | omega | decide), rfl⟩)
                  have fr63 : ∀ j, 192 ≤ j → f1 j = f j := fun j hj => m_ne ef1 rfl (by omega)
                  have fr64 : ∀ j, 192 ≤ j → f2 j = f j := fun j hj => m_ne ef2 (fr63 j hj) (by omega)
                  have fr65 : ∀ j, 192 ≤ j → f3 j = f j := fun j hj => m_ne ef3 (fr64 j hj) (by omega)
                  have fr66 : ∀ j, 192 ≤ j → f4 j = f j := fun j hj => m_ne ef4 (fr65 j hj) (by omega)
                  have fr67 : ∀ j, 192 ≤ j → f5 j = f j := fun j hj => m_ne ef5 (fr66 j hj) (by omega)
                  have fr68 : ∀ j, 192 ≤ j → f6 j = f j := fun j hj => m_ne ef6 (fr67 j hj) (by omega)
                  have fr69 : ∀ j, 192 ≤ j → f7 j = f j := fun j hj => m_ne ef7 (fr68 j hj) (by omega)
                  have fr70 : ∀ j, 192 ≤ j → f8 j = f j := fun j hj => m_ne ef8 (fr69 j hj) (by omega)
                  exact ret 220 f8 _ _ _ _ hM ⟨hX8, rfl, fr70, trivial⟩ dX10_addFour_55
set_option maxHeartbeats 4000000 in
set_option maxRecDepth 100000 in
theorem s_Sheet_clear (l : Launch) (D : va_G) (kc : Nat → ClassId) (b : Nat) (f : Nat → va_E) (i a N : Nat) (hs : isSheet b kc i a N) (hX0 : XS b kc f) : mMv l yX8_clear cX8_clear 1 1 0 0 D kc b 220 f [.ref (b + i)] (fun u => XS b kc u.2 ∧ u.1 = 220 ∧ (∀ j, 192 ≤ j → u.2 j = f j) ∧ True) := by
  refine m_beg_v (by decide) (Nat.le_of_ble_eq_true rfl) ?_
  intro p e s m args below meth c Q C hnm ret hM ls hl
  obtain ⟨hx, hb, hml, hown, hts, hE, hbs⟩ := id C
  obtain ⟨L0, L1, L2, Lm⟩ := m_l01
  have hw1 := hs.2.2.2.2
  have hl : lv_has ls 1 [(0, .ref (b + i))] := hl
  refine lv_aload_n hx hb dX8_clear_0 rfl (lv_at hl 0 rfl) ?_
  refine lv_iconst (v := 0) hx hb dX8_clear_1 (by decide) ?_
  obtain ⟨z2, bz2, o1⟩ := (hs).1 _ hX0
  refine m_put fl_X8_13_X8 C hM (i := i) (by omega) o1 rfl rfl (Nat.le_of_ble_eq_true rfl) (fs1 := [.ref (b + a), .int 0]) rfl dX8_clear_2 (fun H locs f1 ef1 hM => ?_)
  have hX1 : XS b kc f1 := hX0.set ef1 ((hs).2.2.1 _ ⟨0, (by first | omega | decide), rfl⟩)
  have fr3 : ∀ j, 192 ≤ j → f1 j = f j := fun j hj => m_ne ef1 rfl (by omega)
  exact ret 220 f1 _ _ _ _ hM ⟨hX1, rfl, fr3, trivial⟩ dX8_clear_5
set_option maxHeartbeats 4000000 in
set_option maxRecDepth 100000 in
theorem s_Sheet_add (l : Launch) (D : va_G) (kc : Nat → ClassId) (b : Nat) (f : Nat → va_E) (i a N : Nat) (hs : isSheet b kc i a N) (w1 : Int64) (hX0 : XS b kc f) : mMv l yX8_add cX8_add 3 1 0 0 D kc b 220 f [.ref (b + i), .long w1] (fun u => XS b kc u.2 ∧ u.1 = 220 ∧ (∀ j, 192 ≤ j → u.2 j = f j) ∧ True) := by
  refine m_beg_v (by decide) (Nat.le_of_ble_eq_true rfl) ?_
  intro p e s m args below meth c Q C hnm ret hM ls hl
  obtain ⟨hx, hb, hml, hown, hts, hE, hbs⟩ := id C
  obtain ⟨L0, L1, L2, Lm⟩ := m_l01
  have hw1 := hs.2.2.2.2
  have hl : lv_has ls 3 [(0, .ref (b + i)), (1, .long w1)] := hl
  refine lv_aload_n hx hb dX8_add_0 rfl (lv_at hl 0 rfl) ?_
  obtain ⟨z2, bz2, o1⟩ := (hs).1 _ hX0
  refine m_get fl_X8_13_X8 C hM (i := i) (by omega) o1 (v := .int z2) rfl dX8_add_1 ?_
  refine t_if_lt (tgt := 39) (a := z2.toInt) hx hb rfl dX8_add_4 (by decide) (fun c3 => ?_) (fun c3 => ?_)
  · exfalso; omega
  · refine lv_aload_n hx hb dX8_add_7 rfl (lv_at hl 0 rfl) ?_
    refine m_get fl_X8_13_X8 C hM (i := i) (by omega) o1 (v := .int z2) rfl dX8_add_8 ?_
    refine lv_aload_n hx hb dX8_add_11 rfl (lv_at hl 0 rfl) ?_
    refine m_get fl_X8_7_X8 C hM (i := i) (by omega) o1 (v := .ref (b + a)) rfl dX8_add_12 ?_
    obtain ⟨g5, o4⟩ := (hs).2.1 _ hX0
    refine m_alen C hM (j := a) (by omega) 2 o4 rfl rfl dX8_add_15 ?_
    refine lv_topi (fun x6 ex6 => ?_)
    have bx6 : x6.toInt = N := by rw [ex6]; exact Int32.toInt_ofNat_small (by omega)
    refine t_icmp_ge (tgt := 39) (a := z2.toInt) (d := x6.toInt) hx hb rfl rfl dX8_add_16 (by decide) (fun c7 => ?_) (fun c7 => ?_)
    · exact ret 220 f _ _ _ _ hM ⟨hX0, rfl, (fun _ _ => rfl), trivial⟩ dX8_add_39
    · refine lv_aload_n hx hb dX8_add_19 rfl (lv_at hl 0 rfl) ?_
      refine m_get fl_X8_7_X8 C hM (i := i) (by omega) o1 (v := .ref (b + a)) rfl dX8_add_20 ?_
      refine lv_aload_n hx hb dX8_add_23 rfl (lv_at hl 0 rfl) ?_
      refine m_get fl_X8_13_X8 C hM (i := i) (by omega) o1 (v := .int z2) rfl dX8_add_24 ?_
      refine lv_lload_n hx hb dX8_add_27 rfl (lv_at hl 1 rfl) ?_
      refine m_last C hM (j := a) (by omega) o4 (t_in rfl (by omega) (by omega)) dX8_add_28 (fun H locs f1 ef1 hM => ?_)
      have ef1 : f1 = va_up f a (.inl (kc 2, N, .inr (.inl (vp_updL g5 z2.toNatClampNeg w1)))) := ef1
      refine lv_aload_n hx hb dX8_add_29 rfl (lv_at hl 0 rfl) ?_
      refine lv_dup hx hb dX8_add_30 rfl ?_
      have k8 : f1 i = .inr (8, [.ref (b + a), .int z2]) := m_ne ef1 o1 (by omega)
      refine m_get fl_X8_13_X8 C hM (i := i) (by omega) k8 (v := .int z2) rfl dX8_add_31 ?_
      refine lv_iconst (v := 1) hx hb dX8_add_34 (by decide) ?_
      refine lv_iadd hx hb dX8_add_35 ?_
      refine lv_topi (fun x9 ex9 => ?_)
      have bx9 : x9.toInt = z2.toInt + 1 := by rw [ex9]; exact t_add rfl (by decide) (by have q1z2 := Int32.toInt_lt z2; have q2z2 := Int32.le_toInt z2; omega) (by have q1z2 := Int32.toInt_lt z2; have q2z2 := Int32.le_toInt z2; omega)
      refine m_put fl_X8_13_X8 C hM (i := i) (by omega) k8 rfl rfl (Nat.le_of_ble_eq_true rfl) (fs1 := [.ref (b + a), .int x9]) rfl dX8_add_36 (fun H locs f2 ef2 hM => ?_)
      have hX1 : XS b kc f1 := hX0.set ef1 ((hs).2.2.2.1 _ ⟨_, rfl⟩)
      have hX2 : XS b kc f2 := hX1.set ef2 ((hs).2.2.1 _ ⟨x9, (by first | omega | decide), rfl⟩)
      have fr10 : ∀ j, 192 ≤ j → f1 j = f j := fun j hj => m_ne ef1 rfl (by omega)
      have fr11 : ∀ j, 192 ≤ j → f2 j = f j := fun j hj => m_ne ef2 (fr10 j hj) (by omega)
      exact ret 220 f2 _ _ _ _ hM ⟨hX2, rfl, fr11, trivial⟩ dX8_add_39
set_option maxHeartbeats 4000000 in
set_option maxRecDepth 100000 in
theorem s_Sheet_wordAt (l : Launch) (D : va_G) (kc : Nat → ClassId) (b : Nat) (f : Nat → va_E) (i a N : Nat) (hs : isSheet b kc i a N) (a1 : Int32) (hX0 : XS b kc f) : mMl l yX8_wordAt cX8_wordAt 2 .long 1 0 0 D kc b 220 f [.ref (b + i), .int a1] (fun r u => XS b kc u.2 ∧ u.1 = 220 ∧ (∀ j, 192 ≤ j → u.2 j = f j) ∧ True) := by
  refine m_beg_l (by decide) (Nat.le_of_ble_eq_true rfl) ?_
  intro p e s m args below meth c Q C hnm ret hM ls hl
  obtain ⟨hx, hb, hml, hown, hts, hE, hbs⟩ := id C
  obtain ⟨L0, L1, L2, Lm⟩ := m_l01
  have hw1 := hs.2.2.2.2
  have hl : lv_has ls 2 [(0, .ref (b + i)), (1, .int a1)] := hl
  refine lv_iload_n hx hb dX8_wordAt_0 rfl (lv_at hl 1 rfl) ?_
  refine t_if_lt (tgt := 21) (a := a1.toInt) hx hb rfl dX8_wordAt_1 (by decide) (fun c1 => ?_) (fun c1 => ?_)
  · refine lv_lconst (v := 0) hx hb dX8_wordAt_21 (by decide) ?_
    refine lv_goto (tgt := 31) hx hb dX8_wordAt_22 (by decide) ?_
    exact ret 220 f _ _ _ _ 0 hM ⟨hX0, rfl, (fun _ _ => rfl), trivial⟩ dX8_wordAt_31
  · refine lv_iload_n hx hb dX8_wordAt_4 rfl (lv_at hl 1 rfl) ?_
    refine lv_aload_n hx hb dX8_wordAt_5 rfl (lv_at hl 0 rfl) ?_
    obtain ⟨z3, bz3, o2⟩ := (hs).1 _ hX0
    refine m_get fl_X8_13_X8 C hM (i := i) (by omega) o2 (v := .int z3) rfl dX8_wordAt_6 ?_
    refine t_icmp_ge (tgt := 21) (a := a1.toInt) (d := z3.toInt) hx hb rfl rfl dX8_wordAt_9 (by decide) (fun c4 => ?_) (fun c4 => ?_)
    · refine lv_lconst (v := 0) hx hb dX8_wordAt_21 (by decide) ?_
      refine lv_goto (tgt := 31) hx hb dX8_wordAt_22 (by decide) ?_
      exact ret 220 f _ _ _ _ 0 hM ⟨hX0, rfl, (fun _ _ => rfl), trivial⟩ dX8_wordAt_31
    · refine lv_iload_n hx hb dX8_wordAt_12 rfl (lv_at hl 1 rfl) ?_
      refine lv_aload_n hx hb dX8_wordAt_13 rfl (lv_at hl 0 rfl) ?_
      refine m_get fl_X8_7_X8 C hM (i := i) (by omega) o2 (v := .ref (b + a)) rfl dX8_wordAt_14 ?_
      obtain ⟨g6, o5⟩ := (hs).2.1 _ hX0
      refine m_alen C hM (j := a) (by omega) 2 o5 rfl rfl dX8_wordAt_17 ?_
      refine lv_topi (fun x7 ex7 => ?_)
      have bx7 : x7.toInt = N := by rw [ex7]; exact Int32.toInt_ofNat_small (by omega)
      refine t_icmp_lt (tgt := 25) (a := a1.toInt) (d := x7.toInt) hx hb rfl rfl dX8_wordAt_18 (by decide) (fun c8 => ?_) (fun c8 => ?_)
      · refine lv_aload_n hx hb dX8_wordAt_25 rfl (lv_at hl 0 rfl) ?_
        refine m_get fl_X8_7_X8 C hM (i := i) (by omega) o2 (v := .ref (b + a)) rfl dX8_wordAt_26 ?_
        refine lv_iload_n hx hb dX8_wordAt_29 rfl (lv_at hl 1 rfl) ?_
        refine m_lald C hM (j := a) (by omega) o5 (t_in rfl (by omega) (by omega)) dX8_wordAt_30 ?_
        exact ret 220 f _ _ _ _ ((g6) a1.toNatClampNeg) hM ⟨hX0, rfl, (fun _ _ => rfl), trivial⟩ dX8_wordAt_31
      · refine lv_lconst (v := 0) hx hb dX8_wordAt_21 (by decide) ?_
        refine lv_goto (tgt := 31) hx hb dX8_wordAt_22 (by decide) ?_
        exact ret 220 f _ _ _ _ 0 hM ⟨hX0, rfl, (fun _ _ => rfl), trivial⟩ dX8_wordAt_31
set_option maxHeartbeats 4000000 in
set_option maxRecDepth 100000 in
theorem s_Bill_priceOf (l : Launch) (D : va_G) (kc : Nat → ClassId) (b : Nat) (f : Nat → va_E) (a1 : Int32) (hX0 : XS b kc f) : mMi l yX0_priceOf cX0_priceOf 2 .int 1 0 0 D kc b 220 f [.ref (b + 190), .int a1] (fun r u => XS b kc u.2 ∧ u.1 = 220 ∧ (∀ j, 192 ≤ j → u.2 j = f j) ∧ True) := by
  refine m_beg_i (by decide) (Nat.le_of_ble_eq_true rfl) ?_
  intro p e s m args below meth c Q C hnm ret hM ls hl
  obtain ⟨hx, hb, hml, hown, hts, hE, hbs⟩ := id C
  obtain ⟨L0, L1, L2, Lm⟩ := m_l01
  have hl : lv_has ls 2 [(0, .ref (b + 190)), (1, .int a1)] := hl
  refine lv_iload_n hx hb dX0_priceOf_0 rfl (lv_at hl 1 rfl) ?_
  refine t_if_lt (tgt := 13) (a := a1.toInt) hx hb rfl dX0_priceOf_1 (by decide) (fun c1 => ?_) (fun c1 => ?_)
  · refine lv_iconst (v := 0) hx hb dX0_priceOf_13 (by decide) ?_
    refine lv_goto (tgt := 23) hx hb dX0_priceOf_14 (by decide) ?_
    exact ret 220 f _ _ _ _ 0 hM ⟨hX0, rfl, (fun _ _ => rfl), trivial⟩ dX0_priceOf_23
  · refine lv_iload_n hx hb dX0_priceOf_4 rfl (lv_at hl 1 rfl) ?_
    refine lv_aload_n hx hb dX0_priceOf_5 rfl (lv_at hl 0 rfl) ?_
    have o2 : f 190 = .inr (0, [.ref (b + 191)]) := hX0.b 190 (by decide) (by decide)
    refine m_get fl_X0_18_X0 C hM (i := 190) (by omega) o2 (v := .ref (b + 191)) rfl dX0_priceOf_6 ?_
    obtain ⟨g4, o3⟩ := hX0.b 191 (by decide) (by decide)
    refine m_alen C hM (j := 191) (by omega) 1 o3 rfl (v := 5) rfl dX0_priceOf_9 ?_
    refine t_icmp_lt (tgt := 17) (a := a1.toInt) (d := 5) hx hb rfl (by decide) dX0_priceOf_10 (by decide) (fun c5 => ?_) (fun c5 => ?_)
    · refine lv_aload_n hx hb dX0_priceOf_17 rfl (lv_at hl 0 rfl) ?_
      refine m_get fl_X0_18_X0 C hM (i := 190) (by omega) o2 (v := .ref (b + 191)) rfl dX0_priceOf_18 ?_
      refine lv_iload_n hx hb dX0_priceOf_21 rfl (lv_at hl 1 rfl) ?_
      refine m_iald C hM (j := 191) (by omega) o3 (t_in rfl (by omega) (by omega)) dX0_priceOf_22 ?_
      exact ret 220 f _ _ _ _ ((g4) a1.toNatClampNeg) hM ⟨hX0, rfl, (fun _ _ => rfl), trivial⟩ dX0_priceOf_23
    · refine lv_iconst (v := 0) hx hb dX0_priceOf_13 (by decide) ?_
      refine lv_goto (tgt := 23) hx hb dX0_priceOf_14 (by decide) ?_
      exact ret 220 f _ _ _ _ 0 hM ⟨hX0, rfl, (fun _ _ => rfl), trivial⟩ dX0_priceOf_23
set_option maxHeartbeats 4000000 in
set_option maxRecDepth 100000 in
theorem s_Pile_clear (l : Launch) (D : va_G) (kc : Nat → ClassId) (b : Nat) (f : Nat → va_E)  (hX0 : XS b kc f) : mMv l yX5_clear cX5_clear 1 1 0 0 D kc b 220 f [.ref (b + 10)] (fun u => XS b kc u.2 ∧ u.1 = 220 ∧ (∀ j, 192 ≤ j → u.2 j = f j) ∧ True) := by
  refine m_beg_v (by decide) (Nat.le_of_ble_eq_true rfl) ?_
  intro p e s m args below meth c Q C hnm ret hM ls hl
  obtain ⟨hx, hb, hml, hown, hts, hE, hbs⟩ := id C
  obtain ⟨L0, L1, L2, Lm⟩ := m_l01
  have hl : lv_has ls 1 [(0, .ref (b + 10))] := hl
  refine lv_aload_n hx hb dX5_clear_0 rfl (lv_at hl 0 rfl) ?_
  refine lv_iconst (v := 0) hx hb dX5_clear_1 (by decide) ?_
  obtain ⟨z2, z3, z4, b5, o1⟩ := hX0.a 10 (by decide)
  refine m_put fl_X5_25_X5 C hM (i := 10) (by omega) o1 rfl rfl (Nat.le_of_ble_eq_true rfl) (fs1 := [.ref (b + 11), .ref (b + 12), .ref (b + 13), .int 0, .int z3, .int z4]) rfl dX5_clear_2 (fun H locs f1 ef1 hM => ?_)
  refine lv_aload_n hx hb dX5_clear_5 rfl (lv_at hl 0 rfl) ?_
  refine lv_iconst (v := 0) hx hb dX5_clear_6 (by decide) ?_
  have k6 : f1 10 = .inr (5, [.ref (b + 11), .ref (b + 12), .ref (b + 13), .int 0, .int z3, .int z4]) := m_eq ef1
  refine m_put fl_X5_29_X5 C hM (i := 10) (by omega) k6 rfl rfl (Nat.le_of_ble_eq_true rfl) (fs1 := [.ref (b + 11), .ref (b + 12), .ref (b + 13), .int 0, .int 0, .int z4]) rfl dX5_clear_7 (fun H locs f2 ef2 hM => ?_)
  refine lv_aload_n hx hb dX5_clear_10 rfl (lv_at hl 0 rfl) ?_
  refine lv_iconst (v := 0) hx hb dX5_clear_11 (by decide) ?_
  have k7 : f2 10 = .inr (5, [.ref (b + 11), .ref (b + 12), .ref (b + 13), .int 0, .int 0, .int z4]) := m_eq ef2
  refine m_put fl_X5_32_X5 C hM (i := 10) (by omega) k7 rfl rfl (Nat.le_of_ble_eq_true rfl) (fs1 := [.ref (b + 11), .ref (b + 12), .ref (b + 13), .int 0, .int 0, .int 0]) rfl dX5_clear_12 (fun H locs f3 ef3 hM => ?_)
  have hX1 : XS b kc f1 := hX0.set ef1 (okX_a (by decide) ⟨0, z3, z4, (by first | omega | decide), rfl⟩)
  have hX2 : XS b kc f2 := hX1.set ef2 (okX_a (by decide) ⟨0, 0, z4, (by first | omega | decide), rfl⟩)
  have hX3 : XS b kc f3 := hX2.set ef3 (okX_a (by decide) ⟨0, 0, 0, (by first | omega | decide), rfl⟩)
  have fr8 : ∀ j, 192 ≤ j → f1 j = f j := fun j hj => m_ne ef1 rfl (by omega)
  have fr9 : ∀ j, 192 ≤ j → f2 j = f j := fun j hj => m_ne ef2 (fr8 j hj) (by omega)
  have fr10 : ∀ j, 192 ≤ j → f3 j = f j := fun j hj => m_ne ef3 (fr9 j hj) (by omega)
  exact ret 220 f3 _ _ _ _ hM ⟨hX3, rfl, fr10, trivial⟩ dX5_clear_15
set_option maxHeartbeats 4000000 in
set_option maxRecDepth 100000 in
theorem s_Pile_rankOf (l : Launch) (D : va_G) (kc : Nat → ClassId) (b : Nat) (f : Nat → va_E) (a1 : Int32) (hX0 : XS b kc f) : mMi l yX5_rankOf cX5_rankOf 2 .int 1 0 0 D kc b 220 f [.ref (b + 10), .int a1] (fun r u => XS b kc u.2 ∧ u.1 = 220 ∧ (∀ j, 192 ≤ j → u.2 j = f j) ∧ True) := by
  refine m_beg_i (by decide) (Nat.le_of_ble_eq_true rfl) ?_
  intro p e s m args below meth c Q C hnm ret hM ls hl
  obtain ⟨hx, hb, hml, hown, hts, hE, hbs⟩ := id C
  obtain ⟨L0, L1, L2, Lm⟩ := m_l01
  have hl : lv_has ls 2 [(0, .ref (b + 10)), (1, .int a1)] := hl
  refine lv_iload_n hx hb dX5_rankOf_0 rfl (lv_at hl 1 rfl) ?_
  refine t_if_lt (tgt := 13) (a := a1.toInt) hx hb rfl dX5_rankOf_1 (by decide) (fun c1 => ?_) (fun c1 => ?_)
  · refine lv_iconst (v := (-1)) hx hb dX5_rankOf_13 (by decide) ?_
    refine lv_goto (tgt := 23) hx hb dX5_rankOf_14 (by decide) ?_
    exact ret 220 f _ _ _ _ (-1) hM ⟨hX0, rfl, (fun _ _ => rfl), trivial⟩ dX5_rankOf_23
  · refine lv_iload_n hx hb dX5_rankOf_4 rfl (lv_at hl 1 rfl) ?_
    refine lv_aload_n hx hb dX5_rankOf_5 rfl (lv_at hl 0 rfl) ?_
    obtain ⟨z3, z4, z5, b6, o2⟩ := hX0.a 10 (by decide)
    refine m_get fl_X5_17_X5 C hM (i := 10) (by omega) o2 (v := .ref (b + 12)) rfl dX5_rankOf_6 ?_
    obtain ⟨g8, o7⟩ := hX0.a 12 (by decide)
    refine m_alen C hM (j := 12) (by omega) 1 o7 rfl (v := 3) rfl dX5_rankOf_9 ?_
    refine t_icmp_lt (tgt := 17) (a := a1.toInt) (d := 3) hx hb rfl (by decide) dX5_rankOf_10 (by decide) (fun c9 => ?_) (fun c9 => ?_)
    · refine lv_aload_n hx hb dX5_rankOf_17 rfl (lv_at hl 0 rfl) ?_
      refine m_get fl_X5_17_X5 C hM (i := 10) (by omega) o2 (v := .ref (b + 12)) rfl dX5_rankOf_18 ?_
      refine lv_iload_n hx hb dX5_rankOf_21 rfl (lv_at hl 1 rfl) ?_
      refine m_iald C hM (j := 12) (by omega) o7 (t_in rfl (by omega) (by omega)) dX5_rankOf_22 ?_
      exact ret 220 f _ _ _ _ ((g8) a1.toNatClampNeg) hM ⟨hX0, rfl, (fun _ _ => rfl), trivial⟩ dX5_rankOf_23
    · refine lv_iconst (v := (-1)) hx hb dX5_rankOf_13 (by decide) ?_
      refine lv_goto (tgt := 23) hx hb dX5_rankOf_14 (by decide) ?_
      exact ret 220 f _ _ _ _ (-1) hM ⟨hX0, rfl, (fun _ _ => rfl), trivial⟩ dX5_rankOf_23
set_option maxHeartbeats 4000000 in
set_option maxRecDepth 100000 in
theorem s_Pile_doneNumber (l : Launch) (D : va_G) (kc : Nat → ClassId) (b : Nat) (f : Nat → va_E) (a1 : Int32) (hX0 : XS b kc f) : mMi l yX5_doneNumber cX5_doneNumber 2 .int 1 0 0 D kc b 220 f [.ref (b + 10), .int a1] (fun r u => XS b kc u.2 ∧ u.1 = 220 ∧ (∀ j, 192 ≤ j → u.2 j = f j) ∧ True) := by
  refine m_beg_i (by decide) (Nat.le_of_ble_eq_true rfl) ?_
  intro p e s m args below meth c Q C hnm ret hM ls hl
  obtain ⟨hx, hb, hml, hown, hts, hE, hbs⟩ := id C
  obtain ⟨L0, L1, L2, Lm⟩ := m_l01
  have hl : lv_has ls 2 [(0, .ref (b + 10)), (1, .int a1)] := hl
  refine lv_iload_n hx hb dX5_doneNumber_0 rfl (lv_at hl 1 rfl) ?_
  refine t_if_lt (tgt := 21) (a := a1.toInt) hx hb rfl dX5_doneNumber_1 (by decide) (fun c1 => ?_) (fun c1 => ?_)
  · refine lv_iconst (v := (-1)) hx hb dX5_doneNumber_21 (by decide) ?_
    refine lv_goto (tgt := 31) hx hb dX5_doneNumber_22 (by decide) ?_
    exact ret 220 f _ _ _ _ (-1) hM ⟨hX0, rfl, (fun _ _ => rfl), trivial⟩ dX5_doneNumber_31
  · refine lv_iload_n hx hb dX5_doneNumber_4 rfl (lv_at hl 1 rfl) ?_
    refine lv_aload_n hx hb dX5_doneNumber_5 rfl (lv_at hl 0 rfl) ?_
    obtain ⟨z3, z4, z5, b6, o2⟩ := hX0.a 10 (by decide)
    refine m_get fl_X5_32_X5 C hM (i := 10) (by omega) o2 (v := .int z5) rfl dX5_doneNumber_6 ?_
    refine t_icmp_ge (tgt := 21) (a := a1.toInt) (d := z5.toInt) hx hb rfl rfl dX5_doneNumber_9 (by decide) (fun c7 => ?_) (fun c7 => ?_)
    · refine lv_iconst (v := (-1)) hx hb dX5_doneNumber_21 (by decide) ?_
      refine lv_goto (tgt := 31) hx hb dX5_doneNumber_22 (by decide) ?_
      exact ret 220 f _ _ _ _ (-1) hM ⟨hX0, rfl, (fun _ _ => rfl), trivial⟩ dX5_doneNumber_31
    · refine lv_iload_n hx hb dX5_doneNumber_12 rfl (lv_at hl 1 rfl) ?_
      refine lv_aload_n hx hb dX5_doneNumber_13 rfl (lv_at hl 0 rfl) ?_
      refine m_get fl_X5_21_X5 C hM (i := 10) (by omega) o2 (v := .ref (b + 13)) rfl dX5_doneNumber_14 ?_
      obtain ⟨g9, o8⟩ := hX0.a 13 (by decide)
      refine m_alen C hM (j := 13) (by omega) 1 o8 rfl (v := 40) rfl dX5_doneNumber_17 ?_
      refine t_icmp_lt (tgt := 25) (a := a1.toInt) (d := 40) hx hb rfl (by decide) dX5_doneNumber_18 (by decide) (fun c10 => ?_) (fun c10 => ?_)
      · refine lv_aload_n hx hb dX5_doneNumber_25 rfl (lv_at hl 0 rfl) ?_
        refine m_get fl_X5_21_X5 C hM (i := 10) (by omega) o2 (v := .ref (b + 13)) rfl dX5_doneNumber_26 ?_
        refine lv_iload_n hx hb dX5_doneNumber_29 rfl (lv_at hl 1 rfl) ?_
        refine m_iald C hM (j := 13) (by omega) o8 (t_in rfl (by omega) (by omega)) dX5_doneNumber_30 ?_
        exact ret 220 f _ _ _ _ ((g9) a1.toNatClampNeg) hM ⟨hX0, rfl, (fun _ _ => rfl), trivial⟩ dX5_doneNumber_31
      · refine lv_iconst (v := (-1)) hx hb dX5_doneNumber_21 (by decide) ?_
        refine lv_goto (tgt := 31) hx hb dX5_doneNumber_22 (by decide) ?_
        exact ret 220 f _ _ _ _ (-1) hM ⟨hX0, rfl, (fun _ _ => rfl), trivial⟩ dX5_doneNumber_31
set_option maxHeartbeats 4000000 in
set_option maxRecDepth 100000 in
theorem s_Holding_note (l : Launch) (D : va_G) (kc : Nat → ClassId) (b : Nat) (f : Nat → va_E) (a1 a2 a3 : Int32) (hX0 : XS b kc f) : mMv l yX2_note cX2_note 4 1 0 0 D kc b 220 f [.ref (b + 183), .int a1, .int a2, .int a3] (fun u => XS b kc u.2 ∧ u.1 = 220 ∧ (∀ j, 192 ≤ j → u.2 j = f j) ∧ True) := by
  refine m_beg_v (by decide) (Nat.le_of_ble_eq_true rfl) ?_
  intro p e s m args below meth c Q C hnm ret hM ls hl
  obtain ⟨hx, hb, hml, hown, hts, hE, hbs⟩ := id C
  obtain ⟨L0, L1, L2, Lm⟩ := m_l01
  have hl : lv_has ls 4 [(0, .ref (b + 183)), (1, .int a1), (2, .int a2), (3, .int a3)] := hl
  refine lv_aload_n hx hb dX2_note_0 rfl (lv_at hl 0 rfl) ?_
  obtain ⟨z2, z3, z4, z5, z6, z7, z8, o1⟩ := hX0.b 183 (by decide) (by decide)
  refine m_get fl_X2_101_X2 C hM (i := 183) (by omega) o1 (v := .int z8) rfl dX2_note_1 ?_
  refine t_if_lt (tgt := 57) (a := z8.toInt) hx hb rfl dX2_note_4 (by decide) (fun c9 => ?_) (fun c9 => ?_)
  · exact ret 220 f _ _ _ _ hM ⟨hX0, rfl, (fun _ _ => rfl), trivial⟩ dX2_note_57
  · refine lv_aload_n hx hb dX2_note_7 rfl (lv_at hl 0 rfl) ?_
    refine m_get fl_X2_101_X2 C hM (i := 183) (by omega) o1 (v := .int z8) rfl dX2_note_8 ?_
    refine lv_sipush (v := 150) hx hb dX2_note_11 (by decide) ?_
    refine t_icmp_ge (tgt := 57) (a := z8.toInt) (d := 150) hx hb rfl (by decide) dX2_note_14 (by decide) (fun c10 => ?_) (fun c10 => ?_)
    · exact ret 220 f _ _ _ _ hM ⟨hX0, rfl, (fun _ _ => rfl), trivial⟩ dX2_note_57
    · refine lv_aload_n hx hb dX2_note_17 rfl (lv_at hl 0 rfl) ?_
      refine m_get fl_X2_24_X2 C hM (i := 183) (by omega) o1 (v := .ref (b + 187)) rfl dX2_note_18 ?_
      refine lv_aload_n hx hb dX2_note_21 rfl (lv_at hl 0 rfl) ?_
      refine m_get fl_X2_101_X2 C hM (i := 183) (by omega) o1 (v := .int z8) rfl dX2_note_22 ?_
      refine lv_iload_n hx hb dX2_note_25 rfl (lv_at hl 1 rfl) ?_
      obtain ⟨g12, o11⟩ := hX0.b 187 (by decide) (by decide)
      refine m_iast C hM (j := 187) (by omega) o11 (t_in rfl (by omega) (by omega)) dX2_note_26 (fun H locs f1 ef1 hM => ?_)
      have ef1 : f1 = va_up f 187 (.inl (kc 1, 150, .inl (upd g12 z8.toNatClampNeg a1))) := ef1
      refine lv_aload_n hx hb dX2_note_27 rfl (lv_at hl 0 rfl) ?_
      have k13 : f1 183 = .inr (2, [.ref (b + 184), .ref (b + 186), .ref (b + 187), .ref (b + 188), .ref (b + 189), .int z2, .int z3, .int z4, .int z5, .int z6, .int z7, .int z8]) := m_ne ef1 o1 (by omega)
      refine m_get fl_X2_27_X2 C hM (i := 183) (by omega) k13 (v := .ref (b + 188)) rfl dX2_note_28 ?_
      refine lv_aload_n hx hb dX2_note_31 rfl (lv_at hl 0 rfl) ?_
      refine m_get fl_X2_101_X2 C hM (i := 183) (by omega) k13 (v := .int z8) rfl dX2_note_32 ?_
      refine lv_iload_n hx hb dX2_note_35 rfl (lv_at hl 2 rfl) ?_
      obtain ⟨g15, o14⟩ := hX0.b 188 (by decide) (by decide)
      have k16 : f1 188 = .inl (kc 1, 150, .inl (g15)) := m_ne ef1 o14 (by omega)
      refine m_iast C hM (j := 188) (by omega) k16 (t_in rfl (by omega) (by omega)) dX2_note_36 (fun H locs f2 ef2 hM => ?_)
      have ef2 : f2 = va_up f1 188 (.inl (kc 1, 150, .inl (upd g15 z8.toNatClampNeg a2))) := ef2
      refine lv_aload_n hx hb dX2_note_37 rfl (lv_at hl 0 rfl) ?_
      have k17 : f2 183 = .inr (2, [.ref (b + 184), .ref (b + 186), .ref (b + 187), .ref (b + 188), .ref (b + 189), .int z2, .int z3, .int z4, .int z5, .int z6, .int z7, .int z8]) := m_ne ef2 k13 (by omega)
      refine m_get fl_X2_30_X2 C hM (i := 183) (by omega) k17 (v := .ref (b + 189)) rfl dX2_note_38 ?_
      refine lv_aload_n hx hb dX2_note_41 rfl (lv_at hl 0 rfl) ?_
      refine m_get fl_X2_101_X2 C hM (i := 183) (by omega) k17 (v := .int z8) rfl dX2_note_42 ?_
      refine lv_iload_n hx hb dX2_note_45 rfl (lv_at hl 3 rfl) ?_
      obtain ⟨g19, o18⟩ := hX0.b 189 (by decide) (by decide)
      have k20 : f1 189 = .inl (kc 1, 150, .inl (g19)) := m_ne ef1 o18 (by omega)
      have k21 : f2 189 = .inl (kc 1, 150, .inl (g19)) := m_ne ef2 k20 (by omega)
      refine m_iast C hM (j := 189) (by omega) k21 (t_in rfl (by omega) (by omega)) dX2_note_46 (fun H locs f3 ef3 hM => ?_)
      have ef3 : f3 = va_up f2 189 (.inl (kc 1, 150, .inl (upd g19 z8.toNatClampNeg a3))) := ef3
      refine lv_aload_n hx hb dX2_note_47 rfl (lv_at hl 0 rfl) ?_
      refine lv_dup hx hb dX2_note_48 rfl ?_
      have k22 : f3 183 = .inr (2, [.ref (b + 184), .ref (b + 186), .ref (b + 187), .ref (b + 188), .ref (b + 189), .int z2, .int z3, .int z4, .int z5, .int z6, .int z7, .int z8]) := m_ne ef3 k17 (by omega)
      refine m_get fl_X2_101_X2 C hM (i := 183) (by omega) k22 (v := .int z8) rfl dX2_note_49 ?_
      refine lv_iconst (v := 1) hx hb dX2_note_52 (by decide) ?_
      refine lv_iadd hx hb dX2_note_53 ?_
      refine lv_topi (fun x23 ex23 => ?_)
      have bx23 : x23.toInt = z8.toInt + 1 := by rw [ex23]; exact t_add rfl (by decide) (by have q1z8 := Int32.toInt_lt z8; have q2z8 := Int32.le_toInt z8; omega) (by have q1z8 := Int32.toInt_lt z8; have q2z8 := Int32.le_toInt z8; omega)
      refine m_put fl_X2_101_X2 C hM (i := 183) (by omega) k22 rfl rfl (Nat.le_of_ble_eq_true rfl) (fs1 := [.ref (b + 184), .ref (b + 186), .ref (b + 187), .ref (b + 188), .ref (b + 189), .int z2, .int z3, .int z4, .int z5, .int z6, .int z7, .int x23]) rfl dX2_note_54 (fun H locs f4 ef4 hM => ?_)
      have hX1 : XS b kc f1 := hX0.set ef1 (okX_b (by decide) ⟨_, rfl⟩)
      have hX2 : XS b kc f2 := hX1.set ef2 (okX_b (by decide) ⟨_, rfl⟩)
      have hX3 : XS b kc f3 := hX2.set ef3 (okX_b (by decide) ⟨_, rfl⟩)
      have hX4 : XS b kc f4 := hX3.set ef4 (okX_b (by decide) ⟨z2, z3, z4, z5, z6, z7, x23, rfl⟩)
      have fr24 : ∀ j, 192 ≤ j → f1 j = f j := fun j hj => m_ne ef1 rfl (by omega)
      have fr25 : ∀ j, 192 ≤ j → f2 j = f j := fun j hj => m_ne ef2 (fr24 j hj) (by omega)
      have fr26 : ∀ j, 192 ≤ j → f3 j = f j := fun j hj => m_ne ef3 (fr25 j hj) (by omega)
      have fr27 : ∀ j, 192 ≤ j → f4 j = f j := fun j hj => m_ne ef4 (fr26 j hj) (by omega)
      exact ret 220 f4 _ _ _ _ hM ⟨hX4, rfl, fr27, trivial⟩ dX2_note_57
set_option maxHeartbeats 4000000 in
set_option maxRecDepth 100000 in
theorem s_Holding_tellMissed (l : Launch) (D : va_G) (kc : Nat → ClassId) (b : Nat) (f : Nat → va_E) (a1 : Int32) (hX0 : XS b kc f) : mMi l yX2_tellMissed cX2_tellMissed 3 .int 1 0 0 D kc b 220 f [.ref (b + 183), .int a1] (fun r u => XS b kc u.2 ∧ u.1 = 220 ∧ (∀ j, 192 ≤ j → u.2 j = f j) ∧ True) := by
  refine m_beg_i (by decide) (Nat.le_of_ble_eq_true rfl) ?_
  intro p e s m args below meth c Q C hnm ret hM ls hl
  obtain ⟨hx, hb, hml, hown, hts, hE, hbs⟩ := id C
  obtain ⟨L0, L1, L2, Lm⟩ := m_l01
  have hl : lv_has ls 3 [(0, .ref (b + 183)), (1, .int a1)] := hl
  refine lv_iload_n hx hb dX2_tellMissed_0 rfl (lv_at hl 1 rfl) ?_
  refine lv_bipush (v := 10) hx hb dX2_tellMissed_1 (by decide) ?_
  refine t_icmp_ge (tgt := 8) (a := a1.toInt) (d := 10) hx hb rfl (by decide) dX2_tellMissed_3 (by decide) (fun c1 => ?_) (fun c1 => ?_)
  · refine lv_iload_n hx hb dX2_tellMissed_8 rfl (lv_at hl 1 rfl) ?_
    refine lv_bipush (v := 10) hx hb dX2_tellMissed_9 (by decide) ?_
    refine lv_isub hx hb dX2_tellMissed_11 ?_
    refine lv_topi (fun x2 ex2 => ?_)
    have bx2 : x2.toInt = a1.toInt - 10 := by rw [ex2]; exact t_sub rfl (by decide) (by have q1a1 := Int32.toInt_lt a1; have q2a1 := Int32.le_toInt a1; omega) (by have q1a1 := Int32.toInt_lt a1; have q2a1 := Int32.le_toInt a1; omega)
    refine lv_istore_n (lv' := [(2, .int x2), (0, .ref (b + 183)), (1, .int a1)]) hx hb dX2_tellMissed_12 rfl hl (by decide) rfl (fun ls hl => ?_)
    refine lv_iload_n hx hb dX2_tellMissed_13 rfl (lv_at hl 0 rfl) ?_
    refine lv_aload_n hx hb dX2_tellMissed_14 rfl (lv_at hl 1 rfl) ?_
    obtain ⟨z4, z5, z6, z7, z8, z9, z10, o3⟩ := hX0.b 183 (by decide) (by decide)
    refine m_get fl_X2_95_X2 C hM (i := 183) (by omega) o3 (v := .int z8) rfl dX2_tellMissed_15 ?_
    refine t_icmp_ge (tgt := 30) (a := x2.toInt) (d := z8.toInt) hx hb rfl rfl dX2_tellMissed_18 (by decide) (fun c11 => ?_) (fun c11 => ?_)
    · refine lv_iconst (v := (-1)) hx hb dX2_tellMissed_30 (by decide) ?_
      refine lv_goto (tgt := 40) hx hb dX2_tellMissed_31 (by decide) ?_
      exact ret 220 f _ _ _ _ (-1) hM ⟨hX0, rfl, (fun _ _ => rfl), trivial⟩ dX2_tellMissed_40
    · refine lv_iload_n hx hb dX2_tellMissed_21 rfl (lv_at hl 0 rfl) ?_
      refine lv_aload_n hx hb dX2_tellMissed_22 rfl (lv_at hl 1 rfl) ?_
      refine m_get fl_X2_20_X2 C hM (i := 183) (by omega) o3 (v := .ref (b + 186)) rfl dX2_tellMissed_23 ?_
      obtain ⟨g13, o12⟩ := hX0.b 186 (by decide) (by decide)
      refine m_alen C hM (j := 186) (by omega) 1 o12 rfl (v := 8) rfl dX2_tellMissed_26 ?_
      refine t_icmp_lt (tgt := 34) (a := x2.toInt) (d := 8) hx hb rfl (by decide) dX2_tellMissed_27 (by decide) (fun c14 => ?_) (fun c14 => ?_)
      · refine lv_aload_n hx hb dX2_tellMissed_34 rfl (lv_at hl 1 rfl) ?_
        refine m_get fl_X2_20_X2 C hM (i := 183) (by omega) o3 (v := .ref (b + 186)) rfl dX2_tellMissed_35 ?_
        refine lv_iload_n hx hb dX2_tellMissed_38 rfl (lv_at hl 0 rfl) ?_
        refine m_iald C hM (j := 186) (by omega) o12 (t_in rfl (by omega) (by omega)) dX2_tellMissed_39 ?_
        exact ret 220 f _ _ _ _ ((g13) x2.toNatClampNeg) hM ⟨hX0, rfl, (fun _ _ => rfl), trivial⟩ dX2_tellMissed_40
      · refine lv_iconst (v := (-1)) hx hb dX2_tellMissed_30 (by decide) ?_
        refine lv_goto (tgt := 40) hx hb dX2_tellMissed_31 (by decide) ?_
        exact ret 220 f _ _ _ _ (-1) hM ⟨hX0, rfl, (fun _ _ => rfl), trivial⟩ dX2_tellMissed_40
  · refine lv_iconst (v := (-1)) hx hb dX2_tellMissed_6 (by decide) ?_
    exact ret 220 f _ _ _ _ (-1) hM ⟨hX0, rfl, (fun _ _ => rfl), trivial⟩ dX2_tellMissed_7
set_option maxHeartbeats 4000000 in
set_option maxRecDepth 100000 in
theorem s_Holding_tellChange (l : Launch) (D : va_G) (kc : Nat → ClassId) (b : Nat) (f : Nat → va_E) (a1 a2 : Int32) (hX0 : XS b kc f) : mMi l yX2_tellChange cX2_tellChange 3 .int 1 0 0 D kc b 220 f [.ref (b + 183), .int a1, .int a2] (fun r u => XS b kc u.2 ∧ u.1 = 220 ∧ (∀ j, 192 ≤ j → u.2 j = f j) ∧ True) := by
  refine m_beg_i (by decide) (Nat.le_of_ble_eq_true rfl) ?_
  intro p e s m args below meth c Q C hnm ret hM ls hl
  obtain ⟨hx, hb, hml, hown, hts, hE, hbs⟩ := id C
  obtain ⟨L0, L1, L2, Lm⟩ := m_l01
  have hl : lv_has ls 3 [(0, .ref (b + 183)), (1, .int a1), (2, .int a2)] := hl
  refine lv_iload_n hx hb dX2_tellChange_0 rfl (lv_at hl 1 rfl) ?_
  refine t_if_lt (tgt := 19) (a := a1.toInt) hx hb rfl dX2_tellChange_1 (by decide) (fun c1 => ?_) (fun c1 => ?_)
  · refine lv_iconst (v := (-1)) hx hb dX2_tellChange_19 (by decide) ?_
    exact ret 220 f _ _ _ _ (-1) hM ⟨hX0, rfl, (fun _ _ => rfl), trivial⟩ dX2_tellChange_20
  · refine lv_iload_n hx hb dX2_tellChange_4 rfl (lv_at hl 1 rfl) ?_
    refine lv_aload_n hx hb dX2_tellChange_5 rfl (lv_at hl 0 rfl) ?_
    obtain ⟨z3, z4, z5, z6, z7, z8, z9, o2⟩ := hX0.b 183 (by decide) (by decide)
    refine m_get fl_X2_101_X2 C hM (i := 183) (by omega) o2 (v := .int z9) rfl dX2_tellChange_6 ?_
    refine t_icmp_ge (tgt := 19) (a := a1.toInt) (d := z9.toInt) hx hb rfl rfl dX2_tellChange_9 (by decide) (fun c10 => ?_) (fun c10 => ?_)
    · refine lv_iconst (v := (-1)) hx hb dX2_tellChange_19 (by decide) ?_
      exact ret 220 f _ _ _ _ (-1) hM ⟨hX0, rfl, (fun _ _ => rfl), trivial⟩ dX2_tellChange_20
    · refine lv_iload_n hx hb dX2_tellChange_12 rfl (lv_at hl 1 rfl) ?_
      refine lv_sipush (v := 150) hx hb dX2_tellChange_13 (by decide) ?_
      refine t_icmp_lt (tgt := 21) (a := a1.toInt) (d := 150) hx hb rfl (by decide) dX2_tellChange_16 (by decide) (fun c11 => ?_) (fun c11 => ?_)
      · refine lv_iload_n hx hb dX2_tellChange_21 rfl (lv_at hl 2 rfl) ?_
        by_cases s12 : a2 = 0
        · subst s12
          refine lv_tableIn (tgt := 48) hx hb dX2_tellChange_22 (by decide) (by decide) rfl (by decide) ?_
          refine lv_aload_n hx hb dX2_tellChange_48 rfl (lv_at hl 0 rfl) ?_
          refine m_get fl_X2_24_X2 C hM (i := 183) (by omega) o2 (v := .ref (b + 187)) rfl dX2_tellChange_49 ?_
          refine lv_iload_n hx hb dX2_tellChange_52 rfl (lv_at hl 1 rfl) ?_
          obtain ⟨g14, o13⟩ := hX0.b 187 (by decide) (by decide)
          refine m_iald C hM (j := 187) (by omega) o13 (t_in rfl (by omega) (by omega)) dX2_tellChange_53 ?_
          exact ret 220 f _ _ _ _ ((g14) a1.toNatClampNeg) hM ⟨hX0, rfl, (fun _ _ => rfl), trivial⟩ dX2_tellChange_54
        by_cases s15 : a2 = 1
        · subst s15
          refine lv_tableIn (tgt := 55) hx hb dX2_tellChange_22 (by decide) (by decide) rfl (by decide) ?_
          refine lv_aload_n hx hb dX2_tellChange_55 rfl (lv_at hl 0 rfl) ?_
          refine m_get fl_X2_27_X2 C hM (i := 183) (by omega) o2 (v := .ref (b + 188)) rfl dX2_tellChange_56 ?_
          refine lv_iload_n hx hb dX2_tellChange_59 rfl (lv_at hl 1 rfl) ?_
          obtain ⟨g17, o16⟩ := hX0.b 188 (by decide) (by decide)
          refine m_iald C hM (j := 188) (by omega) o16 (t_in rfl (by omega) (by omega)) dX2_tellChange_60 ?_
          exact ret 220 f _ _ _ _ ((g17) a1.toNatClampNeg) hM ⟨hX0, rfl, (fun _ _ => rfl), trivial⟩ dX2_tellChange_61
        by_cases s18 : a2 = 2
        · subst s18
          refine lv_tableIn (tgt := 62) hx hb dX2_tellChange_22 (by decide) (by decide) rfl (by decide) ?_
          refine lv_aload_n hx hb dX2_tellChange_62 rfl (lv_at hl 0 rfl) ?_
          refine m_get fl_X2_30_X2 C hM (i := 183) (by omega) o2 (v := .ref (b + 189)) rfl dX2_tellChange_63 ?_
          refine lv_iload_n hx hb dX2_tellChange_66 rfl (lv_at hl 1 rfl) ?_
          obtain ⟨g20, o19⟩ := hX0.b 189 (by decide) (by decide)
          refine m_iald C hM (j := 189) (by omega) o19 (t_in rfl (by omega) (by omega)) dX2_tellChange_67 ?_
          exact ret 220 f _ _ _ _ ((g20) a1.toNatClampNeg) hM ⟨hX0, rfl, (fun _ _ => rfl), trivial⟩ dX2_tellChange_68
        refine lv_tableOut (tgt := 69) hx hb dX2_tellChange_22 (m_swOut 0 2 (fun k h1 h2 => (by have h3 : k = 0 ∨ k = 1 ∨ k = 2 := (by omega); rcases h3 with rfl | rfl | rfl <;> assumption))) (by decide) ?_
        refine lv_iconst (v := (-1)) hx hb dX2_tellChange_69 (by decide) ?_
        exact ret 220 f _ _ _ _ (-1) hM ⟨hX0, rfl, (fun _ _ => rfl), trivial⟩ dX2_tellChange_70
      · refine lv_iconst (v := (-1)) hx hb dX2_tellChange_19 (by decide) ?_
        exact ret 220 f _ _ _ _ (-1) hM ⟨hX0, rfl, (fun _ _ => rfl), trivial⟩ dX2_tellChange_20
set_option maxHeartbeats 4000000 in
set_option maxRecDepth 100000 in
theorem s_MP_isBlank (l : Launch) (D : va_G) (kc : Nat → ClassId) (b : Nat) (f : Nat → va_E) (a1 : Int32) (hX0 : XS b kc f) : mMi l yX11_isBlank cX11_isBlank 1 .boolean 1 0 0 D kc b 220 f [.int a1] (fun r u => XS b kc u.2 ∧ u.1 = 220 ∧ (∀ j, 192 ≤ j → u.2 j = f j) ∧ True) := by
  refine m_beg_z (by decide) (Nat.le_of_ble_eq_true rfl) ?_
  intro p e s m args below meth c Q C hnm ret hM ls hl
  obtain ⟨hx, hb, hml, hown, hts, hE, hbs⟩ := id C
  obtain ⟨L0, L1, L2, Lm⟩ := m_l01
  have hl : lv_has ls 1 [(0, .int a1)] := hl
  refine lv_iload_n hx hb dX11_isBlank_0 rfl (lv_at hl 0 rfl) ?_
  refine lv_bipush (v := 32) hx hb dX11_isBlank_1 (by decide) ?_
  refine t_icmp_eq (tgt := 12) (a := a1.toInt) (d := 32) hx hb rfl (by decide) dX11_isBlank_3 (by decide) (fun c1 => ?_) (fun c1 => ?_)
  · refine lv_iconst (v := 1) hx hb dX11_isBlank_12 (by decide) ?_
    refine lv_goto (tgt := 17) hx hb dX11_isBlank_13 (by decide) ?_
    exact ret 220 f _ _ _ _ 1 hM ⟨hX0, rfl, (fun _ _ => rfl), trivial⟩ (by first | rfl | decide) dX11_isBlank_17
  · refine lv_iload_n hx hb dX11_isBlank_6 rfl (lv_at hl 0 rfl) ?_
    refine lv_bipush (v := 10) hx hb dX11_isBlank_7 (by decide) ?_
    refine t_icmp_ne (tgt := 16) (a := a1.toInt) (d := 10) hx hb rfl (by decide) dX11_isBlank_9 (by decide) (fun c2 => ?_) (fun c2 => ?_)
    · refine lv_iconst (v := 0) hx hb dX11_isBlank_16 (by decide) ?_
      exact ret 220 f _ _ _ _ 0 hM ⟨hX0, rfl, (fun _ _ => rfl), trivial⟩ (by first | rfl | decide) dX11_isBlank_17
    · refine lv_iconst (v := 1) hx hb dX11_isBlank_12 (by decide) ?_
      refine lv_goto (tgt := 17) hx hb dX11_isBlank_13 (by decide) ?_
      exact ret 220 f _ _ _ _ 1 hM ⟨hX0, rfl, (fun _ _ => rfl), trivial⟩ (by first | rfl | decide) dX11_isBlank_17
set_option maxHeartbeats 4000000 in
set_option maxRecDepth 100000 in
theorem s_MP_isSmall (l : Launch) (D : va_G) (kc : Nat → ClassId) (b : Nat) (f : Nat → va_E) (a1 : Int32) (hX0 : XS b kc f) : mMi l yX11_isSmall cX11_isSmall 1 .boolean 1 0 0 D kc b 220 f [.int a1] (fun r u => XS b kc u.2 ∧ u.1 = 220 ∧ (∀ j, 192 ≤ j → u.2 j = f j) ∧ True) := by
  refine m_beg_z (by decide) (Nat.le_of_ble_eq_true rfl) ?_
  intro p e s m args below meth c Q C hnm ret hM ls hl
  obtain ⟨hx, hb, hml, hown, hts, hE, hbs⟩ := id C
  obtain ⟨L0, L1, L2, Lm⟩ := m_l01
  have hl : lv_has ls 1 [(0, .int a1)] := hl
  refine lv_iload_n hx hb dX11_isSmall_0 rfl (lv_at hl 0 rfl) ?_
  refine lv_bipush (v := 97) hx hb dX11_isSmall_1 (by decide) ?_
  refine t_icmp_lt (tgt := 16) (a := a1.toInt) (d := 97) hx hb rfl (by decide) dX11_isSmall_3 (by decide) (fun c1 => ?_) (fun c1 => ?_)
  · refine lv_iconst (v := 0) hx hb dX11_isSmall_16 (by decide) ?_
    exact ret 220 f _ _ _ _ 0 hM ⟨hX0, rfl, (fun _ _ => rfl), trivial⟩ (by first | rfl | decide) dX11_isSmall_17
  · refine lv_iload_n hx hb dX11_isSmall_6 rfl (lv_at hl 0 rfl) ?_
    refine lv_bipush (v := 122) hx hb dX11_isSmall_7 (by decide) ?_
    refine t_icmp_gt (tgt := 16) (a := a1.toInt) (d := 122) hx hb rfl (by decide) dX11_isSmall_9 (by decide) (fun c2 => ?_) (fun c2 => ?_)
    · refine lv_iconst (v := 0) hx hb dX11_isSmall_16 (by decide) ?_
      exact ret 220 f _ _ _ _ 0 hM ⟨hX0, rfl, (fun _ _ => rfl), trivial⟩ (by first | rfl | decide) dX11_isSmall_17
    · refine lv_iconst (v := 1) hx hb dX11_isSmall_12 (by decide) ?_
      refine lv_goto (tgt := 17) hx hb dX11_isSmall_13 (by decide) ?_
      exact ret 220 f _ _ _ _ 1 hM ⟨hX0, rfl, (fun _ _ => rfl), trivial⟩ (by first | rfl | decide) dX11_isSmall_17
set_option maxHeartbeats 4000000 in
set_option maxRecDepth 100000 in
theorem s_MP_isDigit (l : Launch) (D : va_G) (kc : Nat → ClassId) (b : Nat) (f : Nat → va_E) (a1 : Int32) (hX0 : XS b kc f) : mMi l yX11_isDigit cX11_isDigit 1 .boolean 1 0 0 D kc b 220 f [.int a1] (fun r u => XS b kc u.2 ∧ u.1 = 220 ∧ (∀ j, 192 ≤ j → u.2 j = f j) ∧ True) := by
  refine m_beg_z (by decide) (Nat.le_of_ble_eq_true rfl) ?_
  intro p e s m args below meth c Q C hnm ret hM ls hl
  obtain ⟨hx, hb, hml, hown, hts, hE, hbs⟩ := id C
  obtain ⟨L0, L1, L2, Lm⟩ := m_l01
  have hl : lv_has ls 1 [(0, .int a1)] := hl
  refine lv_iload_n hx hb dX11_isDigit_0 rfl (lv_at hl 0 rfl) ?_
  refine lv_bipush (v := 48) hx hb dX11_isDigit_1 (by decide) ?_
  refine t_icmp_lt (tgt := 16) (a := a1.toInt) (d := 48) hx hb rfl (by decide) dX11_isDigit_3 (by decide) (fun c1 => ?_) (fun c1 => ?_)
  · refine lv_iconst (v := 0) hx hb dX11_isDigit_16 (by decide) ?_
    exact ret 220 f _ _ _ _ 0 hM ⟨hX0, rfl, (fun _ _ => rfl), trivial⟩ (by first | rfl | decide) dX11_isDigit_17
  · refine lv_iload_n hx hb dX11_isDigit_6 rfl (lv_at hl 0 rfl) ?_
    refine lv_bipush (v := 57) hx hb dX11_isDigit_7 (by decide) ?_
    refine t_icmp_gt (tgt := 16) (a := a1.toInt) (d := 57) hx hb rfl (by decide) dX11_isDigit_9 (by decide) (fun c2 => ?_) (fun c2 => ?_)
    · refine lv_iconst (v := 0) hx hb dX11_isDigit_16 (by decide) ?_
      exact ret 220 f _ _ _ _ 0 hM ⟨hX0, rfl, (fun _ _ => rfl), trivial⟩ (by first | rfl | decide) dX11_isDigit_17
    · refine lv_iconst (v := 1) hx hb dX11_isDigit_12 (by decide) ?_
      refine lv_goto (tgt := 17) hx hb dX11_isDigit_13 (by decide) ?_
      exact ret 220 f _ _ _ _ 1 hM ⟨hX0, rfl, (fun _ _ => rfl), trivial⟩ (by first | rfl | decide) dX11_isDigit_17
set_option maxHeartbeats 4000000 in
set_option maxRecDepth 100000 in
theorem s_MP_end (l : Launch) (D : va_G) (kc : Nat → ClassId) (b : Nat) (f : Nat → va_E) (a1 : Int32) (hX0 : XS b kc f) : mMi l yX11_end cX11_end 2 .int 1 0 0 D kc b 220 f [.ref (b + 0), .int a1] (fun r u => XS b kc u.2 ∧ u.1 = 220 ∧ (∀ j, 192 ≤ j → u.2 j = f j) ∧ True) := by
  refine m_beg_i (by decide) (Nat.le_of_ble_eq_true rfl) ?_
  intro p e s m args below meth c Q C hnm ret hM ls hl
  obtain ⟨hx, hb, hml, hown, hts, hE, hbs⟩ := id C
  obtain ⟨L0, L1, L2, Lm⟩ := m_l01
  have hl : lv_has ls 2 [(0, .ref (b + 0)), (1, .int a1)] := hl
  refine lv_iload_n hx hb dX11_end_0 rfl (lv_at hl 1 rfl) ?_
  refine t_if_lt (tgt := 15) (a := a1.toInt) hx hb rfl dX11_end_1 (by decide) (fun c1 => ?_) (fun c1 => ?_)
  · refine lv_iconst (v := (-1)) hx hb dX11_end_15 (by decide) ?_
    exact ret 220 f _ _ _ _ (-1) hM ⟨hX0, rfl, (fun _ _ => rfl), trivial⟩ dX11_end_16
  · refine lv_iload_n hx hb dX11_end_4 rfl (lv_at hl 1 rfl) ?_
    refine lv_aload_n hx hb dX11_end_5 rfl (lv_at hl 0 rfl) ?_
    have o2 : f 0 = .inr (11, [.ref (b + 1), .ref (b + 3), .ref (b + 4), .ref (b + 6), .ref (b + 8), .ref (b + 10), .ref (b + 174), .ref (b + 177), .ref (b + 178), .ref (b + 181), .ref (b + 183), .ref (b + 190)]) := hX0.a 0 (by decide)
    refine m_get fl_X11_12_X11 C hM (i := 0) (by omega) o2 (v := .ref (b + 1)) rfl dX11_end_6 ?_
    obtain ⟨z4, b5, o3⟩ := hX0.a 1 (by decide)
    refine m_getN fl_X11_87_X10 C hM (i := 1) (by omega) o3 (v := .int z4) rfl dX11_end_9 ?_
    refine t_icmp_le (tgt := 17) (a := a1.toInt) (d := z4.toInt) hx hb rfl rfl dX11_end_12 (by decide) (fun c6 => ?_) (fun c6 => ?_)
    · refine lv_aload_n hx hb dX11_end_17 rfl (lv_at hl 0 rfl) ?_
      refine m_get fl_X11_12_X11 C hM (i := 0) (by omega) o2 (v := .ref (b + 1)) rfl dX11_end_18 ?_
      refine lv_iload_n hx hb dX11_end_21 rfl (lv_at hl 1 rfl) ?_
      refine m_putN fl_X11_87_X10 C hM (i := 1) (by omega) o3 rfl rfl (Nat.le_of_ble_eq_true rfl) (fs1 := [.ref (b + 2), .int a1]) rfl dX11_end_22 (fun H locs f1 ef1 hM => ?_)
      refine lv_iload_n hx hb dX11_end_25 rfl (lv_at hl 1 rfl) ?_
      have hX1 : XS b kc f1 := hX0.set ef1 (okX_a (by decide) ⟨a1, (by first | omega | decide), rfl⟩)
      have fr7 : ∀ j, 192 ≤ j → f1 j = f j := fun j hj => m_ne ef1 rfl (by omega)
      exact ret 220 f1 _ _ _ _ a1 hM ⟨hX1, rfl, fr7, trivial⟩ dX11_end_26
    · refine lv_iconst (v := (-1)) hx hb dX11_end_15 (by decide) ?_
      exact ret 220 f _ _ _ _ (-1) hM ⟨hX0, rfl, (fun _ _ => rfl), trivial⟩ dX11_end_16
set_option maxHeartbeats 4000000 in
set_option maxRecDepth 100000 in
theorem s_MP_fault (l : Launch) (D : va_G) (kc : Nat → ClassId) (b : Nat) (f : Nat → va_E) (a1 : Int32) (hX0 : XS b kc f) : mMi l yX11_fault cX11_fault 2 .int 1 0 0 D kc b 220 f [.ref (b + 0), .int a1] (fun r u => XS b kc u.2 ∧ u.1 = 220 ∧ (∀ j, 192 ≤ j → u.2 j = f j) ∧ True) := by
  refine m_beg_i (by decide) (Nat.le_of_ble_eq_true rfl) ?_
  intro p e s m args below meth c Q C hnm ret hM ls hl
  obtain ⟨hx, hb, hml, hown, hts, hE, hbs⟩ := id C
  obtain ⟨L0, L1, L2, Lm⟩ := m_l01
  have hl : lv_has ls 2 [(0, .ref (b + 0)), (1, .int a1)] := hl
  refine lv_iload_n hx hb dX11_fault_0 rfl (lv_at hl 1 rfl) ?_
  refine t_if_ne (tgt := 12) (a := a1.toInt) hx hb rfl dX11_fault_1 (by decide) (fun c1 => ?_) (fun c1 => ?_)
  · refine lv_iload_n hx hb dX11_fault_12 rfl (lv_at hl 1 rfl) ?_
    refine lv_iconst (v := 1) hx hb dX11_fault_13 (by decide) ?_
    refine t_icmp_ne (tgt := 27) (a := a1.toInt) (d := 1) hx hb rfl (by decide) dX11_fault_14 (by decide) (fun c2 => ?_) (fun c2 => ?_)
    · refine lv_iconst (v := (-1)) hx hb dX11_fault_27 (by decide) ?_
      exact ret 220 f _ _ _ _ (-1) hM ⟨hX0, rfl, (fun _ _ => rfl), trivial⟩ dX11_fault_28
    · refine lv_aload_n hx hb dX11_fault_17 rfl (lv_at hl 0 rfl) ?_
      have o3 : f 0 = .inr (11, [.ref (b + 1), .ref (b + 3), .ref (b + 4), .ref (b + 6), .ref (b + 8), .ref (b + 10), .ref (b + 174), .ref (b + 177), .ref (b + 178), .ref (b + 181), .ref (b + 183), .ref (b + 190)]) := hX0.a 0 (by decide)
      refine m_get fl_X11_19_X11 C hM (i := 0) (by omega) o3 (v := .ref (b + 3)) rfl dX11_fault_18 ?_
      obtain ⟨z5, z6, o4⟩ := hX0.a 3 (by decide)
      refine m_getN fl_X11_123_X1 C hM (i := 3) (by omega) o4 (v := .int z6) rfl dX11_fault_21 ?_
      refine lv_goto (tgt := 28) hx hb dX11_fault_24 (by decide) ?_
      exact ret 220 f _ _ _ _ z6 hM ⟨hX0, rfl, (fun _ _ => rfl), trivial⟩ dX11_fault_28
  · refine lv_aload_n hx hb dX11_fault_4 rfl (lv_at hl 0 rfl) ?_
    have o7 : f 0 = .inr (11, [.ref (b + 1), .ref (b + 3), .ref (b + 4), .ref (b + 6), .ref (b + 8), .ref (b + 10), .ref (b + 174), .ref (b + 177), .ref (b + 178), .ref (b + 181), .ref (b + 183), .ref (b + 190)]) := hX0.a 0 (by decide)
    refine m_get fl_X11_19_X11 C hM (i := 0) (by omega) o7 (v := .ref (b + 3)) rfl dX11_fault_5 ?_
    obtain ⟨z9, z10, o8⟩ := hX0.a 3 (by decide)
    refine m_getN fl_X11_120_X1 C hM (i := 3) (by omega) o8 (v := .int z9) rfl dX11_fault_8 ?_
    exact ret 220 f _ _ _ _ z9 hM ⟨hX0, rfl, (fun _ _ => rfl), trivial⟩ dX11_fault_11
set_option maxHeartbeats 4000000 in
set_option maxRecDepth 100000 in
theorem s_MP_costs (l : Launch) (D : va_G) (kc : Nat → ClassId) (b : Nat) (f : Nat → va_E) (a1 a2 : Int32) (hX0 : XS b kc f) : mMi l yX11_costs cX11_costs 3 .int 1 0 0 D kc b 220 f [.ref (b + 0), .int a1, .int a2] (fun r u => XS b kc u.2 ∧ u.1 = 220 ∧ (∀ j, 192 ≤ j → u.2 j = f j) ∧ True) := by
  refine m_beg_i (by decide) (Nat.le_of_ble_eq_true rfl) ?_
  intro p e s m args below meth c Q C hnm ret hM ls hl
  obtain ⟨hx, hb, hml, hown, hts, hE, hbs⟩ := id C
  obtain ⟨L0, L1, L2, Lm⟩ := m_l01
  have hl : lv_has ls 3 [(0, .ref (b + 0)), (1, .int a1), (2, .int a2)] := hl
  refine lv_iload_n hx hb dX11_costs_0 rfl (lv_at hl 1 rfl) ?_
  refine lv_iconst (v := 1) hx hb dX11_costs_1 (by decide) ?_
  refine t_icmp_lt (tgt := 22) (a := a1.toInt) (d := 1) hx hb rfl (by decide) dX11_costs_2 (by decide) (fun c1 => ?_) (fun c1 => ?_)
  · refine lv_bipush (v := (-2)) hx hb dX11_costs_22 (by decide) ?_
    exact ret 220 f _ _ _ _ (-2) hM ⟨hX0, rfl, (fun _ _ => rfl), trivial⟩ dX11_costs_24
  · refine lv_iload_n hx hb dX11_costs_5 rfl (lv_at hl 1 rfl) ?_
    refine lv_bipush (v := 9) hx hb dX11_costs_6 (by decide) ?_
    refine t_icmp_gt (tgt := 22) (a := a1.toInt) (d := 9) hx hb rfl (by decide) dX11_costs_8 (by decide) (fun c2 => ?_) (fun c2 => ?_)
    · refine lv_bipush (v := (-2)) hx hb dX11_costs_22 (by decide) ?_
      exact ret 220 f _ _ _ _ (-2) hM ⟨hX0, rfl, (fun _ _ => rfl), trivial⟩ dX11_costs_24
    · refine lv_iload_n hx hb dX11_costs_11 rfl (lv_at hl 2 rfl) ?_
      refine lv_iconst (v := 1) hx hb dX11_costs_12 (by decide) ?_
      refine t_icmp_lt (tgt := 22) (a := a2.toInt) (d := 1) hx hb rfl (by decide) dX11_costs_13 (by decide) (fun c3 => ?_) (fun c3 => ?_)
      · refine lv_bipush (v := (-2)) hx hb dX11_costs_22 (by decide) ?_
        exact ret 220 f _ _ _ _ (-2) hM ⟨hX0, rfl, (fun _ _ => rfl), trivial⟩ dX11_costs_24
      · refine lv_iload_n hx hb dX11_costs_16 rfl (lv_at hl 2 rfl) ?_
        refine lv_bipush (v := 9) hx hb dX11_costs_17 (by decide) ?_
        refine t_icmp_le (tgt := 25) (a := a2.toInt) (d := 9) hx hb rfl (by decide) dX11_costs_19 (by decide) (fun c4 => ?_) (fun c4 => ?_)
        · refine lv_aload_n hx hb dX11_costs_25 rfl (lv_at hl 0 rfl) ?_
          have o5 : f 0 = .inr (11, [.ref (b + 1), .ref (b + 3), .ref (b + 4), .ref (b + 6), .ref (b + 8), .ref (b + 10), .ref (b + 174), .ref (b + 177), .ref (b + 178), .ref (b + 181), .ref (b + 183), .ref (b + 190)]) := hX0.a 0 (by decide)
          refine m_get fl_X11_76_X11 C hM (i := 0) (by omega) o5 (v := .ref (b + 183)) rfl dX11_costs_26 ?_
          refine lv_iload_n hx hb dX11_costs_29 rfl (lv_at hl 1 rfl) ?_
          obtain ⟨z7, z8, z9, z10, z11, z12, z13, o6⟩ := hX0.b 183 (by decide) (by decide)
          refine m_putN fl_X11_174_X2 C hM (i := 183) (by omega) o6 rfl rfl (Nat.le_of_ble_eq_true rfl) (fs1 := [.ref (b + 184), .ref (b + 186), .ref (b + 187), .ref (b + 188), .ref (b + 189), .int a1, .int z8, .int z9, .int z10, .int z11, .int z12, .int z13]) rfl dX11_costs_30 (fun H locs f1 ef1 hM => ?_)
          refine lv_aload_n hx hb dX11_costs_33 rfl (lv_at hl 0 rfl) ?_
          have k14 : f1 0 = .inr (11, [.ref (b + 1), .ref (b + 3), .ref (b + 4), .ref (b + 6), .ref (b + 8), .ref (b + 10), .ref (b + 174), .ref (b + 177), .ref (b + 178), .ref (b + 181), .ref (b + 183), .ref (b + 190)]) := m_ne ef1 o5 (by omega)
          refine m_get fl_X11_76_X11 C hM (i := 0) (by omega) k14 (v := .ref (b + 183)) rfl dX11_costs_34 ?_
          refine lv_iload_n hx hb dX11_costs_37 rfl (lv_at hl 2 rfl) ?_
          have k15 : f1 183 = .inr (2, [.ref (b + 184), .ref (b + 186), .ref (b + 187), .ref (b + 188), .ref (b + 189), .int a1, .int z8, .int z9, .int z10, .int z11, .int z12, .int z13]) := m_eq ef1
          refine m_putN fl_X11_177_X2 C hM (i := 183) (by omega) k15 rfl rfl (Nat.le_of_ble_eq_true rfl) (fs1 := [.ref (b + 184), .ref (b + 186), .ref (b + 187), .ref (b + 188), .ref (b + 189), .int a1, .int a2, .int z9, .int z10, .int z11, .int z12, .int z13]) rfl dX11_costs_38 (fun H locs f2 ef2 hM => ?_)
          refine lv_iconst (v := 1) hx hb dX11_costs_41 (by decide) ?_
          have hX1 : XS b kc f1 := hX0.set ef1 (okX_b (by decide) ⟨a1, z8, z9, z10, z11, z12, z13, rfl⟩)
          have hX2 : XS b kc f2 := hX1.set ef2 (okX_b (by decide) ⟨a1, a2, z9, z10, z11, z12, z13, rfl⟩)
          have fr16 : ∀ j, 192 ≤ j → f1 j = f j := fun j hj => m_ne ef1 rfl (by omega)
          have fr17 : ∀ j, 192 ≤ j → f2 j = f j := fun j hj => m_ne ef2 (fr16 j hj) (by omega)
          exact ret 220 f2 _ _ _ _ 1 hM ⟨hX2, rfl, fr17, trivial⟩ dX11_costs_42
        · refine lv_bipush (v := (-2)) hx hb dX11_costs_22 (by decide) ?_
          exact ret 220 f _ _ _ _ (-2) hM ⟨hX0, rfl, (fun _ _ => rfl), trivial⟩ dX11_costs_24
