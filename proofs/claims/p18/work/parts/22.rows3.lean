/-! String constants, static tables, answers of type char and byte -/
def stl (i : Nat) : Int := ((stx i).length : Int)
def stc (i k : Nat) : Int := ((stx i).getD k 0).toInt
def num6 (k : Nat) : Int := (mNu k).toInt
theorem stl_le {i : Nat} (hi : i < 13) : (stx i).length ≤ 8 := by
  have h : ∀ j : Nat, j < 13 → (stx j).length ≤ 8 := by decide
  exact h i hi
theorem c_nar {x : Int32} {a : Int} (hx : x.toInt = a) (h1 : 0 ≤ a ∧ a < 65536) : narrow .char (.int x) = .int x := by
  have h0 : (0 : Int32).toInt = 0 := by decide
  obtain ⟨j, hj, rfl⟩ := nI_of (x := x) (by rw [Int32.lt_iff_toInt_lt]; omega)
  rw [nI_toInt hj] at hx
  exact (pk_charN (by omega)).1
section GR3
variable {p : Program} {l : Launch} {e : Env} {R : Room} {s : State} {m : MethodId} {args : Array Value} {below : List Frame} {meth : Method} {c : Code} {H : Heap} {locs : List Loc} {cells slots : Nat} {Q : State → Prop}
variable {cc : ByteArray} {pc nL : Nat} {ls : Array Slot} {rest : List Value} {own : String} {D : va_G} {kc : Nat → ClassId} {b : Nat} {J : SS → Nat → va_E} {S : SS} {ρ : Type}
variable {y : MethodName} {bytes : ByteArray} {maxL d mc ms na index a0 n : Nat} {f : Nat → va_E} {ret : Option FieldType} {Qc : Array Value → State → Outcome → State → Prop} {free : Addr → Prop} {Cn : String} {as st : List Value}
theorem m_runVK (K : mCal y bytes maxL ret Cn na) (hl : Cond.methodLink own index y ∈ GW) (hMet : Met l y (.code y bytes maxL ret :: GW) (mR d mc ms) (va_Pc (.ref a0 :: as) (mPre D kc b n f)) Qc mc ms free) (C : mC p s m args c cc nL own D kc b) (hM : mS D b s n f H locs) (hO : va_O Cn a0 (fun q => b ≤ q) s s.heap) (hls : ls.size = nL) (hn : as.length = na) (hst : st = as.reverse ++ .ref a0 :: rest) (hW : (rest.map fun v => v.category).sum ≤ 8) (hdg : decode cc pc = .ok (.invokevirtual index, 3)) (hR : d + 1 ≤ R.frames ∧ 8 + (maxL + 11) + 64 * d ≤ R.locals) (hcs : cells + mc ≤ R.cells ∧ slots + ms ≤ R.slots) :
    va_Run p l e R s m args below meth c H locs cells slots mc ms (F0 m pc ls st) rest (Qc (Value.ref a0 :: as).toArray) free := by
  obtain ⟨k1, k2, k3, k4, k5⟩ := K
  have hpre := m_preU (as := .ref a0 :: as) C hM
  obtain ⟨hx, hb, hml, hown, hts, hE, hbs⟩ := C
  exact va_runV (Ts := GW) (own := own) (C := Cn) (bytes := bytes) (maxL := maxL) (ret := ret) (n := na) ⟨hx, hb, hml, hown, hts⟩ hMet ⟨callB_of na hts (gw_good0 k1) rfl rfl rfl (hts _ k4) (hts _ hl) k5 hR, hts _ k2, hts _ k3⟩ ⟨m_blind, va_Orecv hO hM.2, hpre⟩ rfl hn hls hst (lv_room hW) hdg hcs
theorem st_O (C : mC p s m args c cc nL own D kc b) {i : Nat} (hi : i < 13) : va_O "java/lang/String" (kc (100 + i)) (fun q => b ≤ q) s s.heap := (C.2.2.2.2.2.1.2.2.2.2.2.2.2.1 i hi).1
theorem g_stcoder (C : mC p s m args c cc nL own D kc b) (hM : mS D b s n f H locs) {i : Nat} (hi : i < 13) {index : Nat} (hl : Cond.fieldLink own index "java/lang/String" "coder" "B" ∈ GW) (hdg : decode cc pc = .ok (.getfield index, 3)) (kk : W p l e R s m args below meth c H locs cells slots Q (F0 m (pc + 3) ls (.int 0 :: rest))) : W p l e R s m args below meth c H locs cells slots Q (F0 m (pc) ls (.ref (kc (100 + i)) :: rest)) :=
  vk_getf C.1 C.2.1 (C.2.2.2.2.2.1.2.2.2.2.2.2.2.1 i hi).2.1 hM.2 C.2.2.2.1 (C.2.2.2.2.1 _ hl) (fun _ h => h) hdg kk
theorem g_stvalue (C : mC p s m args c cc nL own D kc b) (hM : mS D b s n f H locs) {i : Nat} (hi : i < 13) {index : Nat} (hl : Cond.fieldLink own index "java/lang/String" "value" "[B" ∈ GW) (hdg : decode cc pc = .ok (.getfield index, 3)) (kk : W p l e R s m args below meth c H locs cells slots Q (F0 m (pc + 3) ls (.ref (kc (200 + i)) :: rest))) : W p l e R s m args below meth c H locs cells slots Q (F0 m (pc) ls (.ref (kc (100 + i)) :: rest)) :=
  vk_getf C.1 C.2.1 (C.2.2.2.2.2.1.2.2.2.2.2.2.2.1 i hi).2.2.1 hM.2 C.2.2.2.1 (C.2.2.2.2.1 _ hl) (fun _ h => h) hdg kk
theorem g_stlen (C : mC p s m args c cc nL own D kc b) (hM : mS D b s n f H locs) {i : Nat} (hi : i < 13) (hdg : decode cc pc = .ok (.arraylength, 1)) (kk : ∀ z : Int32, z.toInt = stl i → W p l e R s m args below meth c H locs cells slots Q (F0 m (pc + 1) ls (.int z :: rest))) : W p l e R s m args below meth c H locs cells slots Q (F0 m (pc) ls (.ref (kc (200 + i)) :: rest)) := by
  refine va_tlen C.1 C.2.1 (C.2.2.2.2.2.1.2.2.2.2.2.2.2.1 i hi).2.2.2 hM.2 rfl hdg (kk _ ?_)
  have h1 := stl_le hi
  exact Int32.toInt_ofNat_small (by omega)
theorem g_stld (C : mC p s m args c cc nL own D kc b) (hM : mS D b s n f H locs) {i : Nat} (hi : i < 13) {x : Int32} {a : Int} (ha : x.toInt = a) {A : Option ρ} {res : ρ} (h : w_chk (0 ≤ a ∧ a < stl i) A = some res) (hdg : decode cc pc = .ok (.baload, 1)) (kk : ∀ z : Int32, z.toInt = stc i a.toNat → A = some res → W p l e R s m args below meth c H locs cells slots Q (F0 m (pc + 1) ls (.int z :: rest))) : W p l e R s m args below meth c H locs cells slots Q (F0 m (pc) ls (.int x :: .ref (kc (200 + i)) :: rest)) := by
  obtain ⟨⟨h1, h2⟩, h⟩ := w_chkE h
  have e : x.toNatClampNeg = a.toNat := by rw [← ha]; rfl
  unfold stl at h2
  refine va_tb C.1 C.2.1 (C.2.2.2.2.2.1.2.2.2.2.2.2.2.1 i hi).2.2.2 hM.2 (vp_in_iff.mpr ⟨by omega, by omega⟩) rfl hdg (kk _ ?_ h)
  rw [e]
  rfl
theorem g_ldcS (C : mC p s m args c cc nL own D kc b) {i index : Nat} {tx : String} (hq : (own, index, tx, i) ∈ mRefs) (hdg : decode cc pc = .ok (.ldc index, 2)) (kk : W p l e R s m args below meth c H locs cells slots Q (F0 m (pc + 2) ls (.ref (kc (100 + i)) :: rest))) : W p l e R s m args below meth c H locs cells slots Q (F0 m (pc) ls (rest)) :=
  va_ldcS C.1 C.2.1 C.2.2.2.1 (C.2.2.2.2.2.1.2.2.2.2.2.2.2.2 _ hq) hdg kk
theorem g_compact (C : mC p s m args c cc nL own D kc b) (hM : mS D b s n f H locs) {index : Nat} (hl : Cond.fieldLink own index "java/lang/String" "COMPACT_STRINGS" "Z" ∈ GW) (hdg : decode cc pc = .ok (.getstatic index, 3)) (kk : W p l e R s m args below meth c H locs cells slots Q (F0 m (pc + 3) ls (.int 1 :: rest))) : W p l e R s m args below meth c H locs cells slots Q (F0 m (pc) ls (rest)) :=
  va_gets C.1 C.2.1 C.2.2.2.2.2.1.2.2.2.2.2.1 hM.2 C.2.2.2.1 (C.2.2.2.2.1 _ hl) (fun _ h => h) hdg kk
theorem g_former (C : mC p s m args c cc nL own D kc b) (hM : mS D b s n f H locs) {index : Nat} (hl : Cond.fieldLink own index "jdk/internal/util/Preconditions" "SIOOBE_FORMATTER" "Ljava/util/function/BiFunction;" ∈ GW) (hdg : decode cc pc = .ok (.getstatic index, 3)) (kk : ∀ o : Option Nat, W p l e R s m args below meth c H locs cells slots Q (F0 m (pc + 3) ls (va_rf o :: rest))) : W p l e R s m args below meth c H locs cells slots Q (F0 m (pc) ls (rest)) := by
  rcases C.2.2.2.2.2.1.2.2.2.2.2.2.1 with h | ⟨t, h⟩
  · exact va_gets C.1 C.2.1 h hM.2 C.2.2.2.1 (C.2.2.2.2.1 _ hl) (fun _ h => h) hdg (kk none)
  · exact va_gets C.1 C.2.1 h hM.2 C.2.2.2.1 (C.2.2.2.2.1 _ hl) (fun _ h => h) hdg (kk (some t))
theorem g_numsN (C : mC p s m args c cc nL own D kc b) (hM : mS D b s n f H locs) {index : Nat} {host : String} (hl : Cond.fieldLinkNest own index "MarkedProof" "NUMBERS" "[I" host ∈ NW) (hdg : decode cc pc = .ok (.getstatic index, 3)) (kk : ∀ t : Nat, va_T .int t 6 (fun j => .int (mNu j)) (fun q => b ≤ q) s s.heap → W p l e R s m args below meth c H locs cells slots Q (F0 m (pc + 3) ls (.ref t :: rest))) : W p l e R s m args below meth c H locs cells slots Q (F0 m (pc) ls (rest)) := by
  obtain ⟨t, h1, h2⟩ := C.2.2.2.2.2.1.2.2.2.2.1
  exact va_getsN C.1 C.2.1 h1 hM.2 C.2.2.2.1 (va_Nw.use rfl (C.2.2.2.2.2.1.2.1 _ hl)) (fun _ h => h) hdg (kk t h2)
theorem g_tablen (C : mC p s m args c cc nL own D kc b) (hM : mS D b s n f H locs) {t : Nat} (hT : va_T .int t 6 (fun j => .int (mNu j)) (fun q => b ≤ q) s s.heap) (hdg : decode cc pc = .ok (.arraylength, 1)) (kk : W p l e R s m args below meth c H locs cells slots Q (F0 m (pc + 1) ls (.int 6 :: rest))) : W p l e R s m args below meth c H locs cells slots Q (F0 m (pc) ls (.ref t :: rest)) :=
  va_tlen C.1 C.2.1 hT hM.2 rfl hdg kk
theorem g_tabld (C : mC p s m args c cc nL own D kc b) (hM : mS D b s n f H locs) {t : Nat} (hT : va_T .int t 6 (fun j => .int (mNu j)) (fun q => b ≤ q) s s.heap) {x : Int32} {a : Int} (ha : x.toInt = a) {A : Option ρ} {res : ρ} (h : w_chk (0 ≤ a ∧ a < 6) A = some res) (hdg : decode cc pc = .ok (.iaload, 1)) (kk : ∀ z : Int32, z.toInt = num6 a.toNat → A = some res → W p l e R s m args below meth c H locs cells slots Q (F0 m (pc + 1) ls (.int z :: rest))) : W p l e R s m args below meth c H locs cells slots Q (F0 m (pc) ls (.int x :: .ref t :: rest)) := by
  obtain ⟨⟨h1, h2⟩, h⟩ := w_chkE h
  have e : x.toNatClampNeg = a.toNat := by rw [← ha]; rfl
  refine va_ti C.1 C.2.1 hT hM.2 (vp_in_iff.mpr ⟨by omega, by omega⟩) rfl hdg (kk _ ?_ h)
  rw [e]
  rfl
end GR3
theorem g_beg_c {l : Launch} {y : MethodName} {bytes : ByteArray} {maxL d : Nat} {D : va_G} {kc : Nat → ClassId} {b : Nat} {J : SS → Nat → va_E} {S : SS} {as : List Value} {v : Int} {S1 : SS} (hy : plainName y.cls = true) (hlen : (lg_sl as).length ≤ maxL) (body : ∀ (p : Program) (e : Env) (s : State) (m : MethodId) (args : Array Value) (below : List Frame) (meth : Method) (c : Code) (Q : State → Prop), mC p s m args c bytes maxL y.cls D kc b → (∀ (S2 : SS) (H : Heap) (locs : List Loc) (ls : Array Slot) (pc : Nat) (x : Int32), x.toInt = v → narrow .char (.int x) = .int x → S2 = S1 → mS D b s 220 (J S2) H locs → rng S2 → decode bytes pc = .ok (.ireturn, 1) → W p l e (mR d 0 0) s m args below meth c H locs 0 0 Q (F0 m pc ls [.int x])) → mS D b s 220 (J S) s.heap [] → ∀ ls : Array Slot, lv_has ls maxL (lv_args 0 as) → W p l e (mR d 0 0) s m args below meth c s.heap [] 0 0 Q (F0 m 0 ls [])) : cI l y bytes maxL .char d D kc b J S as v S1 := by
  refine m_start hy hlen (fun p e s m below meth c C hr hlk hnm hM ls hl => ?_)
  exact body p e s m as.toArray below meth c _ C (fun S2 H locs ls pc x hx hz hS hM hR hd => m_zret C hr hlk hM hz ⟨hx, rfl, by rw [hS], by rw [← hS]; exact hR⟩ hd) hM ls hl
theorem g_beg_b {l : Launch} {y : MethodName} {bytes : ByteArray} {maxL d : Nat} {D : va_G} {kc : Nat → ClassId} {b : Nat} {J : SS → Nat → va_E} {S : SS} {as : List Value} {v : Int} {S1 : SS} (hy : plainName y.cls = true) (hlen : (lg_sl as).length ≤ maxL) (body : ∀ (p : Program) (e : Env) (s : State) (m : MethodId) (args : Array Value) (below : List Frame) (meth : Method) (c : Code) (Q : State → Prop), mC p s m args c bytes maxL y.cls D kc b → (∀ (S2 : SS) (H : Heap) (locs : List Loc) (ls : Array Slot) (pc : Nat) (x : Int32), x.toInt = v → narrow .byte (.int x) = .int x → S2 = S1 → mS D b s 220 (J S2) H locs → rng S2 → decode bytes pc = .ok (.ireturn, 1) → W p l e (mR d 0 0) s m args below meth c H locs 0 0 Q (F0 m pc ls [.int x])) → mS D b s 220 (J S) s.heap [] → ∀ ls : Array Slot, lv_has ls maxL (lv_args 0 as) → W p l e (mR d 0 0) s m args below meth c s.heap [] 0 0 Q (F0 m 0 ls [])) : cI l y bytes maxL .byte d D kc b J S as v S1 := by
  refine m_start hy hlen (fun p e s m below meth c C hr hlk hnm hM ls hl => ?_)
  exact body p e s m as.toArray below meth c _ C (fun S2 H locs ls pc x hx hz hS hM hR hd => m_zret C hr hlk hM hz ⟨hx, rfl, by rw [hS], by rw [← hS]; exact hR⟩ hd) hM ls hl
theorem m_room {d e maxL mc ms : Nat} (h1 : d + 1 ≤ e) (h2 : 8 + (maxL + 11) + 64 * d ≤ 64 * e) : d + 1 ≤ (mR e mc ms).frames ∧ 8 + (maxL + 11) + 64 * d ≤ (mR e mc ms).locals := ⟨h1, h2⟩
abbrev i64 (a : Int) : Prop := -9223372036854775808 ≤ a ∧ a < 9223372036854775808
