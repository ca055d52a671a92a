/-! making cells, calls, beginnings and ends of methods, over the heap as a map -/
def mR (d mc ms : Nat) : Room := { frames := d, cells := mc, slots := ms, locals := 64 * d }
def mPre (D : va_G) (kc : Nat → ClassId) (b n : Nat) (f : Nat → va_E) (U : State) : Prop := mP D b n f U.heap ∧ mE D kc b U U.heap
abbrev mB (D : va_G) (b : Nat) : Nat × (Nat → va_E) → State → Prop := fun u t => mP D b u.1 u.2 t.heap
theorem m_blind {D : va_G} {kc : Nat → ClassId} {b n : Nat} {f : Nat → va_E} {as : List Value} : FrameBlind (va_Pc as (mPre D kc b n f)) := by
  intro a U g mk h
  exact ⟨h.1, h.2.1, mE.same (s := U) (U := U.calling g mk a) (H := U.heap) rfl h.2.2⟩
abbrev mMi (l : Launch) (y : MethodName) (bytes : ByteArray) (maxL : Nat) (ret : FieldType) (d mc ms : Nat) (D : va_G) (kc : Nat → ClassId) (b n : Nat) (f : Nat → va_E) (as : List Value) (post : Int32 → Nat × (Nat → va_E) → Prop) : Prop := Met l y (.code y bytes maxL (some ret) :: GW) (mR d mc ms) (va_Pc as (mPre D kc b n f)) (va_Qi post (mB D b) (fun q => b ≤ q)) mc ms (fun q => b ≤ q)
abbrev mMl (l : Launch) (y : MethodName) (bytes : ByteArray) (maxL : Nat) (ret : FieldType) (d mc ms : Nat) (D : va_G) (kc : Nat → ClassId) (b n : Nat) (f : Nat → va_E) (as : List Value) (post : Int64 → Nat × (Nat → va_E) → Prop) : Prop := Met l y (.code y bytes maxL (some ret) :: GW) (mR d mc ms) (va_Pc as (mPre D kc b n f)) (va_Ql post (mB D b) (fun q => b ≤ q)) mc ms (fun q => b ≤ q)
abbrev mMq (l : Launch) (y : MethodName) (bytes : ByteArray) (maxL : Nat) (ret : FieldType) (d mc ms : Nat) (D : va_G) (kc : Nat → ClassId) (b n : Nat) (f : Nat → va_E) (as : List Value) (post : Option Nat → Nat × (Nat → va_E) → Prop) : Prop := Met l y (.code y bytes maxL (some ret) :: GW) (mR d mc ms) (va_Pc as (mPre D kc b n f)) (va_Qq post (mB D b) (fun q => b ≤ q)) mc ms (fun q => b ≤ q)
abbrev mMv (l : Launch) (y : MethodName) (bytes : ByteArray) (maxL : Nat) (d mc ms : Nat) (D : va_G) (kc : Nat → ClassId) (b n : Nat) (f : Nat → va_E) (as : List Value) (post : Nat × (Nat → va_E) → Prop) : Prop := Met l y (.code y bytes maxL none :: GW) (mR d mc ms) (va_Pc as (mPre D kc b n f)) (va_Qv post (mB D b) (fun q => b ≤ q)) mc ms (fun q => b ≤ q)
/-- what the tables say of a method that is called -/
def mCal (y : MethodName) (bytes : ByteArray) (maxL : Nat) (ret : Option FieldType) (Cn : String) (na : Nat) : Prop := Cond.code y bytes maxL ret ∈ GW ∧ Cond.instanceMethod y ∈ GW ∧ Cond.selects Cn y y ∈ GW ∧ Cond.initialized y.cls ∈ GW ∧ (y.cls ≠ "java/lang/invoke/MethodHandle" ∧ y.cls ≠ "java/lang/invoke/VarHandle" ∧ (parseMethodDescriptor y.desc).map (fun d => d.parameters.length) = some na)
def mCalS (y : MethodName) (bytes : ByteArray) (maxL : Nat) (ret : Option FieldType) (na : Nat) : Prop := Cond.code y bytes maxL ret ∈ GW ∧ Cond.static y ∈ GW ∧ Cond.initialized y.cls ∈ GW ∧ (y.cls ≠ "java/lang/invoke/MethodHandle" ∧ y.cls ≠ "java/lang/invoke/VarHandle" ∧ (parseMethodDescriptor y.desc).map (fun d => d.parameters.length) = some na)
def mCalI (y : MethodName) (bytes : ByteArray) (maxL : Nat) (na : Nat) : Prop := Cond.code y bytes maxL none ∈ GW ∧ Cond.instanceMethod y ∈ GW ∧ Cond.initialized y.cls ∈ GW ∧ y.name = "<init>" ∧ (y.cls ≠ "java/lang/invoke/MethodHandle" ∧ y.cls ≠ "java/lang/invoke/VarHandle" ∧ (parseMethodDescriptor y.desc).map (fun d => d.parameters.length) = some na)
theorem m_start {l : Launch} {y : MethodName} {bytes : ByteArray} {maxL : Nat} {ret : Option FieldType} {rm : Room} {as : List Value} {Qc : Array Value → State → Outcome → State → Prop} {mc ms : Nat} {free : Addr → Prop} {D : va_G} {kc : Nat → ClassId} {b n : Nat} {f : Nat → va_E} (hy : plainName y.cls = true) (hlen : (lg_sl as).length ≤ maxL)
    (body : ∀ (p : Program) (e : Env) (s : State) (m : MethodId) (below : List Frame) (meth : Method) (c : Code), mC p s m as.toArray c bytes maxL y.cls D kc b → meth.sig.returnType = ret → meth.locks = false → meth.name = y.name → mS D b s n f s.heap [] → ∀ ls : Array Slot, lv_has ls maxL (lv_args 0 as) → W p l e rm s m as.toArray below meth c s.heap [] 0 0 (MQ below Qc as.toArray s mc ms free) (F0 m 0 ls [])) :
    Met l y (.code y bytes maxL ret :: GW) rm (va_Pc as (mPre D kc b n f)) Qc mc ms free := by
  refine Met.ofW (cc := bytes) (maxL := maxL) (ret := ret) hy rfl ?_
  intro p e s m args below meth c s₁ B hml hv
  obtain ⟨rfl, hP, hE⟩ := hv
  have hts := atoms_spec (ws := .code y bytes maxL ret :: GW) B.pre
  have hown : s.vm.findClass y.cls = some m.cls := findClass_of_methodNamed B.named
  have hl := lv_entry as (n := maxL) hlen
  rw [lg_entry_eq]
  have hP1 := hP.1
  exact body p e s m below meth c ⟨B.exec, B.bytes, hml, hown, fun w hw => hts w (List.mem_cons_of_mem _ hw), hE, by omega⟩ B.returns B.notSynchronized (name_of_methodNamed B.named B.method).1 ⟨hP, va_S.rf⟩ _ hl
section MC
variable {p : Program} {l : Launch} {e : Env} {R : Room} {s : State} {m : MethodId} {args : Array Value} {below : List Frame} {meth : Method} {c : Code} {H : Heap} {locs : List Loc} {cells slots : Nat} {Q : State → Prop}
variable {cc : ByteArray} {pc nL : Nat} {ls : Array Slot} {rest : List Value} {own : String} {D : va_G} {kc : Nat → ClassId} {b n : Nat} {f : Nat → va_E}
theorem m_new {Cn : String} {index ci N : Nat} {fs : List Value} (K : mCls Cn index own ci N fs) (C : mC p s m args c cc nL own D kc b) (hM : mS D b s n f H locs) (hcells : cells + 1 ≤ R.cells) (hslots : slots + N ≤ R.slots) (hdg : decode cc pc = .ok (.new index, 3))
    (kk : ∀ (H1 : Heap) (f1 : Nat → va_E), f1 = va_up f n (.inr (ci, fs)) → mS D b s (n + 1) f1 H1 locs → W p l e R s m args below meth c H1 locs (cells + 1) (slots + N) Q (F0 m (pc + 3) ls (.ref (b + n) :: rest))) : W p l e R s m args below meth c H locs cells slots Q (F0 m pc ls rest) := by
  obtain ⟨hx, hb, hml, hown, hts, hE, hbs⟩ := C
  obtain ⟨T, ty, hc, hin, hty, hfs, hcl, hinst, hini⟩ := K
  have hKn := hE.1.1 ci _ hc
  refine W.newcK hx hb hown (hts _ hcl) (hts _ hinst) (hts _ hini) rfl hdg hcells hslots hKn.2.1 hM.1.1 fun H1 kC hkC e1 z1 o1 => ?_
  have h0 := hM.1.1
  exact kk H1 _ rfl (hM.push (by omega) (fun q hq => o1 q (by omega)) ⟨_, hc, (u_born ty hts hin hKn hkC e1 hty).to hfs⟩)
theorem m_newa {atype : ArrayType} {ty : FieldType} (hty : newarray.typeOf atype = ty) (hw : Cond.arrayClass ty ∈ GW) (t : Nat) (ht : (mT kc)[t]? = some (kc t, ty)) (hra : va_RA s (kc t) ty → s.vm.findClass ("[" ++ ty.toString) = some (kc t)) (C : mC p s m args c cc nL own D kc b) (hM : mS D b s n f H locs) {x : Int32} {N' : Nat} {a0 : vp_A} (ha : ∀ cA : ClassId, vp_cell cA a0 = arrV cA N' (fun _ => defaultValue ty)) (hn : ¬ x < 0) (hN : x.toNatClampNeg = N') (hbytes : N' * componentBytes ty ≤ 536870912) (hcells : cells + 1 ≤ R.cells) (hslots : slots + N' ≤ R.slots) (hdg : decode cc pc = .ok (.newarray atype, 2))
    (kk : ∀ (H1 : Heap) (f1 : Nat → va_E), f1 = va_up f n (.inl (kc t, a0)) → mS D b s (n + 1) f1 H1 locs → W p l e R s m args below meth c H1 locs (cells + 1) (slots + N') Q (F0 m (pc + 2) ls (.ref (b + n) :: rest))) : W p l e R s m args below meth c H locs cells slots Q (F0 m pc ls (.int x :: rest)) := by
  obtain ⟨hx, hb, hml, hown, hts, hE, hbs⟩ := C
  subst hty
  refine va_newaK hx hb (hts _ hw) rfl hdg rfl hn hN hbytes hcells hslots hM.1.1 fun H1 cA e1 z1 o1 hAr hNm => ?_
  have hcA : cA = kc t := Option.some.inj (hNm.symm.trans (hra (hE.1.2 t _ ht).2))
  have h0 := hM.1.1
  refine kk H1 _ rfl (hM.push (by omega) (fun q hq => o1 q (by omega)) ?_)
  show H1[b + n]? = some (vp_cell _ _)
  rw [e1, ha, hcA]
theorem m_newq {index : Nat} (hcl : Cond.classLink own index RX3 ∈ GW) (C : mC p s m args c cc nL own D kc b) (hM : mS D b s n f H locs) {x : Int32} {N' : Nat} (hn : ¬ x < 0) (hN : x.toNatClampNeg = N') (hbytes : N' * 4 ≤ 536870912) (hcells : cells + 1 ≤ R.cells) (hslots : slots + N' ≤ R.slots) (hdg : decode cc pc = .ok (.anewarray index, 3))
    (kk : ∀ (H1 : Heap) (f1 : Nat → va_E), f1 = va_up f n (.inl (kc 4, N', .inr (.inr (.inr (.inr (fun _ => none)))))) → mS D b s (n + 1) f1 H1 locs → W p l e R s m args below meth c H1 locs (cells + 1) (slots + N') Q (F0 m (pc + 3) ls (.ref (b + n) :: rest))) : W p l e R s m args below meth c H locs cells slots Q (F0 m pc ls (.int x :: rest)) := by
  obtain ⟨hx, hb, hml, hown, hts, hE, hbs⟩ := C
  subst hN
  refine W.anew hx hb hown (hts _ hcl) (va_AO.use hE.2.2.1) rfl hdg rfl hn hbytes hcells hslots fun cA kA comp f1 f2 f3 f4 => ?_
  obtain ⟨kA', comp', g1, g2, g3, g4⟩ := (hE.1.2 4 _ rfl).2
  have hcA : cA = kc 4 := Option.some.inj (f1.symm.trans g4)
  have h0 := hM.1.1
  generalize hH1 : H.push ({ cls := cA, slots := Array.replicate x.toNatClampNeg .null, vm := .none } : Cell) = H1
  have z1 : H1.size = H.size + 1 := by rw [← hH1, Array.size_push]
  have e1 : H1[H.size]? = some (arrV cA x.toNatClampNeg (fun _ => .null)) := by rw [← hH1, Array.getElem?_push_size, ← arrV_new]
  have o1 : ∀ q : Nat, q < H.size → H1[q]? = H[q]? := fun q hq => by rw [← hH1, Array.getElem?_push, if_neg (Nat.ne_of_lt hq)]
  have hW := kk H1 _ rfl (hM.push z1 o1 (by show H1[b + n]? = some (vp_cell _ _); rw [vp_cell_q, ← h0, e1, hcA]; rfl))
  rw [← h0] at hW
  exact hW
theorem m_objInit {index : Nat} (hl : Cond.methodLink own index objectInit ∈ GW) (hi : Cond.instanceMethod objectInit ∈ GW) (hc : Cond.code objectInit ⟨#[0xb1]⟩ 1 none ∈ GW) (C : mC p s m args c cc nL own D kc b) (hls : ls.size = nL) {a : Addr} (hdg : decode cc pc = .ok (.invokespecial index, 3)) (hframes : 1 ≤ R.frames) (hlocals : (rest.map fun v => v.category).sum + 12 ≤ R.locals)
    (kk : W p l e R s m args below meth c H locs cells slots Q (F0 m (pc + 3) ls rest)) : W p l e R s m args below meth c H locs cells slots Q (F0 m pc ls (.ref a :: rest)) := by
  obtain ⟨hx, hb, hml, hown, hts, hE, hbs⟩ := C
  refine W.objInit hx hb hown (hts _ hl) (hts _ hi) (hts _ hc) rfl (by rw [hml]; exact hls) rfl hdg hframes (by show 2 * 0 + _ + 12 ≤ _; omega) ?_
  exact kk
theorem m_preU {as : List Value} (C : mC p s m args c cc nL own D kc b) (hM : mS D b s n f H locs) : ∀ U : State, U.heap = H → s.WarmedH U.vm → va_Pc as (mPre D kc b n f) as.toArray U := by
  intro U hU hW
  obtain ⟨hx, hb, hml, hown, hts, hE, hbs⟩ := C
  exact ⟨rfl, by rw [hU]; exact hM.1, by rw [hU]; exact hE.warm hW (fun a h1 h2 => hM.2.2.1 a h1 h2)⟩
variable {y : MethodName} {bytes : ByteArray} {maxL d mc ms na index i : Nat} {ret : Option FieldType} {Qc : Array Value → State → Outcome → State → Prop} {free : Addr → Prop} {Cn host : String} {as st : List Value}
theorem m_runV (K : mCal y bytes maxL ret Cn na) (hl : Cond.methodLink own index y ∈ GW) (hMet : Met l y (.code y bytes maxL ret :: GW) (mR d mc ms) (va_Pc (.ref (b + i) :: as) (mPre D kc b n f)) Qc mc ms free) (C : mC p s m args c cc nL own D kc b) (hM : mS D b s n f H locs) (hi : i < n) {ci : Nat} {fs : List Value} (hf : f i = .inr (ci, fs)) {T : u_T} {N : Nat} (hci : vwCl[ci]? = some (Cn, T, N)) (hls : ls.size = nL) (hn : as.length = na) (hst : st = as.reverse ++ .ref (b + i) :: rest) (hW : (rest.map fun v => v.category).sum ≤ 8) (hdg : decode cc pc = .ok (.invokevirtual index, 3)) (hR : d + 1 ≤ R.frames ∧ 8 + (maxL + 11) + 64 * d ≤ R.locals) (hcs : cells + mc ≤ R.cells ∧ slots + ms ≤ R.slots) :
    va_Run p l e R s m args below meth c H locs cells slots mc ms (F0 m pc ls st) rest (Qc (Value.ref (b + i) :: as).toArray) free := by
  obtain ⟨k1, k2, k3, k4, k5⟩ := K
  have hpre := m_preU (as := .ref (b + i) :: as) C hM
  obtain ⟨hx, hb, hml, hown, hts, hE, hbs⟩ := C
  exact va_runV (Ts := GW) (own := own) (C := Cn) (bytes := bytes) (maxL := maxL) (ret := ret) (n := na) ⟨hx, hb, hml, hown, hts⟩ hMet ⟨callB_of na hts (gw_good0 k1) rfl rfl rfl (hts _ k4) (hts _ hl) k5 hR, hts _ k2, hts _ k3⟩ ⟨m_blind, va_recv (q0 := 0) hE.1 (hM.1.one hi hf) hci rfl, hpre⟩ rfl hn hls hst (lv_room hW) hdg hcs
theorem m_runVN (K : mCal y bytes maxL ret Cn na) (hl : Cond.methodLinkNest own index y host ∈ NW) (hMet : Met l y (.code y bytes maxL ret :: GW) (mR d mc ms) (va_Pc (.ref (b + i) :: as) (mPre D kc b n f)) Qc mc ms free) (C : mC p s m args c cc nL own D kc b) (hM : mS D b s n f H locs) (hi : i < n) {ci : Nat} {fs : List Value} (hf : f i = .inr (ci, fs)) {T : u_T} {N : Nat} (hci : vwCl[ci]? = some (Cn, T, N)) (hls : ls.size = nL) (hn : as.length = na) (hst : st = as.reverse ++ .ref (b + i) :: rest) (hW : (rest.map fun v => v.category).sum ≤ 8) (hdg : decode cc pc = .ok (.invokevirtual index, 3)) (hR : d + 1 ≤ R.frames ∧ 8 + (maxL + 11) + 64 * d ≤ R.locals) (hcs : cells + mc ≤ R.cells ∧ slots + ms ≤ R.slots) :
    va_Run p l e R s m args below meth c H locs cells slots mc ms (F0 m pc ls st) rest (Qc (Value.ref (b + i) :: as).toArray) free := by
  obtain ⟨k1, k2, k3, k4, k5⟩ := K
  have hpre := m_preU (as := .ref (b + i) :: as) C hM
  obtain ⟨hx, hb, hml, hown, hts, hE, hbs⟩ := C
  exact va_runVN (Ts := GW) (own := own) (C := Cn) (bytes := bytes) (maxL := maxL) (ret := ret) (n := na) ⟨hx, hb, hml, hown, hts⟩ hMet ⟨va_cnB na hts (gw_good0 k1) rfl rfl rfl (hE.2.1 _ hl) (hts _ k4) k5 hR, hts _ k2, hts _ k3⟩ ⟨m_blind, va_recv (q0 := 0) hE.1 (hM.1.one hi hf) hci rfl, hpre⟩ rfl hn hls hst (lv_room hW) hdg hcs
theorem m_runS (K : mCalS y bytes maxL ret na) (hl : Cond.methodLink own index y ∈ GW) (hMet : Met l y (.code y bytes maxL ret :: GW) (mR d mc ms) (va_Pc as (mPre D kc b n f)) Qc mc ms free) (C : mC p s m args c cc nL own D kc b) (hM : mS D b s n f H locs) (hls : ls.size = nL) (hn : as.length = na) (hst : st = as.reverse ++ rest) (hW : (rest.map fun v => v.category).sum ≤ 8) (hdg : decode cc pc = .ok (.invokestatic index, 3)) (hR : d + 1 ≤ R.frames ∧ 8 + (maxL + 11) + 64 * d ≤ R.locals) (hcs : cells + mc ≤ R.cells ∧ slots + ms ≤ R.slots) :
    va_Run p l e R s m args below meth c H locs cells slots mc ms (F0 m pc ls st) rest (Qc as.toArray) free := by
  obtain ⟨k1, k2, k4, k5⟩ := K
  have hpre := m_preU (as := as) C hM
  obtain ⟨hx, hb, hml, hown, hts, hE, hbs⟩ := C
  exact va_runS (Ts := GW) (own := own) (bytes := bytes) (maxL := maxL) (ret := ret) (n := na) ⟨hx, hb, hml, hown, hts⟩ hMet ⟨callB_of na hts (gw_good0 k1) rfl rfl rfl (hts _ k4) (hts _ hl) k5 hR, hts _ k2⟩ ⟨m_blind, hpre⟩ rfl hn hls hst (lv_room hW) hdg hcs
theorem m_runSN (K : mCalS y bytes maxL ret na) (hl : Cond.methodLinkNest own index y host ∈ NW) (hMet : Met l y (.code y bytes maxL ret :: GW) (mR d mc ms) (va_Pc as (mPre D kc b n f)) Qc mc ms free) (C : mC p s m args c cc nL own D kc b) (hM : mS D b s n f H locs) (hls : ls.size = nL) (hn : as.length = na) (hst : st = as.reverse ++ rest) (hW : (rest.map fun v => v.category).sum ≤ 8) (hdg : decode cc pc = .ok (.invokestatic index, 3)) (hR : d + 1 ≤ R.frames ∧ 8 + (maxL + 11) + 64 * d ≤ R.locals) (hcs : cells + mc ≤ R.cells ∧ slots + ms ≤ R.slots) :
    va_Run p l e R s m args below meth c H locs cells slots mc ms (F0 m pc ls st) rest (Qc as.toArray) free := by
  obtain ⟨k1, k2, k4, k5⟩ := K
  have hpre := m_preU (as := as) C hM
  obtain ⟨hx, hb, hml, hown, hts, hE, hbs⟩ := C
  exact va_runSN (Ts := GW) (own := own) (bytes := bytes) (maxL := maxL) (ret := ret) (n := na) ⟨hx, hb, hml, hown, hts⟩ hMet ⟨va_cnB na hts (gw_good0 k1) rfl rfl rfl (hE.2.1 _ hl) (hts _ k4) k5 hR, hts _ k2, trivial⟩ ⟨m_blind, hpre⟩ rfl hn hls hst (lv_room hW) hdg hcs
theorem m_runI (K : mCalI y bytes maxL na) (hl : Cond.methodLink own index y ∈ GW) (hMet : Met l y (.code y bytes maxL none :: GW) (mR d mc ms) (va_Pc (.ref (b + i) :: as) (mPre D kc b n f)) Qc mc ms free) (C : mC p s m args c cc nL own D kc b) (hM : mS D b s n f H locs) (hls : ls.size = nL) (hn : as.length = na) (hst : st = as.reverse ++ .ref (b + i) :: rest) (hW : (rest.map fun v => v.category).sum ≤ 8) (hdg : decode cc pc = .ok (.invokespecial index, 3)) (hR : d + 1 ≤ R.frames ∧ 8 + (maxL + 11) + 64 * d ≤ R.locals) (hcs : cells + mc ≤ R.cells ∧ slots + ms ≤ R.slots) :
    va_Run p l e R s m args below meth c H locs cells slots mc ms (F0 m pc ls st) rest (Qc (Value.ref (b + i) :: as).toArray) free := by
  obtain ⟨k1, k2, k4, k6, k5⟩ := K
  have hpre := m_preU (as := .ref (b + i) :: as) C hM
  obtain ⟨hx, hb, hml, hown, hts, hE, hbs⟩ := C
  exact va_runI (Ts := GW) (own := own) (bytes := bytes) (maxL := maxL) (n := na) ⟨hx, hb, hml, hown, hts⟩ hMet ⟨callB_of na hts (gw_good0 k1) rfl rfl rfl (hts _ k4) (hts _ hl) k5 hR, k6, hts _ k2⟩ ⟨m_blind, hpre⟩ rfl hn hls hst (lv_room hW) hdg hcs
theorem m_runIN (K : mCalI y bytes maxL na) (hl : Cond.methodLinkNest own index y host ∈ NW) (hMet : Met l y (.code y bytes maxL none :: GW) (mR d mc ms) (va_Pc (.ref (b + i) :: as) (mPre D kc b n f)) Qc mc ms free) (C : mC p s m args c cc nL own D kc b) (hM : mS D b s n f H locs) (hls : ls.size = nL) (hn : as.length = na) (hst : st = as.reverse ++ .ref (b + i) :: rest) (hW : (rest.map fun v => v.category).sum ≤ 8) (hdg : decode cc pc = .ok (.invokespecial index, 3)) (hR : d + 1 ≤ R.frames ∧ 8 + (maxL + 11) + 64 * d ≤ R.locals) (hcs : cells + mc ≤ R.cells ∧ slots + ms ≤ R.slots) :
    va_Run p l e R s m args below meth c H locs cells slots mc ms (F0 m pc ls st) rest (Qc (Value.ref (b + i) :: as).toArray) free := by
  obtain ⟨k1, k2, k4, k6, k5⟩ := K
  have hpre := m_preU (as := .ref (b + i) :: as) C hM
  obtain ⟨hx, hb, hml, hown, hts, hE, hbs⟩ := C
  exact va_runIN (Ts := GW) (own := own) (bytes := bytes) (maxL := maxL) (n := na) ⟨hx, hb, hml, hown, hts⟩ hMet ⟨va_cnB na hts (gw_good0 k1) rfl rfl rfl (hE.2.1 _ hl) (hts _ k4) k5 hR, k6, hts _ k2⟩ ⟨m_blind, hpre⟩ rfl hn hls hst (lv_room hW) hdg hcs
variable {a : Array Value}
theorem m_goi {post : Int32 → Nat × (Nat → va_E) → Prop} (hr : va_Run p l e R s m args below meth c H locs cells slots mc ms (F0 m pc ls st) rest (va_Qi post (mB D b) (fun q => b ≤ q) a) (fun q => b ≤ q)) (hM : mS D b s n f H locs) (kk : ∀ (r : Int32) (n1 : Nat) (f1 : Nat → va_E) (H1 : Heap) (locs1 : List Loc), post r (n1, f1) → mS D b s n1 f1 H1 locs1 → W p l e R s m args below meth c H1 locs1 (cells + mc) (slots + ms) Q (F0 m (pc + 3) ls (.int r :: rest))) : W p l e R s m args below meth c H locs cells slots Q (F0 m pc ls st) :=
  va_calli hr hM.2 (fun _ _ h => h) (fun _ h => h) (fun r u t H1 locs1 ht hvm hp hB hz hk hS => kk r u.1 u.2 H1 locs1 hp ⟨by rw [← ht]; exact hB, hS⟩)
theorem m_gol {post : Int64 → Nat × (Nat → va_E) → Prop} (hr : va_Run p l e R s m args below meth c H locs cells slots mc ms (F0 m pc ls st) rest (va_Ql post (mB D b) (fun q => b ≤ q) a) (fun q => b ≤ q)) (hM : mS D b s n f H locs) (kk : ∀ (r : Int64) (n1 : Nat) (f1 : Nat → va_E) (H1 : Heap) (locs1 : List Loc), post r (n1, f1) → mS D b s n1 f1 H1 locs1 → W p l e R s m args below meth c H1 locs1 (cells + mc) (slots + ms) Q (F0 m (pc + 3) ls (.long r :: rest))) : W p l e R s m args below meth c H locs cells slots Q (F0 m pc ls st) :=
  va_calll hr hM.2 (fun _ _ h => h) (fun _ h => h) (fun r u t H1 locs1 ht hvm hp hB hz hk hS => kk r u.1 u.2 H1 locs1 hp ⟨by rw [← ht]; exact hB, hS⟩)
theorem m_goq {post : Option Nat → Nat × (Nat → va_E) → Prop} (hr : va_Run p l e R s m args below meth c H locs cells slots mc ms (F0 m pc ls st) rest (va_Qq post (mB D b) (fun q => b ≤ q) a) (fun q => b ≤ q)) (hM : mS D b s n f H locs) (kk : ∀ (r : Option Nat) (n1 : Nat) (f1 : Nat → va_E) (H1 : Heap) (locs1 : List Loc), post r (n1, f1) → mS D b s n1 f1 H1 locs1 → W p l e R s m args below meth c H1 locs1 (cells + mc) (slots + ms) Q (F0 m (pc + 3) ls (va_rf r :: rest))) : W p l e R s m args below meth c H locs cells slots Q (F0 m pc ls st) :=
  va_callq hr hM.2 (fun _ _ h => h) (fun _ h => h) (fun r u t H1 locs1 ht hvm hp hB hz hk hS => kk r u.1 u.2 H1 locs1 hp ⟨by rw [← ht]; exact hB, hS⟩)
theorem m_gov {post : Nat × (Nat → va_E) → Prop} (hr : va_Run p l e R s m args below meth c H locs cells slots mc ms (F0 m pc ls st) rest (va_Qv post (mB D b) (fun q => b ≤ q) a) (fun q => b ≤ q)) (hM : mS D b s n f H locs) (kk : ∀ (n1 : Nat) (f1 : Nat → va_E) (H1 : Heap) (locs1 : List Loc), post (n1, f1) → mS D b s n1 f1 H1 locs1 → W p l e R s m args below meth c H1 locs1 (cells + mc) (slots + ms) Q (F0 m (pc + 3) ls rest)) : W p l e R s m args below meth c H locs cells slots Q (F0 m pc ls st) :=
  va_callv hr hM.2 (fun _ _ h => h) (fun _ h => h) (fun u t H1 locs1 ht hvm hp hB hz hk hS => kk u.1 u.2 H1 locs1 hp ⟨by rw [← ht]; exact hB, hS⟩)
theorem m_iret {post : Int32 → Nat × (Nat → va_E) → Prop} (C : mC p s m args c cc nL own D kc b) (hr : meth.sig.returnType = some .int) (hlk : meth.locks = false) (hM : mS D b s n f H locs) {v : Int32} (hp : post v (n, f)) (hdg : decode cc pc = .ok (.ireturn, 1)) : W p l e R s m args below meth c H locs cells slots (MQ below (va_Qi post (mB D b) (fun q => b ≤ q)) args s cells slots (fun q => b ≤ q)) (F0 m pc ls [.int v]) :=
  W.iret C.1 C.2.1 hr (fun t ht hW => ⟨⟨v, (n, f), rfl, hp, by show mP D b n f t.heap; rw [ht]; exact hM.1⟩, hM.2.F ht⟩) hM.2.2.2 hdg hlk
theorem m_zret {post : Int32 → Nat × (Nat → va_E) → Prop} {ty : FieldType} (C : mC p s m args c cc nL own D kc b) (hr : meth.sig.returnType = some ty) (hlk : meth.locks = false) (hM : mS D b s n f H locs) {v : Int32} (hn : narrow ty (.int v) = .int v) (hp : post v (n, f)) (hdg : decode cc pc = .ok (.ireturn, 1)) : W p l e R s m args below meth c H locs cells slots (MQ below (va_Qi post (mB D b) (fun q => b ≤ q)) args s cells slots (fun q => b ≤ q)) (F0 m pc ls [.int v]) :=
  W.zret C.1 C.2.1 hr hn (fun t ht hW => ⟨⟨v, (n, f), rfl, hp, by show mP D b n f t.heap; rw [ht]; exact hM.1⟩, hM.2.F ht⟩) hM.2.2.2 hdg hlk
theorem m_lret {post : Int64 → Nat × (Nat → va_E) → Prop} (C : mC p s m args c cc nL own D kc b) (hr : meth.sig.returnType = some .long) (hlk : meth.locks = false) (hM : mS D b s n f H locs) {v : Int64} (hp : post v (n, f)) (hdg : decode cc pc = .ok (.lreturn, 1)) : W p l e R s m args below meth c H locs cells slots (MQ below (va_Ql post (mB D b) (fun q => b ≤ q)) args s cells slots (fun q => b ≤ q)) (F0 m pc ls [.long v]) :=
  W.lret C.1 C.2.1 hr (fun t ht hW => ⟨⟨v, (n, f), rfl, hp, by show mP D b n f t.heap; rw [ht]; exact hM.1⟩, hM.2.F ht⟩) hM.2.2.2 hdg hlk
theorem m_vret {post : Nat × (Nat → va_E) → Prop} (C : mC p s m args c cc nL own D kc b) (hr : meth.sig.returnType = none) (hlk : meth.locks = false) (hM : mS D b s n f H locs) (hp : post (n, f)) (hdg : decode cc pc = .ok (.return_, 1)) : W p l e R s m args below meth c H locs cells slots (MQ below (va_Qv post (mB D b) (fun q => b ≤ q)) args s cells slots (fun q => b ≤ q)) (F0 m pc ls []) :=
  W.vret C.1 C.2.1 hr (fun t ht hW => ⟨⟨(n, f), rfl, hp, by show mP D b n f t.heap; rw [ht]; exact hM.1⟩, hM.2.F ht⟩) hM.2.2.2 hdg hlk
theorem m_qret {post : Option Nat → Nat × (Nat → va_E) → Prop} {C0 : String} (C : mC p s m args c cc nL own D kc b) (hr : meth.sig.returnType = some (.object C0)) (hlk : meth.locks = false) (hM : mS D b s n f H locs) {v : Option Nat} (hp : post v (n, f)) (hdg : decode cc pc = .ok (.areturn, 1)) : W p l e R s m args below meth c H locs cells slots (MQ below (va_Qq post (mB D b) (fun q => b ≤ q)) args s cells slots (fun q => b ≤ q)) (F0 m pc ls [va_rf v]) :=
  W.aret C.1 C.2.1 hr (Or.inl ⟨_, rfl⟩) (by cases v with | none => exact Or.inl rfl | some a => exact Or.inr ⟨a, rfl⟩) (fun t ht hW => ⟨⟨v, (n, f), rfl, hp, by show mP D b n f t.heap; rw [ht]; exact hM.1⟩, hM.2.F ht⟩) hM.2.2.2 hdg hlk
end MC
