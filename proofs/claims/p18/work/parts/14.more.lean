/-! methods with an exception table; statics; an array's clone -/
abbrev mMw (l : Launch) (y : MethodName) (bytes : ByteArray) (maxL : Nat) (ret : FieldType) (hh : List (Nat × Nat × Nat × Nat)) (d mc ms : Nat) (D : va_G) (kc : Nat → ClassId) (b n : Nat) (f : Nat → va_E) (as : List Value) (post : Int32 → Nat × (Nat → va_E) → Prop) : Prop := Met l y (.codeWith y bytes maxL (some ret) hh :: GW) (mR d mc ms) (va_Pc as (mPre D kc b n f)) (va_Qi post (mB D b) (fun q => b ≤ q)) mc ms (fun q => b ≤ q)
theorem m_startW {l : Launch} {y : MethodName} {bytes : ByteArray} {maxL : Nat} {ret : Option FieldType} {hh : List (Nat × Nat × Nat × Nat)} {rm : Room} {as : List Value} {Qc : Array Value → State → Outcome → State → Prop} {mc ms : Nat} {free : Addr → Prop} {D : va_G} {kc : Nat → ClassId} {b n : Nat} {f : Nat → va_E} (hy : plainName y.cls = true) (hlen : (lg_sl as).length ≤ maxL)
    (body : ∀ (p : Program) (e : Env) (s : State) (m : MethodId) (below : List Frame) (meth : Method) (c : Code), mC p s m as.toArray c bytes maxL y.cls D kc b → meth.sig.returnType = ret → meth.locks = false → meth.name = y.name → mS D b s n f s.heap [] → ∀ ls : Array Slot, lv_has ls maxL (lv_args 0 as) → W p l e rm s m as.toArray below meth c s.heap [] 0 0 (MQ below Qc as.toArray s mc ms free) (F0 m 0 ls [])) :
    Met l y (.codeWith y bytes maxL ret hh :: GW) rm (va_Pc as (mPre D kc b n f)) Qc mc ms free := by
  refine va_MetW (cc := bytes) (maxL := maxL) (ret := ret) (hh := hh) hy rfl ?_
  intro p e s m args below meth c s₁ B hml hv
  obtain ⟨rfl, hP, hE⟩ := hv
  have hts := atoms_spec (ws := .codeWith y bytes maxL ret hh :: GW) B.pre
  have hown : s.vm.findClass y.cls = some m.cls := findClass_of_methodNamed B.named
  have hl := lv_entry as (n := maxL) hlen
  rw [lg_entry_eq]
  have hP1 := hP.1
  exact body p e s m below meth c ⟨B.exec, B.bytes, hml, hown, fun w hw => hts w (List.mem_cons_of_mem _ hw), hE, by omega⟩ B.returns B.notSynchronized (name_of_methodNamed B.named B.method).1 ⟨hP, va_S.rf⟩ _ hl
def mCalW (y : MethodName) (bytes : ByteArray) (maxL : Nat) (ret : Option FieldType) (hh : List (Nat × Nat × Nat × Nat)) (Cn : String) (na : Nat) : Prop := Cond.codeWith y bytes maxL ret hh ∈ GW ∧ Cond.instanceMethod y ∈ GW ∧ Cond.selects Cn y y ∈ GW ∧ Cond.initialized y.cls ∈ GW ∧ (y.cls ≠ "java/lang/invoke/MethodHandle" ∧ y.cls ≠ "java/lang/invoke/VarHandle" ∧ (parseMethodDescriptor y.desc).map (fun d => d.parameters.length) = some na)
section MW
variable {p : Program} {l : Launch} {e : Env} {R : Room} {s : State} {m : MethodId} {args : Array Value} {below : List Frame} {meth : Method} {c : Code} {H : Heap} {locs : List Loc} {cells slots : Nat} {Q : State → Prop}
variable {cc : ByteArray} {pc nL : Nat} {ls : Array Slot} {rest : List Value} {own : String} {D : va_G} {kc : Nat → ClassId} {b n : Nat} {f : Nat → va_E}
variable {y : MethodName} {bytes : ByteArray} {maxL d mc ms na index i : Nat} {ret : Option FieldType} {hh : List (Nat × Nat × Nat × Nat)} {Qc : Array Value → State → Outcome → State → Prop} {free : Addr → Prop} {Cn host : String} {as st : List Value}
theorem m_runVW (K : mCalW y bytes maxL ret hh Cn na) (hl : Cond.methodLink own index y ∈ GW) (hMet : Met l y (.codeWith y bytes maxL ret hh :: GW) (mR d mc ms) (va_Pc (.ref (b + i) :: as) (mPre D kc b n f)) Qc mc ms free) (C : mC p s m args c cc nL own D kc b) (hM : mS D b s n f H locs) (hi : i < n) {ci : Nat} {fs : List Value} (hf : f i = .inr (ci, fs)) {T : u_T} {N : Nat} (hci : vwCl[ci]? = some (Cn, T, N)) (hls : ls.size = nL) (hn : as.length = na) (hst : st = as.reverse ++ .ref (b + i) :: rest) (hW : (rest.map fun v => v.category).sum ≤ 8) (hdg : decode cc pc = .ok (.invokevirtual index, 3)) (hR : d + 1 ≤ R.frames ∧ 8 + (maxL + 11) + 64 * d ≤ R.locals) (hcs : cells + mc ≤ R.cells ∧ slots + ms ≤ R.slots) :
    va_Run p l e R s m args below meth c H locs cells slots mc ms (F0 m pc ls st) rest (Qc (Value.ref (b + i) :: as).toArray) free := by
  obtain ⟨k1, k2, k3, k4, k5⟩ := K
  have hpre := m_preU (as := .ref (b + i) :: as) C hM
  obtain ⟨hx, hb, hml, hown, hts, hE, hbs⟩ := C
  have hws : ∀ w ∈ (Cond.codeWith y bytes maxL ret hh :: GW), ∀ (a' : Array Value) (U : State), s.WarmedH U.vm → w.before a' U = true := pay_in hts (gw_good0 k1)
  have hK : Back l R p e below s args y 3 8 (PreOf R mc ms (va_Pc (.ref (b + i) :: as) (mPre D kc b n f))) (PostOf Qc mc ms free) := va_backW (hh := hh) (bytes := bytes) (maxL := maxL) (ret := ret) hMet m_blind rfl rfl hR.1 hR.2 hws List.mem_cons_self (fun a' U hW => word_at hW (good_of_word (List.mem_filter.mp k4).2) (hts _ k4))
  obtain ⟨cellB, hcB, hoB, hclB⟩ := va_recv (q0 := 0) hE.1 (hM.1.one hi hf) hci rfl
  obtain ⟨mk, methM, hnamed, hmethM, hstM, habM⟩ := Cond.instanceMethod_spec (hts _ k2)
  obtain ⟨m9, methM', cM, hn9, hmethM', -, -, -, -, -, -, hsigM⟩ := Cond.codeWith_spec (hts _ k1)
  cases hnamed.symm.trans hn9
  cases hmethM.symm.trans hmethM'
  obtain ⟨c2, r2, m2, q1, q2, q3, q4, kP, hkP, hkPi⟩ := Cond.selects_spec (hts _ k3)
  cases hclB.symm.trans q1
  cases (State.methodFound?_of_named hnamed ⟨k5.1, k5.2.1⟩).symm.trans q2
  cases hnamed.symm.trans q3
  intro T0 hT X
  have hselP : selectMethod e.platform s.vm cellB.cls mk = .method mk := by rw [Launch.admits_selectMethod X.admits]; exact q4
  have hlen : as.length = methM.sig.parameters.length := by
    have h2 := k5.2.2
    rw [hsigM] at h2
    exact hn.trans (Option.some.inj h2).symm
  obtain ⟨vm₁, X₁, hstep₁⟩ := X.invokevirtual hx hown (hts _ hl) hnamed hmethM hstM hkP hkPi ⟨k5.1, k5.2.1⟩ (a := b + i) (cell := cellB) (by rw [hT]; exact hcB) (fun z h => by rw [h] at hoB; cases hoB) hselP hmethM habM hkP hkPi (g := F0 m pc ls st) rfl (argsL := as) (rest := rest) hlen hst (by rw [hb]; exact hdg)
  obtain ⟨v, ⟨U', l2, c2, s2⟩, X', ⟨g', mk', t, L, e1, e2, hq, h1, hL, h2, h3⟩, hsteps⟩ := hK m meth c ⟨T0.setVm vm₁, locs, cells, slots⟩ { F0 m pc ls st with stack := rest } (.invokevirtual index) mk (Value.ref (b + i) :: as).toArray X₁ rfl (hls.trans hml.symm) (by rw [hb]; exact hdg) (lv_room hW) (X₁.named hnamed) ⟨hcs.1, hcs.2, hpre (T0.setVm vm₁) hT X₁.warmed⟩
  dsimp only [Pt.U, Pt.locs, Pt.cells, Pt.slots] at X' e1 e2 h1 h2 h3 hsteps
  subst h1; subst h2; subst h3
  exact ⟨v, (T0.setVm vm₁).calling g' mk' (Value.ref (b + i) :: as).toArray, t, U', L, hT, X', hL, e1, e2, hq, fun target h => hstep₁ _ fun acts => by rw [doInvoke_state]; exact hsteps.trans h⟩
/-- a static array of ints, cloned -/
theorem m_cloneS {t N : Nat} {g : Nat → Int32} (w1 : Cond.methodLink own index ⟨"[I", "clone", "()Ljava/lang/Object;"⟩ ∈ GW) (w2 : Cond.sameMethod "[I" "java/lang/Object" "clone" "()Ljava/lang/Object;" ∈ GW) (w3 : Cond.native ⟨"java/lang/Object", "clone", "()Ljava/lang/Object;"⟩ ∈ GW) (w4 : Cond.instanceMethod ⟨"java/lang/Object", "clone", "()Ljava/lang/Object;"⟩ ∈ GW) (w5 : Cond.selects "[I" ⟨"[I", "clone", "()Ljava/lang/Object;"⟩ ⟨"java/lang/Object", "clone", "()Ljava/lang/Object;"⟩ ∈ GW) (w6 : Cond.castable "[I" "java/lang/Cloneable" ∈ NW)
    (C : mC p s m args c cc nL own D kc b) (hM : mS D b s n f H locs) (ht : mTab b t N g s s.heap) (hls : ls.size = nL) (hframes : 1 ≤ R.frames) (hlocals : (rest.map fun v => v.category).sum + 14 ≤ R.locals) (hcells : cells + 1 ≤ R.cells) (hslots : slots + N ≤ R.slots) (hdg : decode cc pc = .ok (.invokevirtual index, 3))
    (kk : ∀ (H1 : Heap) (f1 : Nat → va_E), f1 = va_up f n (.inl (kc 1, N, .inl g)) → mS D b s (n + 1) f1 H1 locs → W p l e R s m args below meth c H1 locs (cells + 1) (slots + N) Q (F0 m (pc + 3) ls (.ref (b + n) :: rest))) : W p l e R s m args below meth c H locs cells slots Q (F0 m pc ls (.ref t :: rest)) := by
  obtain ⟨hx, hb, hml, hown, hts, hE, hbs⟩ := C
  obtain ⟨cell, g1, g2, g3, g4, g5, g6, g7⟩ := ht
  have hlt := (Array.getElem?_eq_some_iff.mp g1).1
  have hcH : H[t]? = some cell := by rw [hM.2.2.1 t hlt g7]; exact g1
  have hnm := va_nm_int (hE.1.2 1 _ rfl).2
  have hcls : cell.cls = kc 1 := Option.some.inj (g2.symm.trans hnm)
  obtain ⟨c0, t0', f1, f2, f3⟩ := Cond.castable_spec (va_Nw.use (A := args) rfl (hE.2.1 _ w6))
  cases g2.symm.trans f1
  have hcellE : ({ cls := cell.cls, slots := cell.slots } : Cell) = vp_cell (kc 1) (N, .inl g) := by
    rw [vp_cell_i, hcls]
    have e0 : cell.slots = (arrV (kc 1) N (fun j => .int (g j))).slots := by
      apply Array.ext
      · rw [g5, arrV_size]
      · intro i h1 h2
        have hi : i < N := by rw [← g5]; exact h1
        have a1 := g6 i hi
        have a2 := arrV_read (kc 1) (fun j => Value.int (g j)) hi
        rw [Array.getElem?_eq_getElem h1] at a1
        rw [Array.getElem?_eq_getElem h2] at a2
        exact (Option.some.inj a1).trans (Option.some.inj a2).symm
    rw [e0]
    rfl
  intro T hT X
  obtain ⟨-, kA, hkA, comp, hkind⟩ := State.isArrayOf_alike X.warmed.alike ((hE.1.2 1 _ rfl).1 0 (fun _ => .null))
  obtain ⟨-, kS, hkS, compS, hkindS⟩ := (hE.1.2 1 _ rfl).1 0 (fun _ => .null)
  obtain ⟨vm', X', st⟩ := X.cloneArray hx hown (hts _ w1) (hts _ w2) (hts _ w3) (hts _ w4) (hts _ w5) (a := t) (cell := cell) (by rw [hT]; exact hcH) (fun k h => by rw [h] at g4; cases g4) g3 g2 f2 f3
    (fun i v hv => by
      rw [hcls]
      have hk' : T.vm.classes[kc 1]? = some kA := hkA
      have hi : i < N := by rw [← g5]; exact (Array.getElem?_eq_some_iff.mp hv).1
      have hv2 : v = .int (g i) := Option.some.inj (hv.symm.trans (g6 i hi))
      subst hv2
      simp [State.fitsSlot, State.slotType?, hk', hkind, fits])
    (g := F0 m pc ls (.ref t :: rest)) rfl (by rw [hml]; exact hls) rfl (by rw [hb]; exact hdg) hframes (by show 2 * 0 + _ + 14 ≤ _; omega) hcells (by rw [g5]; exact hslots) (hloader := by rw [hcls]; exact Vm.clonesLoader_of_array hkS hkindS)
  have h0 := hM.1.1
  rw [hcellE, g5] at X'
  rw [hcellE] at st
  generalize hH1 : H.push (vp_cell (kc 1) (N, .inl g)) = H1
  have z1 : H1.size = H.size + 1 := by rw [← hH1, Array.size_push]
  have e1 : H1[H.size]? = some (vp_cell (kc 1) (N, .inl g)) := by rw [← hH1, Array.getElem?_push_size]
  have o1 : ∀ q : Nat, q < H.size → H1[q]? = H[q]? := fun q hq => by rw [← hH1, Array.getElem?_push, if_neg (Nat.ne_of_lt hq)]
  obtain ⟨t2, b1, b2⟩ := kk H1 _ rfl (hM.push z1 o1 (by show H1[b + n]? = some (vp_cell _ _); rw [← h0]; exact e1)) ((T.setVm vm').pushCell (vp_cell (kc 1) (N, .inl g))) (by rw [← hH1, ← hT]; rfl) X'
  refine ⟨t2, st t2 ?_, b2⟩
  rw [hT, h0]
  exact b1
theorem m_cast {nm : String} {i : Nat} (w : Cond.classLink own index nm ∈ GW) (C : mC p s m args c cc nL own D kc b) (hM : mS D b s n f H locs) (hi : i < n) {t : Nat} {x : vp_A} (hf : f i = .inl (kc t, x)) (hnm : s.vm.findClass nm = some (kc t)) (hdg : decode cc pc = .ok (.checkcast index, 3))
    (kk : W p l e R s m args below meth c H locs cells slots Q (F0 m (pc + 3) ls (.ref (b + i) :: rest))) : W p l e R s m args below meth c H locs cells slots Q (F0 m pc ls (.ref (b + i) :: rest)) := by
  obtain ⟨hx, hb, hml, hown, hts, hE, hbs⟩ := C
  exact va_castA hx hb hown (hts _ w) (hM.1.one hi hf) 0 rfl hnm hdg kk
end MW
