/-! throwing: a method that ends with the one Stop; a call that doesn't come back; a handler whose class is looked up at that moment -/
theorem y_go_cold {e : Env} {s : State} {f : JFrame} {a : Addr} {x : ExceptionTableEntry} {t : List ExceptionTableEntry} {c : ClassId} {cell : Cell} {vm' : Vm} (hx : covers x f.pc = true) (h0 : x.catchType ≠ 0)
    (hg : (Jvm.resolveClass f.method.cls x.catchType).Gives e.toSetting s.vm (.ok c) vm') (hsz : vm'.classes.size ≤ s.vm.classes.size) (hcell : s.heap[a]? = some cell) (hobj : ∀ k, cell.vm ≠ .statics k)
    (hk : ∃ k, vm'.classes[cell.cls]? = some k) (hc : ∃ k, vm'.classes[c]? = some k) (hfit : vm'.assignable cell.cls c = true) {Q : Handler → Jvm.Pre} {E : Jvm.CtlPost} {d : Bool} {acts : List Action} :
    Sem.wp (findHandler.go f a (x :: t)) Q E e d acts s ↔ Q (.found x.handlerPc) d acts (s.setVm vm') := by
  simp only [covers] at hx
  obtain ⟨ha, ht⟩ := hg.op (op := VmOp.resolveClass f.method.cls x.catchType) rfl
  have hcell' : (s.setVm vm').heap[a]? = some cell := hcell
  simp [findHandler.go, hx, h0, ha, ht, hsz, hcell, hobj, hk, hc, hfit, VmOp.dirties, VmOp.acts]
theorem y_step_cold {e : Env} {s : State} {a : Addr} {f : JFrame} {r : List Frame} {pc : Nat} {vm' : Vm} (hfind : ∀ (Q : Handler → Jvm.Pre) (E : Jvm.CtlPost) (d : Bool) (acts : List Action), Sem.wp (findHandler f a) Q E e d acts s ↔ Q (.found pc) d acts (s.setVm vm')) :
    (stepThrowing e s a (.java f :: r)).Is ((s.setVm vm').setFrames (.java { f with pc := pc, stack := [.ref a] } :: r)) [] := by
  simp only [stepThrowing, searchFrame, vmDo]
  generalize hr : Sem.go _ e false [] s = res
  obtain ⟨as, rfl, ha⟩ := Sem.eq_ok_of hr (a := Handler.found pc) (s' := s.setVm vm') (acts' := []) (by simp [hfind _ _ _ _])
  exact ⟨rfl, ha⟩
theorem y_caught {tb : Tables} {e : Env} {s target : State} {g : JFrame} {c : Code} {below : List Frame} {a : Addr} (h : At s g.method c below) {pc : Nat} {vm' : Vm} (hfind : ∀ (Q : Handler → Jvm.Pre) (E : Jvm.CtlPost) (d : Bool) (acts : List Action), Sem.wp (findHandler g a) Q E e d acts ((s.setTop g).pushFrame (.throwing a)) ↔ Q (.found pc) d acts (((s.setTop g).pushFrame (.throwing a)).setVm vm'))
    (hrest : Steps tb e below ((s.setVm vm').setTop { g with pc := pc, stack := [.ref a] }) target) :
    Steps tb e below ((s.setTop g).pushFrame (.throwing a)) target := by
  obtain ⟨hgo, hw⟩ := h.throwing a
  refine Steps.head hgo hw ?_
  rw [stepThread_throwing (frames_entered h.top _), (y_step_cold (s := (s.setTop g).pushFrame (.throwing a)) hfind).1]
  obtain ⟨g₀, hg⟩ := Option.isSome_iff_exists.mp h.top
  obtain ⟨r, hr⟩ := State.topJava?_eq_some.mp hg
  have hr' : (s.setVm vm').frames = .java g₀ :: r := hr
  rw [State.setTop_of_frames _ hr'] at hrest
  have e1 : (((s.setTop g).pushFrame (.throwing a)).setVm vm').setFrames (.java { g with pc := pc, stack := [.ref a] } :: s.frames.tail) = (s.setVm vm').setFrames (.java { g with pc := pc, stack := [.ref a] } :: r) := by
    rw [State.pushFrame, State.setTop_of_frames _ hr, State.setFrames_setFrames, hr]
    show ((s.setVm vm').setFrames _).setFrames _ = _
    rw [State.setFrames_setFrames]
    rfl
  rw [e1]
  exact hrest
/-- nothing has moved but what is named, however it ended -/
def FEt (first : State) (t : State) (L : List Loc) (k n : Nat) : Prop := first.WarmedH t.vm ∧ first.sameButNew ({ t with vm := first.vm } : State) L k n
/-- a method that throws the object at x -/
def MetT (l : Launch) (y : MethodName) (ws : List Cond) (rm : Room) (Pc : Array Value → State → Prop) (Qc : Array Value → State → State → Prop) (x : Addr) (free : Addr → Prop) : Prop :=
  MetFree l y (headSpec ws rm) Pc (fun _ _ _ _ _ => True) (fun a st o t => o = .threw x ∧ Qc a st t ∧ ∃ L, FEt st t L 0 0 ∧ ∀ q ∈ L, free q.base)
def MQT (below : List Frame) (Qc : Array Value → State → State → Prop) (a : Array Value) (s : State) (x : Addr) (free : Addr → Prop) : State → Prop := fun t =>
  t.status = .running ∧ Ended t below (.threw x) ∧ Qc a s t ∧ ∃ L, FEt s t L 0 0 ∧ ∀ q ∈ L, free q.base
theorem MetT.ofW {l : Launch} {y : MethodName} {ws ws' : List Cond} {rm : Room} {Pc : Array Value → State → Prop} {Qc : Array Value → State → State → Prop} {x : Addr} {free : Addr → Prop} {cc : ByteArray} {maxL : Nat} {ret : Option FieldType}
    (hy : plainName y.cls = true) (hw : ws = Cond.code y cc maxL ret :: ws')
    (body : ∀ p e s m args below meth c s₁, BodyLoose p l y (headSpec ws rm) cc maxL ret e s m args below meth c s₁ → c.maxLocals = maxL → Pc args s →
      W p l e (headSpec ws rm).room s m args below meth c s.heap [] 0 0 (MQT below Qc args s x free) (entryFrame m args maxL)) : MetT l y ws rm Pc Qc x free := by
  refine MetFree.of_bodyS (code := cc) (maxLocals := maxL) (ret := ret) hy ?_ ?_
  · intro args s m h hn
    obtain ⟨meth, c, h1, h2, h3, h4, h5, h6, -, -⟩ := Cond.code_spec hn (atoms_spec (ws := ws) h _ (by rw [hw]; exact List.mem_cons_self))
    exact ⟨meth, c, h1, h2, h3, h4, h5, h6⟩
  · intro p e s m args below meth c s₁ B hml hP _
    have hh0 : s₁.heap = s.heap := by rw [B.state]; rfl
    obtain ⟨t, a1, b1, b2, b3⟩ := body p e s m args below meth c s₁ B hml hP s₁ hh0 (Stand.of_body B)
    exact ⟨t, .threw x, a1, b1, b2, rfl, b3⟩
/-- the contract of a method that throws: the state that it leaves -/
def cT (l : Launch) (y : MethodName) (bytes : ByteArray) (maxL : Nat) (ret : Option FieldType) (d : Nat) (D : va_G) (kc : Nat → ClassId) (b : Nat) (J : SS → Nat → va_E) (S : SS) (as : List Value) (S1 : SS) : Prop :=
  MetT l y (.code y bytes maxL ret :: GW) (mR d 0 0) (va_Pc as (mPre D kc b 220 (J S))) (fun _ st t => mP D b 220 (J S1) t.heap ∧ rng S1 ∧ va_F (fun q => b ≤ q) st t) (b + 196) (fun q => b ≤ q)
/-- what the walk of a method that may throw is over: an end that returns, an end that throws -/
def gThr (p : Program) (l : Launch) (e : Env) (R : Room) (s : State) (m : MethodId) (args : Array Value) (below : List Frame) (meth : Method) (c : Code) (Q : State → Prop) (D : va_G) (b : Nat) (J : SS → Nat → va_E) (P : SS → Prop) : Prop :=
  ∀ (S2 : SS) (T : State) (locs : List Loc), Stand p l e R s m args below meth c T locs 0 0 → mS D b s 220 (J S2) T.heap locs → rng S2 → P S2 → Q (T.setFrames (.throwing (b + 196) :: below))
section GT
variable {p : Program} {l : Launch} {e : Env} {R : Room} {s : State} {m : MethodId} {args : Array Value} {below : List Frame} {meth : Method} {c : Code} {H : Heap} {locs : List Loc} {cells slots : Nat} {Q : State → Prop}
variable {cc : ByteArray} {pc nL : Nat} {ls : Array Slot} {rest : List Value} {own : String} {D : va_G} {kc : Nat → ClassId} {b : Nat} {J : SS → Nat → va_E} {S S1 : SS} {ρ : Type} {P : SS → Prop}
variable {y : MethodName} {bytes : ByteArray} {maxL d na index i : Nat} {ret : Option FieldType} {Cn : String} {as st : List Value}
theorem y_out {c : Code} (h : c.exceptionTable.isEmpty = true) (pc : Nat) : ∀ x ∈ c.exceptionTable.toList, covers x pc = false := by
  have h0 : c.exceptionTable.size = 0 := by simpa [Array.isEmpty] using h
  have h1 : c.exceptionTable.toList = [] := List.eq_nil_of_length_eq_zero (by simpa using h0)
  intro y hy
  rw [h1] at hy
  cases hy
/-- athrow, out of the method -/
theorem g_athrow (C : mC p s m args c cc nL own D kc b) (hlk : meth.locks = false) (hnt : c.exceptionTable.isEmpty = true) (hM : mS D b s 220 (J S) H locs) (hS : rng S) (thr : gThr p l e R s m args below meth c Q D b J P) (hP : P S) (hdg : decode cc pc = .ok (.athrow, 1)) : W p l e R s m args below meth c H locs 0 0 Q (F0 m pc ls (.ref (b + 196) :: rest)) := by
  intro T hT X
  obtain ⟨h1, -⟩ := X.athrowLeaves C.1 (g := F0 m pc ls (.ref (b + 196) :: rest)) rfl rfl rfl (y_out hnt pc) rfl (by rw [C.2.1]; exact hdg) hlk
  exact ⟨_, h1, thr S T locs X (by rw [hT]; exact hM) hS hP⟩
/-- a call that throws -/
theorem m_runT (K : mCal y bytes maxL ret Cn na) (hl : Cond.methodLink own index y ∈ GW) (hMet : cT l y bytes maxL ret d D kc b J S (.ref (b + i) :: as) S1) (C : mC p s m args c cc nL own D kc b) (hM : mS D b s 220 (J S) H locs) (hi : i < 220) {ci : Nat} {fs : List Value} (hf : J S i = .inr (ci, fs)) {T0 : u_T} {N : Nat} (hci : vwCl[ci]? = some (Cn, T0, N)) (hls : ls.size = nL) (hn : as.length = na) (hst : st = as.reverse ++ .ref (b + i) :: rest) (hW : (rest.map fun v => v.category).sum ≤ 8) (hdg : decode cc pc = .ok (.invokevirtual index, 3)) (hR : d + 1 ≤ R.frames ∧ 8 + (maxL + 11) + 64 * d ≤ R.locals) (hcs : 0 + 0 ≤ R.cells ∧ 0 + 0 ≤ R.slots) :
    ∀ T : State, T.heap = H → Stand p l e R s m args below meth c T locs 0 0 → ∃ (T' : State) (locs' : List Loc), Stand p l e R s m args below meth c T' locs' 0 0 ∧ mS D b s 220 (J S1) T'.heap locs' ∧ rng S1 ∧ ∀ target, Steps p.tables e below ((T'.setTop (F0 m pc ls rest)).pushFrame (.throwing (b + 196))) target → Steps p.tables e below (T.setTop (F0 m pc ls st)) target := by
  intro T0' hT X
  obtain ⟨k1, k2, k3, k4, k5⟩ := K
  have hpre := m_preU (as := .ref (b + i) :: as) C hM
  obtain ⟨hx, hb, hml, hown, hts, hE, hbs⟩ := C
  have hws : ∀ w ∈ (Cond.code y bytes maxL ret :: GW), ∀ (a' : Array Value) (U : State), s.WarmedH U.vm → w.before a' U = true := pay_in hts (gw_good0 k1)
  obtain ⟨cellB, hcB, hoB, hclB⟩ := va_recv (q0 := 0) hE.1 (hM.1.one hi hf) hci rfl
  obtain ⟨mk, methM, hnamed, hmethM, hstM, habM⟩ := Cond.instanceMethod_spec (hts _ k2)
  obtain ⟨methM', cM, hmethM', -, -, -, -, -, -, hsigM⟩ := Cond.code_spec hnamed (hts _ k1)
  cases hmethM.symm.trans hmethM'
  obtain ⟨c2, r2, m2, q1, q2, q3, q4, kP, hkP, hkPi⟩ := Cond.selects_spec (hts _ k3)
  cases hclB.symm.trans q1
  cases (State.methodFound?_of_named hnamed ⟨k5.1, k5.2.1⟩).symm.trans q2
  cases hnamed.symm.trans q3
  have hselP : selectMethod e.platform s.vm cellB.cls mk = .method mk := by rw [Launch.admits_selectMethod X.admits]; exact q4
  have hlen : as.length = methM.sig.parameters.length := by
    have h2 := k5.2.2
    rw [hsigM] at h2
    exact hn.trans (Option.some.inj h2).symm
  obtain ⟨vm₁, X₁, hstep₁⟩ := X.invokevirtual hx hown (hts _ hl) hnamed hmethM hstM hkP hkPi ⟨k5.1, k5.2.1⟩ (a := b + i) (cell := cellB) (by rw [hT]; exact hcB) (fun z h => by rw [h] at hoB; cases hoB) hselP hmethM habM hkP hkPi (g := F0 m pc ls st) rfl (argsL := as) (rest := rest) hlen hst (by rw [hb]; exact hdg)
  -- the callee, from there
  have hp := hpre (T0'.setVm vm₁) hT X₁.warmed
  have hW1 := X₁.warmed
  have hn1 := X₁.named hnamed
  obtain ⟨methY, cY, hmY, hcY, -, hlY, -, -, -, -⟩ := Cond.code_spec hn1 (hws _ List.mem_cons_self (Value.ref (b + i) :: as).toArray (T0'.setVm vm₁) hW1)
  obtain ⟨kY, hkY, -⟩ := className_of_methodNamed hn1
  have hinitY : kY.init = .initialized := Cond.initialized_spec (findClass_of_methodNamed hn1) hkY (word_at (a' := (Value.ref (b + i) :: as).toArray) hW1 (good_of_word (List.mem_filter.mp k4).2) (hts _ k4))
  have hdg' : decode c.code (F0 m pc ls rest).pc = .ok (.invokevirtual index, 3) := by rw [hb]; exact hdg
  have h : At (T0'.setVm vm₁) (F0 m pc ls rest).method c below := X₁.here
  have hroom := X₁.room_calling (g := F0 m pc ls rest) (args' := (Value.ref (b + i) :: as).toArray) (m' := mk) (R' := mR d 0 0) (hls.trans hml.symm) hmY hcY hR.1 (by
    have h9 := lv_room (m := m) (pc := pc) (ls := ls) (rest := rest) (st := rest) hW
    have h8 := hR.2
    rw [hlY]
    show _ + _ ≤ _
    simp only [mR] at *
    omega) hcs.1 hcs.2
  have happ : (headSpec (.code y bytes maxL ret :: GW) (mR d 0 0)).appliesLoose y e.platform ((T0'.setVm vm₁).calling (F0 m pc ls rest) mk (Value.ref (b + i) :: as).toArray) = true :=
    Spec.appliesLoose_calling (g := F0 m pc ls rest) h hdg' hn1 hkY hinitY hroom (atoms_intro fun w hw => hws w hw _ _ hW1)
  obtain ⟨mid, hmid⟩ := h.above
  have hfr : ((T0'.setVm vm₁).setTop (F0 m pc ls rest)).frames = (.java (F0 m pc ls rest) :: mid) ++ below := by rw [State.frames_setTop' _ h.top, hmid]; rfl
  unfold cT MetT at hMet
  obtain ⟨o, s₂, hsteps, -, hend, ho, hq, L, hF, hL⟩ := Steps.callFree hMet p X₁.admits X₁.cas X₁.clock (acts := []) hfr happ (m_blind _ _ _ _ hp) trivial
  subst ho
  have hend2 : Ended s₂ (.java (F0 m pc ls rest) :: below) (.threw (b + 196)) := by
    rw [State.frames_setTop' _ h.top, X₁.tail] at hend
    exact hend
  obtain ⟨T', X', hW', hsame', ht'⟩ := X₁.outOfThrown (g := F0 m pc ls rest) rfl hend2 hF.1 hF.2
  have hh : T'.heap = s₂.heap := by rw [ht']; exact (Stand.throwing_heap T' (F0 m pc ls rest) (b + 196)).symm
  have hfr2 : va_F (fun q => b ≤ q) (T0'.setVm vm₁) s₂ := hq.2.2
  have hh0 : (T0'.setVm vm₁).heap = H := hT
  refine ⟨T', locs ++ L, X', ⟨by rw [hh]; exact hq.1, ?_⟩, hq.2.1, fun target hr => hstep₁ _ fun acts => ?_⟩
  · rw [hh]
    have hS0 := hM.2
    have f1 := hfr2.1
    have f2 := hfr2.2
    rw [hh0] at f1 f2
    refine ⟨Nat.le_trans hS0.1 f1, fun q h1 h2 => (f2 q (Nat.lt_of_lt_of_le h1 hS0.1) h2).trans (hS0.2.1 q h1 h2), fun z hz => ?_⟩
    rcases List.mem_append.mp hz with hz | hz
    · exact hS0.2.2 z hz
    · exact hL z hz
  · rw [doInvoke_state]
    rw [ht'] at hsteps
    exact hsteps.trans hr
/-- a call that throws, out of this method too -/
theorem g_callThr (hlk : meth.locks = false) (hnt : c.exceptionTable.isEmpty = true) (thr : gThr p l e R s m args below meth c Q D b J P) (hP : P S1)
    (hr : ∀ T : State, T.heap = H → Stand p l e R s m args below meth c T locs 0 0 → ∃ (T' : State) (locs' : List Loc), Stand p l e R s m args below meth c T' locs' 0 0 ∧ mS D b s 220 (J S1) T'.heap locs' ∧ rng S1 ∧ ∀ target, Steps p.tables e below ((T'.setTop (F0 m pc ls rest)).pushFrame (.throwing (b + 196))) target → Steps p.tables e below (T.setTop (F0 m pc ls st)) target) : W p l e R s m args below meth c H locs 0 0 Q (F0 m pc ls st) := by
  intro T hT X
  obtain ⟨T', locs', X', hM', hS', hst⟩ := hr T hT X
  obtain ⟨h1, -⟩ := X'.leaveThrown (b + 196) (g := F0 m pc ls rest) rfl rfl rfl (y_out hnt pc) hlk
  exact ⟨_, hst _ h1, thr S1 T' locs' X' hM' hS' hP⟩
/-- a call that throws, into a handler of this method's -/
theorem g_callCatch {lo hi hpc ct : Nat} (C : mC p s m args c cc nL own D kc b) (ht : c.exceptionTable.toList.map (fun h => (h.startPc, h.endPc, h.handlerPc, h.catchType)) = [(lo, hi, hpc, ct)]) (h1 : lo ≤ pc) (h2 : pc < hi) (h0 : ct ≠ 0) (hcl : Cond.classLink own ct RX12 ∈ GW) (hst196 : ∀ S2, J S2 196 = .inr (12, [.null, .null, .null, .null, .null, .int 0]))
    (hr : ∀ T : State, T.heap = H → Stand p l e R s m args below meth c T locs 0 0 → ∃ (T' : State) (locs' : List Loc), Stand p l e R s m args below meth c T' locs' 0 0 ∧ mS D b s 220 (J S1) T'.heap locs' ∧ rng S1 ∧ ∀ target, Steps p.tables e below ((T'.setTop (F0 m pc ls rest)).pushFrame (.throwing (b + 196))) target → Steps p.tables e below (T.setTop (F0 m pc ls st)) target)
    (kk : ∀ (H1 : Heap) (locs1 : List Loc), mS D b s 220 (J S1) H1 locs1 → rng S1 → W p l e R s m args below meth c H1 locs1 0 0 Q (F0 m hpc ls [.ref (b + 196)])) : W p l e R s m args below meth c H locs 0 0 Q (F0 m pc ls st) := by
  intro T hT X
  obtain ⟨T', locs', X', hM', hS', hst⟩ := hr T hT X
  obtain ⟨hx, hb, hml, hown, hts, hE, hbs⟩ := C
  have hpl : e.platform.magicAccessors = ({} : Platform).magicAccessors := by rw [X'.admits.platform]
  obtain ⟨cT, hcT, hlinks⟩ := Cond.classLink_spec hown (hts _ hcl) e.platform hpl
  obtain ⟨dk, _, _, kt, hd, _, _, _, _, hkt, _, hopen⟩ := hlinks.here
  have hcl₀ := X'.warmed.classLinks hlinks
  have hW' : s.WarmedH (T'.vm.noted m.cls ct (.cls cT)) := X'.warmed.noted hd hopen (State.rightAt_cls hlinks)
  obtain ⟨cellX, hcX, hoX, hclX⟩ := va_recv (q0 := 0) hE.1 (hM'.1.one (i := 196) (by omega) (hst196 S1)) (q := (RX12, TX12, 6)) rfl rfl
  have hcc : cellX.cls = cT := Option.some.inj (hclX.symm.trans hcT)
  obtain ⟨kt', hkt', -⟩ := hW'.alike.2.2 _ _ hkt
  have hasg : (T'.vm.noted m.cls ct (Resolved.cls cT)).assignable cellX.cls cT = true := by
    have hc3 : cT = D.1 12 := Option.some.inj (hcT.symm.trans (hE.1.1 12 _ rfl).2.1)
    rw [hW'.alike.assignable, hcc, hc3]
    exact va_assign (hE.1.1 12 _ rfl).2
  obtain ⟨z, hz, hzt⟩ : ∃ z, c.exceptionTable.toList = [z] ∧ (z.startPc, z.endPc, z.handlerPc, z.catchType) = (lo, hi, hpc, ct) := by
    cases hq : c.exceptionTable.toList with
    | nil => rw [hq] at ht; cases ht
    | cons z r =>
      rw [hq] at ht
      cases r with
      | nil => exact ⟨z, rfl, List.cons.inj ht |>.1⟩
      | cons w r => exact absurd (congrArg List.length ht) (by simp)
  obtain ⟨z1, z2, z3, z4⟩ : z.startPc = lo ∧ z.endPc = hi ∧ z.handlerPc = hpc ∧ z.catchType = ct := by
    simpa using hzt
  have hgives := resolveClass_links e.toSetting hcl₀
  obtain ⟨t, a1, b1⟩ := kk T'.heap locs' hM' hS' (T'.setVm (T'.vm.noted m.cls ct (.cls cT))) rfl (X'.noted hW')
  refine ⟨t, hst _ (y_caught (c := c) (pc := hpc) (vm' := T'.vm.noted m.cls ct (.cls cT)) X'.here (fun Q2 E2 d2 acts2 => ?_) a1), b1⟩
  have hvm : ((T'.setTop (F0 m pc ls rest)).pushFrame (.throwing (b + 196))).vm = T'.vm := Stand.throwing_vm T' (F0 m pc ls rest) (b + 196)
  have hhp : ((T'.setTop (F0 m pc ls rest)).pushFrame (.throwing (b + 196))).heap = T'.heap := Stand.throwing_heap T' (F0 m pc ls rest) (b + 196)
  refine (W.findHandler_eq (meth := meth) (code := c) (by rw [hvm]; exact X'.method') X'.code).trans ?_
  rw [hz, ← z3]
  exact y_go_cold (c := cT) (cell := cellX) (by simp only [covers, z1, z2]; simp only [decide_eq_true h1, decide_eq_true h2, Bool.and_self]) (by rw [z4]; exact h0) (by rw [z4, hvm]; exact hgives) (by rw [hvm]; no_record) (by rw [hhp]; exact hcX) (fun k h => by rw [h] at hoX; cases hoX) ⟨kt', by rw [hcc]; exact hkt'⟩ ⟨kt', hkt'⟩ hasg
end GT
