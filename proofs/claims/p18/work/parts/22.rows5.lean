def w_b3 {α σ β : Type} (x : Option (Option α × σ)) (t : σ → Option β) (k : α → σ → Option β) : Option β := match x with | none => none | some (none, s) => t s | some (some a, s) => k a s
theorem w_b3E {α σ β : Type} {x : Option (Option α × σ)} {t : σ → Option β} {k : α → σ → Option β} {r : β} (h : w_b3 x t k = some r) : (∃ a s, x = some (some a, s) ∧ k a s = some r) ∨ (∃ s, x = some (none, s) ∧ t s = some r) := by
  cases x with
  | none => exact absurd (h : none = some r) (fun q => nomatch q)
  | some u =>
    obtain ⟨o, s⟩ := u
    cases o with
    | none => exact Or.inr ⟨s, rfl, h⟩
    | some a => exact Or.inl ⟨a, s, rfl, h⟩
theorem m_start2 {l : Launch} {y : MethodName} {bytes : ByteArray} {maxL : Nat} {ret : Option FieldType} {rm : Room} {as : List Value} {Qc : Array Value → State → Outcome → State → Prop} {mc ms : Nat} {free : Addr → Prop} {D : va_G} {kc : Nat → ClassId} {b n : Nat} {f : Nat → va_E} (hy : plainName y.cls = true) (hlen : (lg_sl as).length ≤ maxL)
    (body : ∀ (p : Program) (e : Env) (s : State) (m : MethodId) (below : List Frame) (meth : Method) (c : Code), mC p s m as.toArray c bytes maxL y.cls D kc b → meth.sig.returnType = ret → meth.locks = false → c.exceptionTable.isEmpty = true → mS D b s n f s.heap [] → ∀ ls : Array Slot, lv_has ls maxL (lv_args 0 as) → W p l e rm s m as.toArray below meth c s.heap [] 0 0 (MQ below Qc as.toArray s mc ms free) (F0 m 0 ls [])) :
    Met l y (.code y bytes maxL ret :: GW) rm (va_Pc as (mPre D kc b n f)) Qc mc ms free := by
  refine Met.ofW (cc := bytes) (maxL := maxL) (ret := ret) hy rfl ?_
  intro p e s m args below meth c s₁ B hml hv
  obtain ⟨rfl, hP, hE⟩ := hv
  have hts := atoms_spec (ws := .code y bytes maxL ret :: GW) B.pre
  have hown : s.vm.findClass y.cls = some m.cls := findClass_of_methodNamed B.named
  have hl := lv_entry as (n := maxL) hlen
  rw [lg_entry_eq]
  have hP1 := hP.1
  exact body p e s m below meth c ⟨B.exec, B.bytes, hml, hown, fun w hw => hts w (List.mem_cons_of_mem _ hw), hE, by omega⟩ B.returns B.notSynchronized (B.noHandlers (hts _ List.mem_cons_self)) ⟨hP, va_S.rf⟩ _ hl
theorem m_startT {l : Launch} {y : MethodName} {bytes : ByteArray} {maxL d : Nat} {ret : Option FieldType} {as : List Value} {D : va_G} {kc : Nat → ClassId} {b : Nat} {J : SS → Nat → va_E} {S S1 : SS} (hy : plainName y.cls = true) (hlen : (lg_sl as).length ≤ maxL)
    (body : ∀ (p : Program) (e : Env) (s : State) (m : MethodId) (args : Array Value) (below : List Frame) (meth : Method) (c : Code) (Q : State → Prop), mC p s m args c bytes maxL y.cls D kc b → meth.locks = false → c.exceptionTable.isEmpty = true → gThr p l e (mR d 0 0) s m args below meth c Q D b J (fun S2 => S2 = S1) → mS D b s 220 (J S) s.heap [] → ∀ ls : Array Slot, lv_has ls maxL (lv_args 0 as) → W p l e (mR d 0 0) s m args below meth c s.heap [] 0 0 Q (F0 m 0 ls [])) :
    cT l y bytes maxL ret d D kc b J S as S1 := by
  refine MetT.ofW (cc := bytes) (maxL := maxL) (ret := ret) hy rfl ?_
  intro p e s m args below meth c s₁ B hml hv
  obtain ⟨rfl, hP, hE⟩ := hv
  have hts := atoms_spec (ws := .code y bytes maxL ret :: GW) B.pre
  have hown : s.vm.findClass y.cls = some m.cls := findClass_of_methodNamed B.named
  have hl := lv_entry as (n := maxL) hlen
  rw [lg_entry_eq]
  have hP1 := hP.1
  refine body p e s m as.toArray below meth c _ ⟨B.exec, B.bytes, hml, hown, fun w hw => hts w (List.mem_cons_of_mem _ hw), hE, by omega⟩ B.notSynchronized (B.noHandlers (hts _ List.mem_cons_self)) ?_ ⟨hP, va_S.rf⟩ _ hl
  intro S2 T locs X hM hR hS2
  subst hS2
  obtain ⟨g₀, hfr⟩ := X.frames_eq
  exact ⟨X.here.running, State.frames_setFrames _ (State.cur_lt_of_frames hfr), ⟨hM.1, hR, hM.2.F rfl⟩, locs, ⟨(X.ends _).1, (X.ends _).2⟩, hM.2.2.2⟩
theorem g_ofR_i {l : Launch} {y : MethodName} {bytes : ByteArray} {maxL d : Nat} {D : va_G} {kc : Nat → ClassId} {b : Nat} {J : SS → Nat → va_E} {S : SS} {as : List Value} {v : Int} {S1 : SS} (hy : plainName y.cls = true) (hlen : (lg_sl as).length ≤ maxL) (body : ∀ (p : Program) (e : Env) (s : State) (m : MethodId) (args : Array Value) (below : List Frame) (meth : Method) (c : Code) (Q : State → Prop), mC p s m args c bytes maxL y.cls D kc b → meth.locks = false → c.exceptionTable.isEmpty = true → (∀ (S2 : SS) (H : Heap) (locs : List Loc) (ls : Array Slot) (pc : Nat) (x : Int32), some v = some x.toInt → S2 = S1 → mS D b s 220 (J S2) H locs → rng S2 → decode bytes pc = .ok (.ireturn, 1) → W p l e (mR d 0 0) s m args below meth c H locs 0 0 Q (F0 m pc ls [.int x])) → gThr p l e (mR d 0 0) s m args below meth c Q D b J (fun S2 => S2 = S1 ∧ some v = none) → mS D b s 220 (J S) s.heap [] → ∀ ls : Array Slot, lv_has ls maxL (lv_args 0 as) → W p l e (mR d 0 0) s m args below meth c s.heap [] 0 0 Q (F0 m 0 ls [])) : cI l y bytes maxL .int d D kc b J S as v S1 := by
  refine m_start2 hy hlen (fun p e s m below meth c C hr hlk hnt hM ls hl => ?_)
  refine body p e s m as.toArray below meth c _ C hlk hnt ?_ ?_ hM ls hl
  · intro S2 H locs ls pc x hx hS hM hR hd
    exact m_iret C hr hlk hM ⟨(Option.some.inj hx).symm, rfl, by rw [hS], by rw [← hS]; exact hR⟩ hd
  · intro S2 T locs X hM hR hP
    exact absurd hP.2 (fun q => nomatch q)
theorem g_ofR_v {l : Launch} {y : MethodName} {bytes : ByteArray} {maxL d : Nat} {D : va_G} {kc : Nat → ClassId} {b : Nat} {J : SS → Nat → va_E} {S : SS} {as : List Value} {S1 : SS} (hy : plainName y.cls = true) (hlen : (lg_sl as).length ≤ maxL) (body : ∀ (p : Program) (e : Env) (s : State) (m : MethodId) (args : Array Value) (below : List Frame) (meth : Method) (c : Code) (Q : State → Prop), mC p s m args c bytes maxL y.cls D kc b → meth.locks = false → c.exceptionTable.isEmpty = true → (∀ (S2 : SS) (H : Heap) (locs : List Loc) (ls : Array Slot) (pc : Nat), some () = some () → S2 = S1 → mS D b s 220 (J S2) H locs → rng S2 → decode bytes pc = .ok (.return_, 1) → W p l e (mR d 0 0) s m args below meth c H locs 0 0 Q (F0 m pc ls [])) → gThr p l e (mR d 0 0) s m args below meth c Q D b J (fun S2 => S2 = S1 ∧ some () = none) → mS D b s 220 (J S) s.heap [] → ∀ ls : Array Slot, lv_has ls maxL (lv_args 0 as) → W p l e (mR d 0 0) s m args below meth c s.heap [] 0 0 Q (F0 m 0 ls [])) : cV l y bytes maxL d D kc b J S as S1 := by
  refine m_start2 hy hlen (fun p e s m below meth c C hr hlk hnt hM ls hl => ?_)
  refine body p e s m as.toArray below meth c _ C hlk hnt ?_ ?_ hM ls hl
  · intro S2 H locs ls pc _ hS hM hR hd
    exact m_vret C hr hlk hM ⟨rfl, by rw [hS], by rw [← hS]; exact hR⟩ hd
  · intro S2 T locs X hM hR hP
    exact absurd hP.2 (fun q => nomatch q)
theorem g_ofT {α : Type} {l : Launch} {y : MethodName} {bytes : ByteArray} {maxL d : Nat} {ret : Option FieldType} {D : va_G} {kc : Nat → ClassId} {b : Nat} {J : SS → Nat → va_E} {S : SS} {as : List Value} {S1 : SS} (hy : plainName y.cls = true) (hlen : (lg_sl as).length ≤ maxL) (body : ∀ (p : Program) (e : Env) (s : State) (m : MethodId) (args : Array Value) (below : List Frame) (meth : Method) (c : Code) (Q : State → Prop), mC p s m args c bytes maxL y.cls D kc b → meth.locks = false → c.exceptionTable.isEmpty = true → gThr p l e (mR d 0 0) s m args below meth c Q D b J (fun S2 => S2 = S1 ∧ (none : Option α) = none) → mS D b s 220 (J S) s.heap [] → ∀ ls : Array Slot, lv_has ls maxL (lv_args 0 as) → W p l e (mR d 0 0) s m args below meth c s.heap [] 0 0 Q (F0 m 0 ls [])) : cT l y bytes maxL ret d D kc b J S as S1 :=
  m_startT hy hlen (fun p e s m args below meth c Q C hlk hnt thr hM ls hl => body p e s m args below meth c Q C hlk hnt (fun S2 T locs X hM hR hP => thr S2 T locs X hM hR hP.1) hM ls hl)
/-- with a table of handlers -/
abbrev cW (l : Launch) (y : MethodName) (bytes : ByteArray) (maxL : Nat) (ret : FieldType) (hh : List (Nat × Nat × Nat × Nat)) (d : Nat) (D : va_G) (kc : Nat → ClassId) (b : Nat) (J : SS → Nat → va_E) (S : SS) (as : List Value) (v : Int) (S1 : SS) : Prop := mMw l y bytes maxL ret hh d 0 0 D kc b 220 (J S) as (fun r u => r.toInt = v ∧ u.1 = 220 ∧ u.2 = J S1 ∧ rng S1)
theorem g_begW {l : Launch} {y : MethodName} {bytes : ByteArray} {maxL d : Nat} {hh : List (Nat × Nat × Nat × Nat)} {D : va_G} {kc : Nat → ClassId} {b : Nat} {J : SS → Nat → va_E} {S : SS} {as : List Value} {v : Int} {S1 : SS} (hy : plainName y.cls = true) (hlen : (lg_sl as).length ≤ maxL) (body : ∀ (p : Program) (e : Env) (s : State) (m : MethodId) (args : Array Value) (below : List Frame) (meth : Method) (c : Code) (Q : State → Prop), mC p s m args c bytes maxL y.cls D kc b → c.exceptionTable.toList.map (fun h => (h.startPc, h.endPc, h.handlerPc, h.catchType)) = hh → (∀ (S2 : SS) (H : Heap) (locs : List Loc) (ls : Array Slot) (pc : Nat) (x : Int32), x.toInt = v → S2 = S1 → mS D b s 220 (J S2) H locs → rng S2 → decode bytes pc = .ok (.ireturn, 1) → W p l e (mR d 0 0) s m args below meth c H locs 0 0 Q (F0 m pc ls [.int x])) → mS D b s 220 (J S) s.heap [] → ∀ ls : Array Slot, lv_has ls maxL (lv_args 0 as) → W p l e (mR d 0 0) s m args below meth c s.heap [] 0 0 Q (F0 m 0 ls [])) : cW l y bytes maxL .int hh d D kc b J S as v S1 := by
  refine va_MetW (cc := bytes) (maxL := maxL) (ret := some .int) (hh := hh) hy rfl ?_
  intro p e s m args below meth c s₁ B hml hv
  obtain ⟨rfl, hP, hE⟩ := hv
  have hts := atoms_spec (ws := .codeWith y bytes maxL (some .int) hh :: GW) B.pre
  have hown : s.vm.findClass y.cls = some m.cls := findClass_of_methodNamed B.named
  have hl := lv_entry as (n := maxL) hlen
  rw [lg_entry_eq]
  have hP1 := hP.1
  obtain ⟨m9, meth9, c9, hn9, hm9, hc9, -, -, ht9, -, -, -⟩ := Cond.codeWith_spec (hts _ List.mem_cons_self)
  cases B.named.symm.trans hn9
  cases B.method.symm.trans hm9
  cases (Stand.of_body B).code.symm.trans hc9
  have C : mC p s m as.toArray c bytes maxL y.cls D kc b := ⟨B.exec, B.bytes, hml, hown, fun w hw => hts w (List.mem_cons_of_mem _ hw), hE, by omega⟩
  exact body p e s m as.toArray below meth c _ C ht9 (fun S2 H locs ls pc x hx hS hM hR hd => m_iret C B.returns B.notSynchronized hM ⟨hx, rfl, by rw [hS], by rw [← hS]; exact hR⟩ hd) ⟨hP, va_S.rf⟩ _ hl
