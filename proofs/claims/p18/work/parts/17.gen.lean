/-! rows for states that aren't known: branches in whole numbers, beginnings with a goal that is a name, and the class's cells one by one -/
section TB
variable {p : Program} {l : Launch} {e : Env} {R : Room} {s : State} {m : MethodId} {args : Array Value} {below : List Frame} {meth : Method} {c : Code} {H : Heap} {locs : List Loc} {cells slots : Nat} {Q : State → Prop} {cc : ByteArray} {pc : Nat} {ls : Array Slot} {rest : List Value}
theorem t_icmp_eq (hexec : p.tables.exec = Jvm.exec) (hb : c.code = cc) {x y : Int32} {off : Int} {tgt : Nat} {a d : Int} (ha : x.toInt = a) (hd : y.toInt = d) (hdg : decode cc pc = .ok (.if_icmp .eq off, 3)) (ht : (pc : Int) + off = (tgt : Int)) (kt : a = d → W p l e R s m args below meth c H locs cells slots Q (F0 m tgt ls rest)) (kf : ¬ a = d → W p l e R s m args below meth c H locs cells slots Q (F0 m (pc + 3) ls rest)) : W p l e R s m args below meth c H locs cells slots Q (F0 m pc ls (.int y :: .int x :: rest)) :=
  lv_icmp_eq hexec hb hdg ht (fun h => kt (by simp only [← Int32.toInt_inj] at h; omega)) (fun h => kf (by simp only [← Int32.toInt_inj] at h; omega))
theorem t_if_eq (hexec : p.tables.exec = Jvm.exec) (hb : c.code = cc) {x : Int32} {off : Int} {tgt : Nat} {a : Int} (ha : x.toInt = a) (hdg : decode cc pc = .ok (.ifCond .eq off, 3)) (ht : (pc : Int) + off = (tgt : Int)) (kt : a = 0 → W p l e R s m args below meth c H locs cells slots Q (F0 m tgt ls rest)) (kf : ¬ a = 0 → W p l e R s m args below meth c H locs cells slots Q (F0 m (pc + 3) ls rest)) : W p l e R s m args below meth c H locs cells slots Q (F0 m pc ls (.int x :: rest)) := by
  have hz : (0 : Int32).toInt = 0 := by decide
  exact lv_if_eq hexec hb hdg ht (fun h => kt (by simp only [← Int32.toInt_inj] at h; omega)) (fun h => kf (by simp only [← Int32.toInt_inj] at h; omega))
theorem t_icmp_ne (hexec : p.tables.exec = Jvm.exec) (hb : c.code = cc) {x y : Int32} {off : Int} {tgt : Nat} {a d : Int} (ha : x.toInt = a) (hd : y.toInt = d) (hdg : decode cc pc = .ok (.if_icmp .ne off, 3)) (ht : (pc : Int) + off = (tgt : Int)) (kt : ¬ a = d → W p l e R s m args below meth c H locs cells slots Q (F0 m tgt ls rest)) (kf : a = d → W p l e R s m args below meth c H locs cells slots Q (F0 m (pc + 3) ls rest)) : W p l e R s m args below meth c H locs cells slots Q (F0 m pc ls (.int y :: .int x :: rest)) :=
  lv_icmp_ne hexec hb hdg ht (fun h => kt (by simp only [← Int32.toInt_inj] at h; omega)) (fun h => kf (by simp only [← Int32.toInt_inj] at h; omega))
theorem t_if_ne (hexec : p.tables.exec = Jvm.exec) (hb : c.code = cc) {x : Int32} {off : Int} {tgt : Nat} {a : Int} (ha : x.toInt = a) (hdg : decode cc pc = .ok (.ifCond .ne off, 3)) (ht : (pc : Int) + off = (tgt : Int)) (kt : ¬ a = 0 → W p l e R s m args below meth c H locs cells slots Q (F0 m tgt ls rest)) (kf : a = 0 → W p l e R s m args below meth c H locs cells slots Q (F0 m (pc + 3) ls rest)) : W p l e R s m args below meth c H locs cells slots Q (F0 m pc ls (.int x :: rest)) := by
  have hz : (0 : Int32).toInt = 0 := by decide
  exact lv_if_ne hexec hb hdg ht (fun h => kt (by simp only [← Int32.toInt_inj] at h; omega)) (fun h => kf (by simp only [← Int32.toInt_inj] at h; omega))
theorem t_icmp_lt (hexec : p.tables.exec = Jvm.exec) (hb : c.code = cc) {x y : Int32} {off : Int} {tgt : Nat} {a d : Int} (ha : x.toInt = a) (hd : y.toInt = d) (hdg : decode cc pc = .ok (.if_icmp .lt off, 3)) (ht : (pc : Int) + off = (tgt : Int)) (kt : a < d → W p l e R s m args below meth c H locs cells slots Q (F0 m tgt ls rest)) (kf : d ≤ a → W p l e R s m args below meth c H locs cells slots Q (F0 m (pc + 3) ls rest)) : W p l e R s m args below meth c H locs cells slots Q (F0 m pc ls (.int y :: .int x :: rest)) :=
  lv_icmp_lt hexec hb hdg ht (fun h => kt (by simp only [Int32.lt_iff_toInt_lt, Int32.le_iff_toInt_le] at h; omega)) (fun h => kf (by simp only [Int32.lt_iff_toInt_lt, Int32.le_iff_toInt_le] at h; omega))
theorem t_if_lt (hexec : p.tables.exec = Jvm.exec) (hb : c.code = cc) {x : Int32} {off : Int} {tgt : Nat} {a : Int} (ha : x.toInt = a) (hdg : decode cc pc = .ok (.ifCond .lt off, 3)) (ht : (pc : Int) + off = (tgt : Int)) (kt : a < 0 → W p l e R s m args below meth c H locs cells slots Q (F0 m tgt ls rest)) (kf : 0 ≤ a → W p l e R s m args below meth c H locs cells slots Q (F0 m (pc + 3) ls rest)) : W p l e R s m args below meth c H locs cells slots Q (F0 m pc ls (.int x :: rest)) := by
  have hz : (0 : Int32).toInt = 0 := by decide
  exact lv_if_lt hexec hb hdg ht (fun h => kt (by simp only [Int32.lt_iff_toInt_lt, Int32.le_iff_toInt_le] at h; omega)) (fun h => kf (by simp only [Int32.lt_iff_toInt_lt, Int32.le_iff_toInt_le] at h; omega))
theorem t_icmp_ge (hexec : p.tables.exec = Jvm.exec) (hb : c.code = cc) {x y : Int32} {off : Int} {tgt : Nat} {a d : Int} (ha : x.toInt = a) (hd : y.toInt = d) (hdg : decode cc pc = .ok (.if_icmp .ge off, 3)) (ht : (pc : Int) + off = (tgt : Int)) (kt : d ≤ a → W p l e R s m args below meth c H locs cells slots Q (F0 m tgt ls rest)) (kf : a < d → W p l e R s m args below meth c H locs cells slots Q (F0 m (pc + 3) ls rest)) : W p l e R s m args below meth c H locs cells slots Q (F0 m pc ls (.int y :: .int x :: rest)) :=
  lv_icmp_ge hexec hb hdg ht (fun h => kt (by simp only [Int32.lt_iff_toInt_lt, Int32.le_iff_toInt_le] at h; omega)) (fun h => kf (by simp only [Int32.lt_iff_toInt_lt, Int32.le_iff_toInt_le] at h; omega))
theorem t_if_ge (hexec : p.tables.exec = Jvm.exec) (hb : c.code = cc) {x : Int32} {off : Int} {tgt : Nat} {a : Int} (ha : x.toInt = a) (hdg : decode cc pc = .ok (.ifCond .ge off, 3)) (ht : (pc : Int) + off = (tgt : Int)) (kt : 0 ≤ a → W p l e R s m args below meth c H locs cells slots Q (F0 m tgt ls rest)) (kf : a < 0 → W p l e R s m args below meth c H locs cells slots Q (F0 m (pc + 3) ls rest)) : W p l e R s m args below meth c H locs cells slots Q (F0 m pc ls (.int x :: rest)) := by
  have hz : (0 : Int32).toInt = 0 := by decide
  exact lv_if_ge hexec hb hdg ht (fun h => kt (by simp only [Int32.lt_iff_toInt_lt, Int32.le_iff_toInt_le] at h; omega)) (fun h => kf (by simp only [Int32.lt_iff_toInt_lt, Int32.le_iff_toInt_le] at h; omega))
theorem t_icmp_gt (hexec : p.tables.exec = Jvm.exec) (hb : c.code = cc) {x y : Int32} {off : Int} {tgt : Nat} {a d : Int} (ha : x.toInt = a) (hd : y.toInt = d) (hdg : decode cc pc = .ok (.if_icmp .gt off, 3)) (ht : (pc : Int) + off = (tgt : Int)) (kt : d < a → W p l e R s m args below meth c H locs cells slots Q (F0 m tgt ls rest)) (kf : a ≤ d → W p l e R s m args below meth c H locs cells slots Q (F0 m (pc + 3) ls rest)) : W p l e R s m args below meth c H locs cells slots Q (F0 m pc ls (.int y :: .int x :: rest)) :=
  lv_icmp_gt hexec hb hdg ht (fun h => kt (by simp only [Int32.lt_iff_toInt_lt, Int32.le_iff_toInt_le] at h; omega)) (fun h => kf (by simp only [Int32.lt_iff_toInt_lt, Int32.le_iff_toInt_le] at h; omega))
theorem t_if_gt (hexec : p.tables.exec = Jvm.exec) (hb : c.code = cc) {x : Int32} {off : Int} {tgt : Nat} {a : Int} (ha : x.toInt = a) (hdg : decode cc pc = .ok (.ifCond .gt off, 3)) (ht : (pc : Int) + off = (tgt : Int)) (kt : 0 < a → W p l e R s m args below meth c H locs cells slots Q (F0 m tgt ls rest)) (kf : a ≤ 0 → W p l e R s m args below meth c H locs cells slots Q (F0 m (pc + 3) ls rest)) : W p l e R s m args below meth c H locs cells slots Q (F0 m pc ls (.int x :: rest)) := by
  have hz : (0 : Int32).toInt = 0 := by decide
  exact lv_if_gt hexec hb hdg ht (fun h => kt (by simp only [Int32.lt_iff_toInt_lt, Int32.le_iff_toInt_le] at h; omega)) (fun h => kf (by simp only [Int32.lt_iff_toInt_lt, Int32.le_iff_toInt_le] at h; omega))
theorem t_icmp_le (hexec : p.tables.exec = Jvm.exec) (hb : c.code = cc) {x y : Int32} {off : Int} {tgt : Nat} {a d : Int} (ha : x.toInt = a) (hd : y.toInt = d) (hdg : decode cc pc = .ok (.if_icmp .le off, 3)) (ht : (pc : Int) + off = (tgt : Int)) (kt : a ≤ d → W p l e R s m args below meth c H locs cells slots Q (F0 m tgt ls rest)) (kf : d < a → W p l e R s m args below meth c H locs cells slots Q (F0 m (pc + 3) ls rest)) : W p l e R s m args below meth c H locs cells slots Q (F0 m pc ls (.int y :: .int x :: rest)) :=
  lv_icmp_le hexec hb hdg ht (fun h => kt (by simp only [Int32.lt_iff_toInt_lt, Int32.le_iff_toInt_le] at h; omega)) (fun h => kf (by simp only [Int32.lt_iff_toInt_lt, Int32.le_iff_toInt_le] at h; omega))
theorem t_if_le (hexec : p.tables.exec = Jvm.exec) (hb : c.code = cc) {x : Int32} {off : Int} {tgt : Nat} {a : Int} (ha : x.toInt = a) (hdg : decode cc pc = .ok (.ifCond .le off, 3)) (ht : (pc : Int) + off = (tgt : Int)) (kt : a ≤ 0 → W p l e R s m args below meth c H locs cells slots Q (F0 m tgt ls rest)) (kf : 0 < a → W p l e R s m args below meth c H locs cells slots Q (F0 m (pc + 3) ls rest)) : W p l e R s m args below meth c H locs cells slots Q (F0 m pc ls (.int x :: rest)) := by
  have hz : (0 : Int32).toInt = 0 := by decide
  exact lv_if_le hexec hb hdg ht (fun h => kt (by simp only [Int32.lt_iff_toInt_lt, Int32.le_iff_toInt_le] at h; omega)) (fun h => kf (by simp only [Int32.lt_iff_toInt_lt, Int32.le_iff_toInt_le] at h; omega))
end TB
theorem m_l01 : (0 : Int32).toInt = 0 ∧ (1 : Int32).toInt = 1 ∧ (2 : Int32).toInt = 2 ∧ (-1 : Int32).toInt = -1 := by decide
theorem t_in {x : Int32} {N : Nat} {a : Int} (ha : x.toInt = a) (h0 : 0 ≤ a) (h1 : a < N) : vp_in x N := vp_in_iff.mpr ⟨by omega, by omega⟩
theorem t_add {x y : Int32} {a d : Int} (hx : x.toInt = a) (hy : y.toInt = d) (h1 : -2147483648 ≤ a + d) (h2 : a + d < 2147483648) : (x + y).toInt = a + d := by rw [Jvm.Kit.i32_add (by rw [hx, hy]; omega) (by rw [hx, hy]; omega), hx, hy]
theorem t_sub {x y : Int32} {a d : Int} (hx : x.toInt = a) (hy : y.toInt = d) (h1 : -2147483648 ≤ a - d) (h2 : a - d < 2147483648) : (x - y).toInt = a - d := by rw [Jvm.Kit.i32_sub (by rw [hx, hy]; omega) (by rw [hx, hy]; omega), hx, hy]
theorem t_byte (x : Int32) : 0 ≤ (x &&& 255).toInt ∧ (x &&& 255).toInt ≤ 255 := by
  obtain ⟨j, hj, ej⟩ := pk_andE x (m := 255) 8 (by decide)
  rw [ej, nI_toInt (by omega)]
  omega
theorem m_beg_i {l : Launch} {y : MethodName} {bytes : ByteArray} {maxL d mc ms : Nat} {D : va_G} {kc : Nat → ClassId} {b n : Nat} {f : Nat → va_E} {as : List Value} {post : Int32 → Nat × (Nat → va_E) → Prop} (hy : plainName y.cls = true) (hlen : (lg_sl as).length ≤ maxL) (body : ∀ (p : Program) (e : Env) (s : State) (m : MethodId) (args : Array Value) (below : List Frame) (meth : Method) (c : Code) (Q : State → Prop), mC p s m args c bytes maxL y.cls D kc b → meth.name = y.name → (∀ (n1 : Nat) (f1 : Nat → va_E) (H : Heap) (locs : List Loc) (ls : Array Slot) (pc : Nat) (v : Int32), mS D b s n1 f1 H locs → post v (n1, f1) → decode bytes pc = .ok (.ireturn, 1) → W p l e (mR d mc ms) s m args below meth c H locs mc ms Q (F0 m pc ls [.int v])) → mS D b s n f s.heap [] → ∀ ls : Array Slot, lv_has ls maxL (lv_args 0 as) → W p l e (mR d mc ms) s m args below meth c s.heap [] 0 0 Q (F0 m 0 ls [])) : mMi l y bytes maxL .int d mc ms D kc b n f as post := by
  refine m_start hy hlen (fun p e s m below meth c C hr hlk hnm hM ls hl => ?_)
  exact body p e s m as.toArray below meth c _ C hnm (fun n1 f1 H locs ls pc v hM hp hdg => m_iret C hr hlk hM hp hdg) hM ls hl
theorem m_beg_z {l : Launch} {y : MethodName} {bytes : ByteArray} {maxL d mc ms : Nat} {D : va_G} {kc : Nat → ClassId} {b n : Nat} {f : Nat → va_E} {as : List Value} {post : Int32 → Nat × (Nat → va_E) → Prop} (hy : plainName y.cls = true) (hlen : (lg_sl as).length ≤ maxL) (body : ∀ (p : Program) (e : Env) (s : State) (m : MethodId) (args : Array Value) (below : List Frame) (meth : Method) (c : Code) (Q : State → Prop), mC p s m args c bytes maxL y.cls D kc b → meth.name = y.name → (∀ (n1 : Nat) (f1 : Nat → va_E) (H : Heap) (locs : List Loc) (ls : Array Slot) (pc : Nat) (v : Int32), mS D b s n1 f1 H locs → post v (n1, f1) → narrow .boolean (.int v) = .int v → decode bytes pc = .ok (.ireturn, 1) → W p l e (mR d mc ms) s m args below meth c H locs mc ms Q (F0 m pc ls [.int v])) → mS D b s n f s.heap [] → ∀ ls : Array Slot, lv_has ls maxL (lv_args 0 as) → W p l e (mR d mc ms) s m args below meth c s.heap [] 0 0 Q (F0 m 0 ls [])) : mMi l y bytes maxL .boolean d mc ms D kc b n f as post := by
  refine m_start hy hlen (fun p e s m below meth c C hr hlk hnm hM ls hl => ?_)
  exact body p e s m as.toArray below meth c _ C hnm (fun n1 f1 H locs ls pc v hM hp hn hdg => m_zret C hr hlk hM hn hp hdg) hM ls hl
theorem m_beg_l {l : Launch} {y : MethodName} {bytes : ByteArray} {maxL d mc ms : Nat} {D : va_G} {kc : Nat → ClassId} {b n : Nat} {f : Nat → va_E} {as : List Value} {post : Int64 → Nat × (Nat → va_E) → Prop} (hy : plainName y.cls = true) (hlen : (lg_sl as).length ≤ maxL) (body : ∀ (p : Program) (e : Env) (s : State) (m : MethodId) (args : Array Value) (below : List Frame) (meth : Method) (c : Code) (Q : State → Prop), mC p s m args c bytes maxL y.cls D kc b → meth.name = y.name → (∀ (n1 : Nat) (f1 : Nat → va_E) (H : Heap) (locs : List Loc) (ls : Array Slot) (pc : Nat) (v : Int64), mS D b s n1 f1 H locs → post v (n1, f1) → decode bytes pc = .ok (.lreturn, 1) → W p l e (mR d mc ms) s m args below meth c H locs mc ms Q (F0 m pc ls [.long v])) → mS D b s n f s.heap [] → ∀ ls : Array Slot, lv_has ls maxL (lv_args 0 as) → W p l e (mR d mc ms) s m args below meth c s.heap [] 0 0 Q (F0 m 0 ls [])) : mMl l y bytes maxL .long d mc ms D kc b n f as post := by
  refine m_start hy hlen (fun p e s m below meth c C hr hlk hnm hM ls hl => ?_)
  exact body p e s m as.toArray below meth c _ C hnm (fun n1 f1 H locs ls pc v hM hp hdg => m_lret C hr hlk hM hp hdg) hM ls hl
theorem m_beg_v {l : Launch} {y : MethodName} {bytes : ByteArray} {maxL d mc ms : Nat} {D : va_G} {kc : Nat → ClassId} {b n : Nat} {f : Nat → va_E} {as : List Value} {post : Nat × (Nat → va_E) → Prop} (hy : plainName y.cls = true) (hlen : (lg_sl as).length ≤ maxL) (body : ∀ (p : Program) (e : Env) (s : State) (m : MethodId) (args : Array Value) (below : List Frame) (meth : Method) (c : Code) (Q : State → Prop), mC p s m args c bytes maxL y.cls D kc b → meth.name = y.name → (∀ (n1 : Nat) (f1 : Nat → va_E) (H : Heap) (locs : List Loc) (ls : Array Slot) (pc : Nat), mS D b s n1 f1 H locs → post (n1, f1) → decode bytes pc = .ok (.return_, 1) → W p l e (mR d mc ms) s m args below meth c H locs mc ms Q (F0 m pc ls [])) → mS D b s n f s.heap [] → ∀ ls : Array Slot, lv_has ls maxL (lv_args 0 as) → W p l e (mR d mc ms) s m args below meth c s.heap [] 0 0 Q (F0 m 0 ls [])) : mMv l y bytes maxL d mc ms D kc b n f as post := by
  refine m_start hy hlen (fun p e s m below meth c C hr hlk hnm hM ls hl => ?_)
  exact body p e s m as.toArray below meth c _ C hnm (fun n1 f1 H locs ls pc hM hp hdg => m_vret C hr hlk hM hp hdg) hM ls hl
theorem m_beg_q {l : Launch} {y : MethodName} {bytes : ByteArray} {maxL d mc ms : Nat} {D : va_G} {kc : Nat → ClassId} {b n : Nat} {f : Nat → va_E} {as : List Value} {C0 : String} {post : Option Nat → Nat × (Nat → va_E) → Prop} (hy : plainName y.cls = true) (hlen : (lg_sl as).length ≤ maxL) (body : ∀ (p : Program) (e : Env) (s : State) (m : MethodId) (args : Array Value) (below : List Frame) (meth : Method) (c : Code) (Q : State → Prop), mC p s m args c bytes maxL y.cls D kc b → meth.name = y.name → (∀ (n1 : Nat) (f1 : Nat → va_E) (H : Heap) (locs : List Loc) (ls : Array Slot) (pc : Nat) (v : Option Nat), mS D b s n1 f1 H locs → post v (n1, f1) → decode bytes pc = .ok (.areturn, 1) → W p l e (mR d mc ms) s m args below meth c H locs mc ms Q (F0 m pc ls [va_rf v])) → mS D b s n f s.heap [] → ∀ ls : Array Slot, lv_has ls maxL (lv_args 0 as) → W p l e (mR d mc ms) s m args below meth c s.heap [] 0 0 Q (F0 m 0 ls [])) : mMq l y bytes maxL (.object C0) d mc ms D kc b n f as post := by
  refine m_start hy hlen (fun p e s m below meth c C hr hlk hnm hM ls hl => ?_)
  exact body p e s m as.toArray below meth c _ C hnm (fun n1 f1 H locs ls pc v hM hp hdg => m_qret C hr hlk hM hp hdg) hM ls hl
/-- a Sheet of at most N WORDS, its row at the place a -/
def okSheet (b a N : Nat) (x : va_E) : Prop := ∃ z : Int32, (0 ≤ z.toInt ∧ z.toInt ≤ N) ∧ x = .inr (8, [.ref (b + a), .int z])
def okLongs (kc : Nat → ClassId) (N : Nat) (x : va_E) : Prop := ∃ g : Nat → Int64, x = .inl (kc 2, N, .inr (.inl g))
def okInts (kc : Nat → ClassId) (t N : Nat) (x : va_E) : Prop := ∃ g : Nat → Int32, x = .inl (kc t, N, .inl g)
/-- null, or the cell at one of these places -/
def okRef (b : Nat) (rs : List Nat) (v : Value) : Prop := v = .null ∨ ∃ r ∈ rs, v = .ref (b + r)
def okA (b : Nat) (kc : Nat → ClassId) (r : Nat) (x : va_E) : Prop := match r with
  | 0 => x = .inr (11, [.ref (b + 1), .ref (b + 3), .ref (b + 4), .ref (b + 6), .ref (b + 8), .ref (b + 10), .ref (b + 174), .ref (b + 177), .ref (b + 178), .ref (b + 181), .ref (b + 183), .ref (b + 190)])
  | 1 => ∃ z : Int32, (0 ≤ z.toInt ∧ z.toInt ≤ 2000) ∧ x = .inr (10, [.ref (b + 2), .int z])
  | 2 => okInts kc 0 2000 x
  | 3 => ∃ z1 z2 : Int32, x = .inr (1, [.int z1, .int z2])
  | 4 => okSheet b 5 60 x
  | 5 => okLongs kc 60 x
  | 6 => okSheet b 7 150 x
  | 7 => okLongs kc 150 x
  | 8 => okSheet b 9 300 x
  | 9 => okLongs kc 300 x
  | 10 => ∃ z1 z2 z3 : Int32, (0 ≤ z1.toInt ∧ 0 ≤ z2.toInt ∧ z1.toInt + z2.toInt ≤ 40 ∧ 0 ≤ z3.toInt ∧ z3.toInt ≤ 40) ∧ x = .inr (5, [.ref (b + 11), .ref (b + 12), .ref (b + 13), .int z1, .int z2, .int z3])
  | 11 => ∃ g : Nat → Option Nat, (∀ j, j < 40 → g j = some (b + (14 + 4 * j))) ∧ x = .inl (kc 4, 40, .inr (.inr (.inr (.inr g))))
  | 12 => okInts kc 1 3 x
  | _ => okInts kc 1 40 x
def okM (b : Nat) (kc : Nat → ClassId) (j q : Nat) (x : va_E) : Prop := match q with
  | 0 => ∃ ki ha fr up ga wa vo er vb st ov : Int32, ((-1 ≤ fr.toInt ∧ fr.toInt ≤ 999) ∧ (-1 ≤ up.toInt ∧ up.toInt ≤ 999)) ∧ x = .inr (3, [.ref (b + (14 + 4 * j + 1)), .ref (b + (14 + 4 * j + 2)), .int ki, .int ha, .int fr, .int up, .int ga, .int wa, .int vo, .int er, .int vb, .int st, .int ov])
  | 1 => ∃ g : Nat → Int32, (∀ i, -1 ≤ (g i).toInt ∧ (g i).toInt ≤ 999) ∧ x = .inl (kc 1, 3, .inl g)
  | 2 => okSheet b (14 + 4 * j + 3) 6 x
  | _ => okLongs kc 6 x
def okB (b : Nat) (kc : Nat → ClassId) (r : Nat) (x : va_E) : Prop := match r with
  | 174 => x = .inr (9, [.ref (b + 175)])
  | 175 => okSheet b 176 150 x
  | 176 => okLongs kc 150 x
  | 177 => ∃ (v1 v2 v3 : Value) (z1 z2 z3 z4 : Int32), (okRef b [1] v1 ∧ okRef b [10] v2 ∧ okRef b [3] v3) ∧ x = .inr (4, [v1, v2, v3, .int z1, .int z2, .int z3, .int z4])
  | 178 => ∃ (z : Int32) (v1 v2 : Value), ((0 ≤ z.toInt ∧ z.toInt ≤ 40) ∧ okRef b [4] v1 ∧ okRef b [8, 184] v2) ∧ x = .inr (7, [.ref (b + 179), .ref (b + 180), .int z, v1, v2])
  | 179 => ∃ g : Nat → Option Nat, (∀ k, g k = none ∨ ∃ j, j < 40 ∧ g k = some (b + (14 + 4 * j))) ∧ x = .inl (kc 4, 40, .inr (.inr (.inr (.inr g))))
  | 180 => okInts kc 3 40 x
  | 181 => x = .inr (6, [.ref (b + 182)])
  | 182 => okInts kc 1 301 x
  | 183 => ∃ z1 z2 z3 z4 z5 z6 z7 : Int32, x = .inr (2, [.ref (b + 184), .ref (b + 186), .ref (b + 187), .ref (b + 188), .ref (b + 189), .int z1, .int z2, .int z3, .int z4, .int z5, .int z6, .int z7])
  | 184 => okSheet b 185 108 x
  | 185 => okLongs kc 108 x
  | 186 => okInts kc 1 8 x
  | 187 => okInts kc 1 150 x
  | 188 => okInts kc 1 150 x
  | 189 => okInts kc 1 150 x
  | 190 => x = .inr (0, [.ref (b + 191)])
  | _ => okInts kc 1 5 x
def okX (b : Nat) (kc : Nat → ClassId) (r : Nat) (x : va_E) : Prop := if r < 14 then okA b kc r x else if r < 174 then okM b kc ((r - 14) / 4) ((r - 14) % 4) x else okB b kc r x
/-- every cell of the class is as it may be -/
def XS (b : Nat) (kc : Nat → ClassId) (f : Nat → va_E) : Prop := ∀ r, r < 192 → okX b kc r (f r)
theorem XS.set {b : Nat} {kc : Nat → ClassId} {f f1 : Nat → va_E} {r : Nat} {x : va_E} (h : XS b kc f) (ef : f1 = va_up f r x) (hx : okX b kc r x) : XS b kc f1 := by
  intro q hq
  rw [ef]
  by_cases e : q = r
  · subst e
    simp only [va_up, if_pos]
    exact hx
  · simp only [va_up, if_neg e]
    exact h q hq
theorem XS.a {b : Nat} {kc : Nat → ClassId} {f : Nat → va_E} (h : XS b kc f) (r : Nat) (hr : r < 14) : okA b kc r (f r) := by
  have h1 := h r (by omega)
  unfold okX at h1
  rw [if_pos hr] at h1
  exact h1
theorem XS.b {b : Nat} {kc : Nat → ClassId} {f : Nat → va_E} (h : XS b kc f) (r : Nat) (h0 : ¬ r < 174) (hr : r < 192) : okB b kc r (f r) := by
  have h1 := h r hr
  unfold okX at h1
  rw [if_neg (by omega), if_neg h0] at h1
  exact h1
theorem okX_a {b : Nat} {kc : Nat → ClassId} {r : Nat} {x : va_E} (hr : r < 14) (h : okA b kc r x) : okX b kc r x := by
  unfold okX
  rw [if_pos hr]
  exact h
theorem okX_b {b : Nat} {kc : Nat → ClassId} {r : Nat} {x : va_E} (h0 : ¬ r < 174) (h : okB b kc r x) : okX b kc r x := by
  unfold okX
  rw [if_neg (by omega), if_neg h0]
  exact h
theorem okX_m {b : Nat} {kc : Nat → ClassId} {j q : Nat} {x : va_E} (hj : j < 40) (hq : q < 4) : okX b kc (14 + 4 * j + q) x ↔ okM b kc j q x := by
  unfold okX
  rw [if_neg (by omega), if_pos (by omega), show (14 + 4 * j + q - 14) / 4 = j by omega, show (14 + 4 * j + q - 14) % 4 = q by omega]
theorem XS.m {b : Nat} {kc : Nat → ClassId} {f : Nat → va_E} (h : XS b kc f) {j : Nat} (hj : j < 40) (q : Nat) (hq : q < 4) : okM b kc j q (f (14 + 4 * j + q)) := (okX_m hj hq).mp (h _ (by omega))
