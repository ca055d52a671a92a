theorem w_ltE {α β : Type} {x : α} {k : α → β} {r : β} (h : w_lt x k = r) : ∃ y, y = x ∧ k y = r := ⟨x, rfl, h⟩
def w_b1 {α β : Type} (x : Option α) (k : α → Option β) : Option β := match x with | none => none | some a => k a
def w_b2 {α σ β : Type} (x : Option (α × σ)) (k : α → σ → Option β) : Option β := match x with | none => none | some (a, t) => k a t
theorem w_b1E {α β : Type} {x : Option α} {k : α → Option β} {r : β} (h : w_b1 x k = some r) : ∃ a, x = some a ∧ k a = some r := by
  cases x with
  | none => exact absurd (h : none = some r) (fun q => nomatch q)
  | some a => exact ⟨a, rfl, h⟩
theorem w_b2E {α σ β : Type} {x : Option (α × σ)} {k : α → σ → Option β} {r : β} (h : w_b2 x k = some r) : ∃ a t, x = some (a, t) ∧ k a t = some r := by
  cases x with
  | none => exact absurd (h : none = some r) (fun q => nomatch q)
  | some u => exact ⟨u.1, u.2, rfl, h⟩
def absi (a : Int) : Int := if 0 ≤ a then a else 0 - a
theorem l_rg {x : Int64} {a : Int} (h : x.toInt = a) : -9223372036854775808 ≤ a ∧ a < 9223372036854775808 := by
  have h1 := Int64.toInt_lt x
  have h2 := Int64.le_toInt x
  rw [h] at h1 h2
  exact ⟨by omega, by omega⟩
theorem cat_rf (o : Option Nat) : (va_rf o).category = 1 := by cases o <;> rfl
section GR2
variable {p : Program} {l : Launch} {e : Env} {R : Room} {s : State} {m : MethodId} {args : Array Value} {below : List Frame} {meth : Method} {c : Code} {H : Heap} {locs : List Loc} {cells slots : Nat} {Q : State → Prop}
variable {cc : ByteArray} {pc nL : Nat} {ls : Array Slot} {rest : List Value} {own : String} {D : va_G} {kc : Nat → ClassId} {b : Nat} {J : SS → Nat → va_E} {S : SS} {ρ : Type}
theorem g_getqs {index ci k r : Nat} {ty : FieldType} {fin : Bool} (F : mFld own index ci k ty fin) (C : mC p s m args c cc nL own D kc b) (hM : mS D b s 220 (J S) H locs) {i : Nat} (hi : i < 220) {fs : List Value} (hf : J S i = .inr (ci, fs)) (hv : fs[k]? = some (va_rf (os b (gq S r k)))) {K : Nat → Option ρ} {res : ρ} (h : w_on (gq S r k) none (fun q => w_chk (shOk q) (K q)) = some res) (hdg : decode cc pc = .ok (.getfield index, 3))
    (kk : ∀ q : Nat, shOk q → K q = some res → W p l e R s m args below meth c H locs cells slots Q (F0 m (pc + 3) ls (.ref (b + q) :: rest))) : W p l e R s m args below meth c H locs cells slots Q (F0 m (pc) ls (.ref (b + i) :: rest)) := by
  refine m_get F C hM hi hf hv hdg ?_
  cases hq : gq S r k with
  | none => rw [hq] at h; exact absurd (h : none = some res) (fun q => nomatch q)
  | some q =>
    rw [hq] at h
    obtain ⟨h1, h2⟩ := w_chkE (w_onS h)
    exact kk q h1 h2
theorem g_getqf {index ci k r x : Nat} {ty : FieldType} {fin : Bool} (F : mFld own index ci k ty fin) (C : mC p s m args c cc nL own D kc b) (hM : mS D b s 220 (J S) H locs) {i : Nat} (hi : i < 220) {fs : List Value} (hf : J S i = .inr (ci, fs)) (hv : fs[k]? = some (va_rf (os b (gq S r k)))) {A : Option ρ} {res : ρ} (h : w_chk (gq S r k = some x) A = some res) (hdg : decode cc pc = .ok (.getfield index, 3))
    (kk : A = some res → W p l e R s m args below meth c H locs cells slots Q (F0 m (pc + 3) ls (.ref (b + x) :: rest))) : W p l e R s m args below meth c H locs cells slots Q (F0 m (pc) ls (.ref (b + i) :: rest)) := by
  obtain ⟨h1, h2⟩ := w_chkE h
  refine m_get F C hM hi hf hv hdg ?_
  rw [h1]
  exact kk h2
theorem g_getqsN {index ci k r : Nat} {ty : FieldType} {fin : Bool} (F : mFldN own index ci k ty fin) (C : mC p s m args c cc nL own D kc b) (hM : mS D b s 220 (J S) H locs) {i : Nat} (hi : i < 220) {fs : List Value} (hf : J S i = .inr (ci, fs)) (hv : fs[k]? = some (va_rf (os b (gq S r k)))) {K : Nat → Option ρ} {res : ρ} (h : w_on (gq S r k) none (fun q => w_chk (shOk q) (K q)) = some res) (hdg : decode cc pc = .ok (.getfield index, 3))
    (kk : ∀ q : Nat, shOk q → K q = some res → W p l e R s m args below meth c H locs cells slots Q (F0 m (pc + 3) ls (.ref (b + q) :: rest))) : W p l e R s m args below meth c H locs cells slots Q (F0 m (pc) ls (.ref (b + i) :: rest)) := by
  refine m_getN F C hM hi hf hv hdg ?_
  cases hq : gq S r k with
  | none => rw [hq] at h; exact absurd (h : none = some res) (fun q => nomatch q)
  | some q =>
    rw [hq] at h
    obtain ⟨h1, h2⟩ := w_chkE (w_onS h)
    exact kk q h1 h2
theorem g_getqfN {index ci k r x : Nat} {ty : FieldType} {fin : Bool} (F : mFldN own index ci k ty fin) (C : mC p s m args c cc nL own D kc b) (hM : mS D b s 220 (J S) H locs) {i : Nat} (hi : i < 220) {fs : List Value} (hf : J S i = .inr (ci, fs)) (hv : fs[k]? = some (va_rf (os b (gq S r k)))) {A : Option ρ} {res : ρ} (h : w_chk (gq S r k = some x) A = some res) (hdg : decode cc pc = .ok (.getfield index, 3))
    (kk : A = some res → W p l e R s m args below meth c H locs cells slots Q (F0 m (pc + 3) ls (.ref (b + x) :: rest))) : W p l e R s m args below meth c H locs cells slots Q (F0 m (pc) ls (.ref (b + i) :: rest)) := by
  obtain ⟨h1, h2⟩ := w_chkE h
  refine m_getN F C hM hi hf hv hdg ?_
  rw [h1]
  exact kk h2
theorem g_mmax (hexec : p.tables.exec = Jvm.exec) (hb : c.code = cc) (hml : c.maxLocals = ls.size) {index : Nat} (hown : s.vm.findClass own = some m.cls) (hlink : (Cond.methodLink own index Lib.Math.max.name).before args s = true) (hstat : (Cond.static Lib.Math.max.name).before args s = true) (hini : (Cond.initialized "java/lang/Math").before args s = true) (hcode : (Cond.code Lib.Math.max.name Lib.Math.max.code 2 (some .int)).before args s = true) (hframes : 1 ≤ R.frames) (hlocals : (rest.map fun v => v.category).sum + 13 ≤ R.locals) (hc : cells ≤ R.cells) (hs : slots ≤ R.slots) {x y : Int32} {a d : Int} (ha : x.toInt = a) (hd : y.toInt = d) (hdg : decode cc pc = .ok (.invokestatic index, 3)) (kk : ∀ z : Int32, z.toInt = max a d → W p l e R s m args below meth c H locs cells slots Q (F0 m (pc + 3) ls (.int z :: rest))) : W p l e R s m args below meth c H locs cells slots Q (F0 m (pc) ls (.int y :: .int x :: rest)) := by
  refine va_mmax hexec hb hml hown hlink hstat hini hcode hframes hlocals hc hs hdg (kk _ ?_)
  by_cases q : x < y
  · rw [if_pos q]
    rw [Int32.lt_iff_toInt_lt] at q
    omega
  · rw [if_neg q]
    rw [Int32.lt_iff_toInt_lt] at q
    omega
theorem g_mmin (hexec : p.tables.exec = Jvm.exec) (hb : c.code = cc) (hml : c.maxLocals = ls.size) {index : Nat} (hown : s.vm.findClass own = some m.cls) (hlink : (Cond.methodLink own index Lib.Math.min.name).before args s = true) (hstat : (Cond.static Lib.Math.min.name).before args s = true) (hini : (Cond.initialized "java/lang/Math").before args s = true) (hcode : (Cond.code Lib.Math.min.name Lib.Math.min.code 2 (some .int)).before args s = true) (hframes : 1 ≤ R.frames) (hlocals : (rest.map fun v => v.category).sum + 13 ≤ R.locals) (hc : cells ≤ R.cells) (hs : slots ≤ R.slots) {x y : Int32} {a d : Int} (ha : x.toInt = a) (hd : y.toInt = d) (hdg : decode cc pc = .ok (.invokestatic index, 3)) (kk : ∀ z : Int32, z.toInt = min a d → W p l e R s m args below meth c H locs cells slots Q (F0 m (pc + 3) ls (.int z :: rest))) : W p l e R s m args below meth c H locs cells slots Q (F0 m (pc) ls (.int y :: .int x :: rest)) := by
  refine va_mmin hexec hb hml hown hlink hstat hini hcode hframes hlocals hc hs hdg (kk _ ?_)
  by_cases q : y < x
  · rw [if_pos q]
    rw [Int32.lt_iff_toInt_lt] at q
    omega
  · rw [if_neg q]
    rw [Int32.lt_iff_toInt_lt] at q
    omega
theorem g_mabs (hexec : p.tables.exec = Jvm.exec) (hb : c.code = cc) (hml : c.maxLocals = ls.size) {index : Nat} (hown : s.vm.findClass own = some m.cls) (hlink : (Cond.methodLink own index Lib.Math.abs.name).before args s = true) (hstat : (Cond.static Lib.Math.abs.name).before args s = true) (hini : (Cond.initialized "java/lang/Math").before args s = true) (hcode : (Cond.code Lib.Math.abs.name Lib.Math.abs.code 1 (some .int)).before args s = true) (hframes : 1 ≤ R.frames) (hlocals : (rest.map fun v => v.category).sum + 13 ≤ R.locals) (hc : cells ≤ R.cells) (hs : slots ≤ R.slots) {x : Int32} {a : Int} (ha : x.toInt = a) (c1 : i32 (0 - a)) (hdg : decode cc pc = .ok (.invokestatic index, 3)) (kk : ∀ z : Int32, z.toInt = absi a → W p l e R s m args below meth c H locs cells slots Q (F0 m (pc + 3) ls (.int z :: rest))) : W p l e R s m args below meth c H locs cells slots Q (F0 m (pc) ls (.int x :: rest)) := by
  refine va_mabs hexec hb hml hown hlink hstat hini hcode hframes hlocals hc hs hdg (kk _ ?_)
  have h0 : (0 : Int32).toInt = 0 := by decide
  unfold absi
  by_cases q : 0 ≤ x
  · rw [if_pos q]
    rw [Int32.le_iff_toInt_le] at q
    rw [if_pos (by omega)]
    exact ha
  · rw [if_neg q]
    rw [Int32.le_iff_toInt_le] at q
    rw [if_neg (by omega)]
    exact t_sub h0 ha c1.1 c1.2
end GR2
