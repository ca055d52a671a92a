/-! THE HEAP FROM AN ADDRESS b ON, AS A MAP: the cell at b + i is f i, for i < n; nothing else is there, and below b nothing changes. -/
def GW : List Cond := lw_tbl.filter goodWord
theorem gw_of {w : Cond} (i : Nat) (h : lw_tbl[i]? = some w) (hg : goodWord w = true) : w ∈ GW := List.mem_filter.mpr ⟨List.mem_of_getElem? h, hg⟩
theorem gw_good {c0 c1 : Cond} (h : c1 ∈ GW) : GoodIn (c0 :: GW) (c1 :: GW) := by
  intro w hw
  have hw2 : w ∈ GW := by
    rcases List.mem_cons.mp hw with e | e
    · rw [e]; exact h
    · exact e
  exact ⟨List.mem_cons_of_mem _ hw2, good_of_word (List.mem_filter.mp hw2).2⟩
theorem gw_good0 {c1 : Cond} (h : c1 ∈ GW) : GoodIn GW (c1 :: GW) := by
  intro w hw
  have hw2 : w ∈ GW := by
    rcases List.mem_cons.mp hw with e | e
    · rw [e]; exact h
    · exact e
  exact ⟨hw2, good_of_word (List.mem_filter.mp hw2).2⟩
def nestWord : Cond → Bool
  | .fieldLinkNest _ _ _ _ _ _ => true
  | .methodLinkNest _ _ _ _ => true
  | .castable _ _ => true
  | _ => false
def NW : List Cond := lw_tbl.filter nestWord
theorem nw_of {w : Cond} (i : Nat) (h : lw_tbl[i]? = some w) (hg : nestWord w = true) : w ∈ NW := List.mem_filter.mpr ⟨List.mem_of_getElem? h, hg⟩
def mN (U : State) : Prop := ∀ w ∈ NW, va_Nw w U
theorem mN.warm {s U : State} (hW : s.WarmedH U.vm) (h : mN s) : mN U := by
  intro w hw
  have h1 := h w hw
  have h2 : nestWord w = true := (List.mem_filter.mp hw).2
  cases w <;> first | exact va_Nw.warmF hW h1 | exact va_Nw.warmM hW h1 | exact va_Nw.warmC hW h1 | (exact absurd h2 (by simp [nestWord]))
theorem mN.same {s U : State} (hv : s.vm = U.vm) (h : mN s) : mN U := by
  intro w hw
  have h1 := h w hw
  have h2 : nestWord w = true := (List.mem_filter.mp hw).2
  cases w <;> first | exact va_Nw.same rfl hv h1 | (exact absurd h2 (by simp [nestWord]))
def mT (kc : Nat → ClassId) : List (ClassId × FieldType) := [(kc 0, .byte), (kc 1, .int), (kc 2, .long), (kc 3, .boolean), (kc 4, .object RX3)]
def mRk : Nat → Int32 := upd (upd (upd (fun _ => 0) 0 0) 1 1) 2 2
def mPr : Nat → Int32 := upd (upd (upd (upd (upd (fun _ => 0) 0 5) 1 10) 2 10) 3 8) 4 12
/-- a static array of ints that nobody writes -/
def mTab (b t N : Nat) (g : Nat → Int32) (U : State) (H : Heap) : Prop := ∃ cell : Cell, H[t]? = some cell ∧ U.vm.findClass "[I" = some cell.cls ∧ cell.vm ≠ .unknown ∧ cell.vm.isStatics = false ∧ cell.slots.size = N ∧ (∀ j : Nat, j < N → cell.slots[j]? = some (.int (g j))) ∧ ¬ b ≤ t
theorem mTab.moved {b t N : Nat} {g : Nat → Int32} {u U : State} {H : Heap} (hvm : u.vm.Alike U.vm) (h : mTab b t N g u H) : mTab b t N g U H := by
  obtain ⟨cell, h1, h2, h3⟩ := h
  exact ⟨cell, h1, by rw [hvm.findClass]; exact h2, h3⟩
theorem mTab.kept {b t N : Nat} {g : Nat → Int32} {U : State} {H H1 : Heap} (h : mTab b t N g U H) (hq : ∀ a : Nat, a < H.size → ¬ b ≤ a → H1[a]? = H[a]?) : mTab b t N g U H1 := by
  obtain ⟨cell, h1, h2, h3, h4, h5, h6, h7⟩ := h
  exact ⟨cell, by rw [hq t (Array.getElem?_eq_some_iff.mp h1).1 h7]; exact h1, h2, h3, h4, h5, h6, h7⟩
/-- what the statics hold that nobody writes -/
def mZ (b : Nat) (U : State) (H : Heap) : Prop :=
  (∃ t, va_Z "MarkedProof" "FIRST_PRICES" "[I" (.ref t) (fun q => b ≤ q) U H ∧ mTab b t 5 mPr U H) ∧
  va_Zq "java/lang/Throwable" "UNASSIGNED_STACK" "[Ljava/lang/StackTraceElement;" (fun q => b ≤ q) U H ∧
  va_Zq "java/lang/Throwable" "SUPPRESSED_SENTINEL" "Ljava/util/List;" (fun q => b ≤ q) U H
theorem mZ.moved {b : Nat} {u U : State} {H : Heap} (hvm : u.vm.Alike U.vm) (h : mZ b u H) : mZ b U H := by
  obtain ⟨⟨t, h1, h2⟩, h3, h4⟩ := h
  exact ⟨⟨t, va_Z.moved hvm h1, h2.moved hvm⟩, va_Zq.moved hvm h3, va_Zq.moved hvm h4⟩
theorem mZ.kept {b : Nat} {U : State} {H H1 : Heap} (h : mZ b U H) (hq : ∀ a : Nat, a < H.size → ¬ b ≤ a → H1[a]? = H[a]?) : mZ b U H1 := by
  obtain ⟨⟨t, h1, h2⟩, h3, h4⟩ := h
  exact ⟨⟨t, h1.kept hq, h2.kept hq⟩, h3.kept hq, h4.kept hq⟩
def mNu : Nat → Int32 := upd (upd (upd (upd (upd (upd (fun _ => 0) 0 2) 1 1) 2 2) 3 3) 4 3) 5 1
/-- the texts of the String constants -/
def stx (i : Nat) : List Int32 := match i with
  | 0 => [46, 44, 39, 33, 63, 59, 58, 45]
  | 1 => [97, 117, 116, 104, 111, 114]
  | 2 => [114, 101, 97, 100, 101, 114]
  | 3 => [112, 114, 105, 110, 116, 101, 114]
  | 4 => [63]
  | 5 => [115, 116, 114, 105, 107, 101]
  | 6 => [112, 117, 116]
  | 7 => [99, 104, 97, 110, 103, 101]
  | 8 => [116, 117, 114, 110]
  | 9 => [109, 111, 118, 101]
  | 10 => [115, 116, 101, 116]
  | 11 => [61]
  | 12 => [59]
  | _ => []
def mStr (b a v : Nat) (tx : List Int32) (U : State) (H : Heap) : Prop := va_O "java/lang/String" a (fun q => b ≤ q) U H ∧ va_OF "java/lang/String" "coder" "B" (.int 0) a (fun q => b ≤ q) U H ∧ va_OF "java/lang/String" "value" "[B" (.ref v) a (fun q => b ≤ q) U H ∧ va_T .byte v tx.length (fun j => .int (tx.getD j 0)) (fun q => b ≤ q) U H
theorem mStr.moved {b a v : Nat} {tx : List Int32} {u U : State} {H : Heap} (hvm : u.vm.Alike U.vm) (h : mStr b a v tx u H) : mStr b a v tx U H := ⟨va_O.moved hvm h.1, va_OF.moved hvm h.2.1, va_OF.moved hvm h.2.2.1, va_T.moved hvm h.2.2.2⟩
theorem mStr.kept {b a v : Nat} {tx : List Int32} {U : State} {H H1 : Heap} (h : mStr b a v tx U H) (hq : ∀ a : Nat, a < H.size → ¬ b ≤ a → H1[a]? = H[a]?) : mStr b a v tx U H1 := ⟨h.1.kept hq, h.2.1.kept hq, h.2.2.1.kept hq, h.2.2.2.kept hq⟩
/-- where String constants are loaded: class, entry, text, which of the texts -/
def mRefs : List (String × Nat × String × Nat) := [(RX11, 232, ".,'!?;:-", 0), (RX4, 102, "author", 1), (RX4, 104, "reader", 2), (RX4, 106, "printer", 3), (RX4, 72, "?", 4), (RX4, 108, "strike", 5), (RX4, 110, "put", 6), (RX4, 112, "change", 7), (RX4, 114, "turn", 8), (RX4, 116, "move", 9), (RX4, 118, "stet", 10), (RX4, 95, "=", 11), (RX4, 100, ";", 12), (RX13, 181, "author", 1), (RX13, 187, "reader", 2), (RX13, 189, "printer", 3), (RX13, 191, "?", 4), (RX13, 193, "strike", 5), (RX13, 195, "put", 6), (RX13, 197, "change", 7), (RX13, 199, "turn", 8), (RX13, 201, "move", 9), (RX13, 203, "stet", 10), (RX13, 217, "=", 11), (RX13, 215, ";", 12)]
/-- the statics and String constants that are only read -/
def mX (kc : Nat → ClassId) (b : Nat) (U : State) (H : Heap) : Prop :=
  (∃ t, va_Z "MarkedProof" "NUMBERS" "[I" (.ref t) (fun q => b ≤ q) U H ∧ va_T .int t 6 (fun j => .int (mNu j)) (fun q => b ≤ q) U H) ∧
  va_Z "java/lang/String" "COMPACT_STRINGS" "Z" (.int 1) (fun q => b ≤ q) U H ∧
  va_Zq "jdk/internal/util/Preconditions" "SIOOBE_FORMATTER" "Ljava/util/function/BiFunction;" (fun q => b ≤ q) U H ∧
  (∀ i, i < 13 → mStr b (kc (100 + i)) (kc (200 + i)) (stx i) U H) ∧
  (∀ q ∈ mRefs, vk_R q.1 q.2.1 q.2.2.1 (kc (100 + q.2.2.2)) U)
theorem mX.warm {kc : Nat → ClassId} {b : Nat} {s U : State} {H : Heap} (hW : s.WarmedH U.vm) (h : mX kc b s H) : mX kc b U H := by
  obtain ⟨⟨t, h1, h2⟩, h3, h4, h5, h6⟩ := h
  exact ⟨⟨t, va_Z.moved hW.alike h1, va_T.moved hW.alike h2⟩, va_Z.moved hW.alike h3, va_Zq.moved hW.alike h4, fun i hi => (h5 i hi).moved hW.alike, fun q hq => vk_R.warm hW (h6 q hq)⟩
theorem mX.same {kc : Nat → ClassId} {b : Nat} {s U : State} {H : Heap} (hv : s.vm = U.vm) (h : mX kc b s H) : mX kc b U H := by
  have ha : s.vm.Alike U.vm := by rw [← hv]; exact Vm.Alike.refl s.vm
  obtain ⟨⟨t, h1, h2⟩, h3, h4, h5, h6⟩ := h
  exact ⟨⟨t, va_Z.moved ha h1, va_T.moved ha h2⟩, va_Z.moved ha h3, va_Zq.moved ha h4, fun i hi => (h5 i hi).moved ha, fun q hq => vk_R.same hv.symm (h6 q hq)⟩
theorem mX.kept {kc : Nat → ClassId} {b : Nat} {U : State} {H H1 : Heap} (h : mX kc b U H) (hq : ∀ a : Nat, a < H.size → ¬ b ≤ a → H1[a]? = H[a]?) : mX kc b U H1 := by
  obtain ⟨⟨t, h1, h2⟩, h3, h4, h5, h6⟩ := h
  exact ⟨⟨t, h1.kept hq, h2.kept hq⟩, h3.kept hq, h4.kept hq, fun i hi => (h5 i hi).kept hq, h6⟩
def mE (D : va_G) (kc : Nat → ClassId) (b : Nat) (U : State) (H : Heap) : Prop := va_K D vwCl (mT kc) U ∧ mN U ∧ va_AO RX3 U ∧ mZ b U H ∧ mX kc b U H
theorem mE.warm {D : va_G} {kc : Nat → ClassId} {b : Nat} {s U : State} {H H1 : Heap} (hW : s.WarmedH U.vm) (h : mE D kc b s H) (hq : ∀ a : Nat, a < H.size → ¬ b ≤ a → H1[a]? = H[a]?) : mE D kc b U H1 :=
  ⟨va_K.moved hW.alike h.1, h.2.1.warm hW, va_AO.moved hW.alike h.2.2.1, (h.2.2.2.1.moved hW.alike).kept hq, (h.2.2.2.2.warm hW).kept hq⟩
theorem mE.same {D : va_G} {kc : Nat → ClassId} {b : Nat} {s U : State} {H : Heap} (hv : s.vm = U.vm) (h : mE D kc b s H) : mE D kc b U H := by
  have ha : s.vm.Alike U.vm := by rw [← hv]; exact Vm.Alike.refl s.vm
  exact ⟨va_K.moved ha h.1, h.2.1.same hv, va_AO.moved ha h.2.2.1, h.2.2.2.1.moved ha, h.2.2.2.2.same hv⟩
def mP (D : va_G) (b n : Nat) (f : Nat → va_E) (H : Heap) : Prop := H.size = b + n ∧ ∀ i, i < n → va_at D vwCl (b + i, f i) H
theorem mP.at {D : va_G} {b n : Nat} {f : Nat → va_E} {H : Heap} (h : mP D b n f H) {i : Nat} (hi : i < n) {x : va_E} (he : f i = x) : va_at D vwCl (b + i, x) H := by
  rw [← he]; exact h.2 i hi
theorem mP.one {D : va_G} {b n : Nat} {f : Nat → va_E} {H : Heap} (h : mP D b n f H) {i : Nat} (hi : i < n) {x : va_E} (he : f i = x) : va_P D vwCl [(b + i, x)] H := by
  intro k q hk
  cases k with
  | zero =>
    cases hk
    exact h.at hi he
  | succ k => simp at hk
def mS (D : va_G) (b : Nat) (s : State) (n : Nat) (f : Nat → va_E) (H : Heap) (locs : List Loc) : Prop := mP D b n f H ∧ va_S (fun q => b ≤ q) s.heap H locs
theorem mS.set {D : va_G} {b : Nat} {s : State} {n : Nat} {f : Nat → va_E} {H H1 : Heap} {locs : List Loc} {i : Nat} {x : va_E} (h : mS D b s n f H locs) (hz : H1.size = H.size) (oq : ∀ q : Nat, q ≠ b + i → H1[q]? = H[q]?) (hx : va_at D vwCl (b + i, x) H1) (k : Nat) : mS D b s n (va_up f i x) H1 (locs ++ [⟨b + i, k⟩]) := by
  refine ⟨⟨hz.trans h.1.1, fun j hj => ?_⟩, h.2.put hz oq (Nat.le_add_right b i)⟩
  by_cases e : j = i
  · subst e
    simp only [va_up, if_pos]
    exact hx
  · simp only [va_up, if_neg e]
    exact (h.1.2 j hj).kept (oq (b + j) (by omega))
theorem mS.push {D : va_G} {b : Nat} {s : State} {n : Nat} {f : Nat → va_E} {H H1 : Heap} {locs : List Loc} {x : va_E} (h : mS D b s n f H locs) (hz : H1.size = H.size + 1) (oq : ∀ q : Nat, q < H.size → H1[q]? = H[q]?) (hx : va_at D vwCl (b + n, x) H1) : mS D b s (n + 1) (va_up f n x) H1 locs := by
  have h0 := h.1.1
  refine ⟨⟨by omega, fun j hj => ?_⟩, Nat.le_trans h.2.1 (by omega), fun q h1 h2 => (oq q (Nat.lt_of_lt_of_le h1 h.2.1)).trans (h.2.2.1 q h1 h2), h.2.2.2⟩
  by_cases e : j = n
  · subst e
    simp only [va_up, if_pos]
    exact hx
  · simp only [va_up, if_neg e]
    exact (h.1.2 j (by omega)).kept (oq (b + j) (by omega))
/-- a method's standing facts -/
def mC (p : Program) (s : State) (m : MethodId) (args : Array Value) (c : Code) (cc : ByteArray) (nL : Nat) (own : String) (D : va_G) (kc : Nat → ClassId) (b : Nat) : Prop :=
  p.tables.exec = Jvm.exec ∧ c.code = cc ∧ c.maxLocals = nL ∧ s.vm.findClass own = some m.cls ∧ (∀ w ∈ GW, w.before args s = true) ∧ mE D kc b s s.heap ∧ b ≤ s.heap.size
/-- a field, by its place in the constant pool of own -/
def mFld (own : String) (index ci k : Nat) (ty : FieldType) (fin : Bool) : Prop := ∃ (C : String) (T : u_T) (N : Nat) (ty0 : Nat → FieldType), vwCl[ci]? = some (C, T, N) ∧ (∀ w ∈ u_ws C T N, w ∈ GW) ∧ (∀ k, k < N → parseFieldDescriptor (T k).2.2.1 = some (ty0 k)) ∧ (∀ a, a < N → ∀ b, b < N → a ≠ b → (T a).2.1 ≠ (T b).2.1) ∧ k < N ∧ parseFieldDescriptor (T k).2.2.1 = some ty ∧ (T k).2.2.2 = fin ∧ Cond.fieldLink own index (T k).1 (T k).2.1 (T k).2.2.1 ∈ GW
def mFldN (own : String) (index ci k : Nat) (ty : FieldType) (fin : Bool) : Prop := ∃ (C : String) (T : u_T) (N : Nat) (ty0 : Nat → FieldType) (host : String), vwCl[ci]? = some (C, T, N) ∧ (∀ w ∈ u_ws C T N, w ∈ GW) ∧ (∀ k, k < N → parseFieldDescriptor (T k).2.2.1 = some (ty0 k)) ∧ (∀ a, a < N → ∀ b, b < N → a ≠ b → (T a).2.1 ≠ (T b).2.1) ∧ k < N ∧ parseFieldDescriptor (T k).2.2.1 = some ty ∧ (T k).2.2.2 = fin ∧ Cond.fieldLinkNest own index (T k).1 (T k).2.1 (T k).2.2.1 host ∈ NW
def mCls (C : String) (index : Nat) (own : String) (ci N : Nat) (fs : List Value) : Prop := ∃ (T : u_T) (ty : Nat → FieldType), vwCl[ci]? = some (C, T, N) ∧ (∀ w ∈ u_ws C T N, w ∈ GW) ∧ (∀ k, k < N → parseFieldDescriptor (T k).2.2.1 = some (ty k)) ∧ (∀ j, j < N → defaultValue (ty j) = vp_V fs j) ∧ Cond.classLink own index C ∈ GW ∧ Cond.instantiable C N ∈ GW ∧ Cond.initialized C ∈ GW
theorem m_ne {f f1 : Nat → va_E} {i j : Nat} {x y : va_E} (ef : f1 = va_up f i x) (h : f j = y) (hij : j ≠ i) : f1 j = y := by rw [ef]; simp only [va_up, if_neg hij]; exact h
theorem m_eq {f f1 : Nat → va_E} {i : Nat} {x : va_E} (ef : f1 = va_up f i x) : f1 i = x := by rw [ef]; simp only [va_up, if_pos]
theorem m_in {i : Int32} {n : Nat} (h : (decide (i < 0) || decide (n ≤ i.toNatClampNeg)) = false) : vp_in i n := by
  intro h2
  rcases h2 with h2 | h2 <;> simp [h2] at h
section MR
variable {p : Program} {l : Launch} {e : Env} {R : Room} {s : State} {m : MethodId} {args : Array Value} {below : List Frame} {meth : Method} {c : Code} {H : Heap} {locs : List Loc} {cells slots : Nat} {Q : State → Prop}
variable {cc : ByteArray} {pc nL : Nat} {ls : Array Slot} {rest : List Value} {own : String} {D : va_G} {kc : Nat → ClassId} {b n : Nat} {f : Nat → va_E}
theorem m_vi {x y : Int32} (h : x = y) (k : W p l e R s m args below meth c H locs cells slots Q (F0 m pc ls (.int y :: rest))) : W p l e R s m args below meth c H locs cells slots Q (F0 m pc ls (.int x :: rest)) := h ▸ k
theorem m_vl {x y : Int64} (h : x = y) (k : W p l e R s m args below meth c H locs cells slots Q (F0 m pc ls (.long y :: rest))) : W p l e R s m args below meth c H locs cells slots Q (F0 m pc ls (.long x :: rest)) := h ▸ k
theorem m_vv {x y : Value} (h : x = y) (k : W p l e R s m args below meth c H locs cells slots Q (F0 m pc ls (y :: rest))) : W p l e R s m args below meth c H locs cells slots Q (F0 m pc ls (x :: rest)) := h ▸ k
theorem m_get {index ci k : Nat} {ty : FieldType} {fin : Bool} (F : mFld own index ci k ty fin) (C : mC p s m args c cc nL own D kc b) (hM : mS D b s n f H locs) {i : Nat} (hi : i < n) {fs : List Value} (hf : f i = .inr (ci, fs)) {v : Value} (hv : fs[k]? = some v) (hdg : decode cc pc = .ok (.getfield index, 3))
    (kk : W p l e R s m args below meth c H locs cells slots Q (F0 m (pc + 3) ls (v :: rest))) : W p l e R s m args below meth c H locs cells slots Q (F0 m pc ls (.ref (b + i) :: rest)) := by
  obtain ⟨hx, hb, hml, hown, hts, hE, hbs⟩ := C
  obtain ⟨Cn, T, N, ty0, hc, hin, hty, hnm, hk, hd, hfin, hl⟩ := F
  exact va_get hx hb hts hin hown hE.1 (hM.1.one hi hf) 0 rfl hc k hk (hts _ hl) (fun _ h => h) hv hdg kk
theorem m_getN {index ci k : Nat} {ty : FieldType} {fin : Bool} (F : mFldN own index ci k ty fin) (C : mC p s m args c cc nL own D kc b) (hM : mS D b s n f H locs) {i : Nat} (hi : i < n) {fs : List Value} (hf : f i = .inr (ci, fs)) {v : Value} (hv : fs[k]? = some v) (hdg : decode cc pc = .ok (.getfield index, 3))
    (kk : W p l e R s m args below meth c H locs cells slots Q (F0 m (pc + 3) ls (v :: rest))) : W p l e R s m args below meth c H locs cells slots Q (F0 m pc ls (.ref (b + i) :: rest)) := by
  obtain ⟨hx, hb, hml, hown, hts, hE, hbs⟩ := C
  obtain ⟨Cn, T, N, ty0, host, hc, hin, hty, hnm, hk, hd, hfin, hl⟩ := F
  exact va_getN hx hb hts hin hown hE.1 (hM.1.one hi hf) 0 rfl hc k hk (va_Nw.use rfl (hE.2.1 _ hl)) (fun _ h => h) hv hdg kk
theorem m_put {index ci k : Nat} {ty : FieldType} (F : mFld own index ci k ty false) (C : mC p s m args c cc nL own D kc b) (hM : mS D b s n f H locs) {i : Nat} (hi : i < n) {fs : List Value} (hf : f i = .inr (ci, fs)) {v : Value} (hn : narrow ty v = v) (hfit : fits ty v = true) (hlen : k < fs.length) {fs1 : List Value} (hfs : fs.set k v = fs1) (hdg : decode cc pc = .ok (.putfield index, 3))
    (kk : ∀ (H1 : Heap) (locs1 : List Loc) (f1 : Nat → va_E), f1 = va_up f i (.inr (ci, fs1)) → mS D b s n f1 H1 locs1 → W p l e R s m args below meth c H1 locs1 cells slots Q (F0 m (pc + 3) ls rest)) : W p l e R s m args below meth c H locs cells slots Q (F0 m pc ls (v :: .ref (b + i) :: rest)) := by
  obtain ⟨hx, hb, hml, hown, hts, hE, hbs⟩ := C
  obtain ⟨Cn, T, N, ty0, hc, hin, hty, hnm, hk, hd, hfin, hl⟩ := F
  have hap := va_apart (own := own) hts hin ty0 hty hnm hE.1 hc
  obtain ⟨r, h1, cell, q1, q2, q3, q4⟩ := hM.1.at hi hf
  have hr : r = (Cn, T, N) := Option.some.inj (h1.symm.trans hc)
  subst hr
  obtain ⟨hS, hfc, kC, hkC, hkind⟩ := hE.1.1 ci _ hc
  obtain ⟨cf, kf, fi, fd, hi2, hsl⟩ := hS k hk
  have hlay := hts _ (hin _ (u_in_lay hk))
  unfold u_lay at hlay
  rw [if_neg (by rw [hfin]; decide)] at hlay
  have hst := (u_facts hfc hkC (u_lays hts hin hk) hi2).1
  have h6 := u_store hfc hkC hkind hlay hi2 hd hn hfit
  refine W.putK hx hb (f := fd) ⟨hown, hts _ hl, ⟨_, _, _, hi2⟩, hst⟩ (by rw [q2]; exact h6) q1 q3 (by rw [hsl]; exact k2_hasslot (q4 k hk)) rfl rfl hdg fun H' e1 e2 e3 => ?_
  rw [hsl] at e1 ⊢
  subst hfs
  exact kk H' _ _ rfl (hM.set (x := .inr (ci, fs.set k v)) e2 e3 ⟨_, hc, t_OB.to (V := updV (vp_V fs) k v) ⟨_, e1, q2, q3, t_set q4 hap hk v⟩ (fun j _ => vp_updV_set hlen v j)⟩ _)
theorem m_putN {index ci k : Nat} {ty : FieldType} (F : mFldN own index ci k ty false) (C : mC p s m args c cc nL own D kc b) (hM : mS D b s n f H locs) {i : Nat} (hi : i < n) {fs : List Value} (hf : f i = .inr (ci, fs)) {v : Value} (hn : narrow ty v = v) (hfit : fits ty v = true) (hlen : k < fs.length) {fs1 : List Value} (hfs : fs.set k v = fs1) (hdg : decode cc pc = .ok (.putfield index, 3))
    (kk : ∀ (H1 : Heap) (locs1 : List Loc) (f1 : Nat → va_E), f1 = va_up f i (.inr (ci, fs1)) → mS D b s n f1 H1 locs1 → W p l e R s m args below meth c H1 locs1 cells slots Q (F0 m (pc + 3) ls rest)) : W p l e R s m args below meth c H locs cells slots Q (F0 m pc ls (v :: .ref (b + i) :: rest)) := by
  obtain ⟨hx, hb, hml, hown, hts, hE, hbs⟩ := C
  obtain ⟨Cn, T, N, ty0, host, hc, hin, hty, hnm, hk, hd, hfin, hl⟩ := F
  have hap := va_apart (own := own) hts hin ty0 hty hnm hE.1 hc
  obtain ⟨r, h1, cell, q1, q2, q3, q4⟩ := hM.1.at hi hf
  have hr : r = (Cn, T, N) := Option.some.inj (h1.symm.trans hc)
  subst hr
  obtain ⟨hS, hfc, kC, hkC, hkind⟩ := hE.1.1 ci _ hc
  obtain ⟨cf, kf, fi, fd, hi2, hsl⟩ := hS k hk
  have hlay := hts _ (hin _ (u_in_lay hk))
  unfold u_lay at hlay
  rw [if_neg (by rw [hfin]; decide)] at hlay
  have hst := (u_facts hfc hkC (u_lays hts hin hk) hi2).1
  have h6 := u_store hfc hkC hkind hlay hi2 hd hn hfit
  refine va_WputK hx hb (f := fd) hown (va_Nw.use rfl (hE.2.1 _ hl)) hi2 hst (by rw [q2]; exact h6) q1 q3 (by rw [hsl]; exact k2_hasslot (q4 k hk)) rfl rfl hdg fun H' e1 e2 e3 => ?_
  rw [hsl] at e1 ⊢
  subst hfs
  exact kk H' _ _ rfl (hM.set (x := .inr (ci, fs.set k v)) e2 e3 ⟨_, hc, t_OB.to (V := updV (vp_V fs) k v) ⟨_, e1, q2, q3, t_set q4 hap hk v⟩ (fun j _ => vp_updV_set hlen v j)⟩ _)
theorem m_putF {index ci k : Nat} {ty : FieldType} (F : mFld own index ci k ty true) (C : mC p s m args c cc nL own D kc b) (hin2 : meth.name = "<init>") (hM : mS D b s n f H locs) {i : Nat} (hi : i < n) {fs : List Value} (hf : f i = .inr (ci, fs)) {v : Value} (hn : narrow ty v = v) (hfit : fits ty v = true) (hlen : k < fs.length) {fs1 : List Value} (hfs : fs.set k v = fs1) (hdecl : ∀ q, vwCl[ci]? = some q → (q.2.1 k).1 = own) (hdg : decode cc pc = .ok (.putfield index, 3))
    (kk : ∀ (H1 : Heap) (locs1 : List Loc) (f1 : Nat → va_E), f1 = va_up f i (.inr (ci, fs1)) → mS D b s n f1 H1 locs1 → W p l e R s m args below meth c H1 locs1 cells slots Q (F0 m (pc + 3) ls rest)) : W p l e R s m args below meth c H locs cells slots Q (F0 m pc ls (v :: .ref (b + i) :: rest)) := by
  obtain ⟨hx, hb, hml, hown, hts, hE, hbs⟩ := C
  obtain ⟨Cn, T, N, ty0, hc, hin, hty, hnm, hk, hd, hfin, hl⟩ := F
  have hdecl := hdecl _ hc
  have hap := va_apart (own := own) hts hin ty0 hty hnm hE.1 hc
  obtain ⟨r, h1, cell, q1, q2, q3, q4⟩ := hM.1.at hi hf
  have hr : r = (Cn, T, N) := Option.some.inj (h1.symm.trans hc)
  subst hr
  obtain ⟨hS, hfc, kC, hkC, hkind⟩ := hE.1.1 ci _ hc
  obtain ⟨cf, kf, fi, fd, hi2, hsl⟩ := hS k hk
  have hlay := hts _ (hin _ (u_in_lay hk))
  unfold u_lay at hlay
  rw [if_pos hfin] at hlay
  have hst := (u_facts hfc hkC (u_lays hts hin hk) hi2).1
  have hcf : m.cls = cf := by
    obtain ⟨_, _, c', _, _, _, -, -, hf', -, -, -, hown2, -⟩ := Cond.laysFinal_spec hlay
    have e1 : c' = cf := by have := hi2.symm.trans hf'; simp at this; exact this.1.symm
    rw [hdecl] at hown2
    rw [← e1]; exact Option.some.inj (hown.symm.trans hown2)
  have h6 := u_fits hfc hkC hkind (Or.inr hlay) hi2 hd hn hfit
  refine W.putFinK hx hb hown (hts _ hl) hi2 hst hcf hin2 (by rw [q2]; exact h6) q1 q3 (by rw [hsl]; exact k2_hasslot (q4 k hk)) rfl rfl hdg fun H' e1 e2 e3 => ?_
  rw [hsl] at e1 ⊢
  subst hfs
  exact kk H' _ _ rfl (hM.set (x := .inr (ci, fs.set k v)) e2 e3 ⟨_, hc, t_OB.to (V := updV (vp_V fs) k v) ⟨_, e1, q2, q3, t_set q4 hap hk v⟩ (fun j _ => vp_updV_set hlen v j)⟩ _)
theorem m_iald (C : mC p s m args c cc nL own D kc b) (hM : mS D b s n f H locs) {j : Nat} (hj : j < n) {N : Nat} {g : Nat → Int32} (hf : f j = .inl (kc 1, N, .inl g)) {i : Int32} (hin : vp_in i N) (hdg : decode cc pc = .ok (.iaload, 1))
    (kk : W p l e R s m args below meth c H locs cells slots Q (F0 m (pc + 1) ls (.int (g i.toNatClampNeg) :: rest))) : W p l e R s m args below meth c H locs cells slots Q (F0 m pc ls (.int i :: .ref (b + j) :: rest)) :=
  va_iald C.1 C.2.1 C.2.2.2.2.2.1.1 (hM.1.one hj hf) 0 1 rfl rfl hin hdg kk
theorem m_bald (C : mC p s m args c cc nL own D kc b) (hM : mS D b s n f H locs) {j : Nat} (hj : j < n) {N : Nat} {g : Nat → Int32} (hf : f j = .inl (kc 0, N, .inl g)) {i : Int32} (hin : vp_in i N) (hdg : decode cc pc = .ok (.baload, 1))
    (kk : W p l e R s m args below meth c H locs cells slots Q (F0 m (pc + 1) ls (.int (g i.toNatClampNeg) :: rest))) : W p l e R s m args below meth c H locs cells slots Q (F0 m pc ls (.int i :: .ref (b + j) :: rest)) :=
  va_bald C.1 C.2.1 C.2.2.2.2.2.1.1 (hM.1.one hj hf) 0 0 rfl rfl hin hdg kk
theorem m_zald (C : mC p s m args c cc nL own D kc b) (hM : mS D b s n f H locs) {j : Nat} (hj : j < n) {N : Nat} {g : Nat → Int32} (hf : f j = .inl (kc 3, N, .inl g)) {i : Int32} (hin : vp_in i N) (hdg : decode cc pc = .ok (.baload, 1))
    (kk : W p l e R s m args below meth c H locs cells slots Q (F0 m (pc + 1) ls (.int (g i.toNatClampNeg) :: rest))) : W p l e R s m args below meth c H locs cells slots Q (F0 m pc ls (.int i :: .ref (b + j) :: rest)) :=
  va_zald C.1 C.2.1 C.2.2.2.2.2.1.1 (hM.1.one hj hf) 0 3 rfl rfl hin hdg kk
theorem m_lald (C : mC p s m args c cc nL own D kc b) (hM : mS D b s n f H locs) {j : Nat} (hj : j < n) {N : Nat} {g : Nat → Int64} (hf : f j = .inl (kc 2, N, .inr (.inl g))) {i : Int32} (hin : vp_in i N) (hdg : decode cc pc = .ok (.laload, 1))
    (kk : W p l e R s m args below meth c H locs cells slots Q (F0 m (pc + 1) ls (.long (g i.toNatClampNeg) :: rest))) : W p l e R s m args below meth c H locs cells slots Q (F0 m pc ls (.int i :: .ref (b + j) :: rest)) :=
  va_lald C.1 C.2.1 C.2.2.2.2.2.1.1 (hM.1.one hj hf) 0 2 rfl rfl hin hdg kk
theorem m_aald (C : mC p s m args c cc nL own D kc b) (hM : mS D b s n f H locs) {j : Nat} (hj : j < n) {N : Nat} {g : Nat → Option Nat} (hf : f j = .inl (kc 4, N, .inr (.inr (.inr (.inr g))))) {i : Int32} (hin : vp_in i N) (hdg : decode cc pc = .ok (.aaload, 1))
    (kk : W p l e R s m args below meth c H locs cells slots Q (F0 m (pc + 1) ls (va_rf (g i.toNatClampNeg) :: rest))) : W p l e R s m args below meth c H locs cells slots Q (F0 m pc ls (.int i :: .ref (b + j) :: rest)) :=
  va_aldq C.1 C.2.1 C.2.2.2.2.2.1.1 (hM.1.one hj hf) 0 4 rfl rfl hin hdg kk
/-- the length of an array of ours, whatever its kind is (t: its place among the kinds) -/
theorem m_alen (C : mC p s m args c cc nL own D kc b) (hM : mS D b s n f H locs) {j : Nat} (hj : j < n) (t : Nat) {x : vp_A} (hf : f j = .inl (kc t, x)) {ty : FieldType} (ht : (mT kc)[t]? = some (kc t, ty)) {v : Int32} (hv : Int32.ofNat x.1 = v) (hdg : decode cc pc = .ok (.arraylength, 1))
    (kk : W p l e R s m args below meth c H locs cells slots Q (F0 m (pc + 1) ls (.int v :: rest))) : W p l e R s m args below meth c H locs cells slots Q (F0 m pc ls (.ref (b + j) :: rest)) :=
  va_alen C.1 C.2.1 C.2.2.2.2.2.1.1 (hM.1.one hj hf) 0 t rfl ht hv hdg kk
theorem m_upI (cA : ClassId) (N : Nat) (g : Nat → Int32) (k : Nat) (x : Int32) : (vp_cell cA (N, .inl g)).setSlot k (.int x) = vp_cell cA (N, .inl (upd g k x)) := by
  rw [vp_cell_i, vp_cell_i, arrV_store]
  congr 1
  funext q
  by_cases hq : q = k
  · subst hq; simp [updV, upd]
  · simp [updV, upd, hq]
theorem m_upL (cA : ClassId) (N : Nat) (g : Nat → Int64) (k : Nat) (x : Int64) : (vp_cell cA (N, .inr (.inl g))).setSlot k (.long x) = vp_cell cA (N, .inr (.inl (vp_updL g k x))) := by
  rw [vp_cell_l, vp_cell_l, arrV_store]
  congr 1
  funext q
  by_cases hq : q = k
  · subst hq; simp [updV, vp_updL]
  · simp [updV, vp_updL, hq]
theorem m_upQ (cA : ClassId) (N : Nat) (g : Nat → Option Nat) (k : Nat) (x : Nat) : (vp_cell cA (N, .inr (.inr (.inr (.inr g))))).setSlot k (.ref x) = vp_cell cA (N, .inr (.inr (.inr (.inr (va_up g k (some x)))))) := by
  rw [vp_cell_q, vp_cell_q, arrV_store]
  congr 1
  funext q
  by_cases hq : q = k
  · subst hq; simp [updV, va_up, va_rf]
  · simp [updV, va_up, hq]
theorem m_iast (C : mC p s m args c cc nL own D kc b) (hM : mS D b s n f H locs) {j : Nat} (hj : j < n) {N : Nat} {g : Nat → Int32} (hf : f j = .inl (kc 1, N, .inl g)) {i x : Int32} (hin : vp_in i N) (hdg : decode cc pc = .ok (.iastore, 1))
    (kk : ∀ (H1 : Heap) (locs1 : List Loc) (f1 : Nat → va_E), f1 = va_up f j (.inl (kc 1, N, .inl (upd g i.toNatClampNeg x))) → mS D b s n f1 H1 locs1 → W p l e R s m args below meth c H1 locs1 cells slots Q (F0 m (pc + 1) ls rest)) : W p l e R s m args below meth c H locs cells slots Q (F0 m pc ls (.int x :: .int i :: .ref (b + j) :: rest)) := by
  have hat := hM.1.at hj hf
  refine W.iast C.1 C.2.1 hat ((C.2.2.2.2.2.1.1.2 1 _ rfl).1 N (fun j => .int (g j))) (fun q => by cases q) (by show ¬ (i < 0 ∨ (arrV _ _ _).slots.size ≤ _); rw [arrV_size]; exact hin) rfl rfl hdg fun H1 e1 z oq => ?_
  exact kk H1 _ _ rfl (hM.set z oq (by show H1[b + j]? = some (vp_cell _ _); rw [e1, m_upI]) _)
theorem m_bast (C : mC p s m args c cc nL own D kc b) (hM : mS D b s n f H locs) {j : Nat} (hj : j < n) {N : Nat} {g : Nat → Int32} (hf : f j = .inl (kc 0, N, .inl g)) {i x : Int32} (hin : vp_in i N) (hdg : decode cc pc = .ok (.bastore, 1))
    (kk : ∀ (H1 : Heap) (locs1 : List Loc) (f1 : Nat → va_E), f1 = va_up f j (.inl (kc 0, N, .inl (upd g i.toNatClampNeg x.toInt8.toInt32))) → mS D b s n f1 H1 locs1 → W p l e R s m args below meth c H1 locs1 cells slots Q (F0 m (pc + 1) ls rest)) : W p l e R s m args below meth c H locs cells slots Q (F0 m pc ls (.int x :: .int i :: .ref (b + j) :: rest)) := by
  have hat := hM.1.at hj hf
  refine W.bast C.1 C.2.1 hat ((C.2.2.2.2.2.1.1.2 0 _ rfl).1 N (fun j => .int (g j))) (fun q => by cases q) (by show ¬ (i < 0 ∨ (arrV _ _ _).slots.size ≤ _); rw [arrV_size]; exact hin) rfl rfl hdg fun H1 e1 z oq => ?_
  exact kk H1 _ _ rfl (hM.set z oq (by show H1[b + j]? = some (vp_cell _ _); rw [e1, ← m_upI]; rfl) _)
theorem m_zast (C : mC p s m args c cc nL own D kc b) (hM : mS D b s n f H locs) {j : Nat} (hj : j < n) {N : Nat} {g : Nat → Int32} (hf : f j = .inl (kc 3, N, .inl g)) {i x : Int32} (hin : vp_in i N) (hx : vp_nar .boolean x = x) (hdg : decode cc pc = .ok (.bastore, 1))
    (kk : ∀ (H1 : Heap) (locs1 : List Loc) (f1 : Nat → va_E), f1 = va_up f j (.inl (kc 3, N, .inl (upd g i.toNatClampNeg x))) → mS D b s n f1 H1 locs1 → W p l e R s m args below meth c H1 locs1 cells slots Q (F0 m (pc + 1) ls rest)) : W p l e R s m args below meth c H locs cells slots Q (F0 m pc ls (.int x :: .int i :: .ref (b + j) :: rest)) := by
  have hat := hM.1.at hj hf
  refine W.zast C.1 C.2.1 hat ((C.2.2.2.2.2.1.1.2 3 _ rfl).1 N (fun j => .int (g j))) (fun q => by cases q) (by show ¬ (i < 0 ∨ (arrV _ _ _).slots.size ≤ _); rw [arrV_size]; exact hin) rfl rfl hdg fun H1 e1 z oq => ?_
  refine kk H1 _ _ rfl (hM.set z oq (by show H1[b + j]? = some (vp_cell _ _); rw [e1, ← hx, ← m_upI]; rw [hx]; have h9 : narrow .boolean (.int x) = .int (vp_nar .boolean x) := rfl; rw [h9, hx]) _)
theorem m_last (C : mC p s m args c cc nL own D kc b) (hM : mS D b s n f H locs) {j : Nat} (hj : j < n) {N : Nat} {g : Nat → Int64} (hf : f j = .inl (kc 2, N, .inr (.inl g))) {i : Int32} {x : Int64} (hin : vp_in i N) (hdg : decode cc pc = .ok (.lastore, 1))
    (kk : ∀ (H1 : Heap) (locs1 : List Loc) (f1 : Nat → va_E), f1 = va_up f j (.inl (kc 2, N, .inr (.inl (vp_updL g i.toNatClampNeg x)))) → mS D b s n f1 H1 locs1 → W p l e R s m args below meth c H1 locs1 cells slots Q (F0 m (pc + 1) ls rest)) : W p l e R s m args below meth c H locs cells slots Q (F0 m pc ls (.long x :: .int i :: .ref (b + j) :: rest)) := by
  have hat := hM.1.at hj hf
  refine W.last C.1 C.2.1 hat ((C.2.2.2.2.2.1.1.2 2 _ rfl).1 N (fun j => .long (g j))) (fun q => by cases q) (by show ¬ (i < 0 ∨ (arrV _ _ _).slots.size ≤ _); rw [arrV_size]; exact hin) rfl rfl hdg fun H1 e1 z oq => ?_
  exact kk H1 _ _ rfl (hM.set z oq (by show H1[b + j]? = some (vp_cell _ _); rw [e1, m_upL]) _)
theorem m_aast (C : mC p s m args c cc nL own D kc b) (hM : mS D b s n f H locs) {j : Nat} (hj : j < n) {N : Nat} {g : Nat → Option Nat} (hf : f j = .inl (kc 4, N, .inr (.inr (.inr (.inr g))))) {v : Nat} (hv : v < n) {vs : List Value} (hfv : f v = .inr (3, vs)) {i : Int32} (hin : vp_in i N) (hdg : decode cc pc = .ok (.aastore, 1))
    (kk : ∀ (H1 : Heap) (locs1 : List Loc) (f1 : Nat → va_E), f1 = va_up f j (.inl (kc 4, N, .inr (.inr (.inr (.inr (va_up g i.toNatClampNeg (some (b + v)))))))) → mS D b s n f1 H1 locs1 → W p l e R s m args below meth c H1 locs1 cells slots Q (F0 m (pc + 1) ls rest)) : W p l e R s m args below meth c H locs cells slots Q (F0 m pc ls (.ref (b + v) :: .int i :: .ref (b + j) :: rest)) := by
  have hat := hM.1.at hj hf
  have hlt : i.toNatClampNeg < N := Nat.not_le.mp fun q => hin (Or.inr q)
  have h0 : ¬ i < 0 := fun q => hin (Or.inl q)
  obtain ⟨r', hr', cellV, g1, g2, g3, -⟩ := hM.1.at hv hfv
  have hcls := (C.2.2.2.2.2.1.1.1 3 _ rfl).2
  obtain ⟨kA, comp, k1, k2, k3, -⟩ := (C.2.2.2.2.2.1.1.2 4 _ rfl).2
  have hcomp : comp = D.1 3 := Option.some.inj (k3.symm.trans hcls.1)
  subst hcomp
  obtain ⟨kC, hkC, -⟩ := hcls.2
  refine W.aast C.1 C.2.1 hat (fun q h => by cases h) (fun h => by cases h) k1 k2 rfl hkC ⟨h0, by show _ < (arrV _ _ _).slots.size; rw [arrV_size]; exact hlt⟩ g1 (fun q h => by rw [g3] at h; cases h) (by rw [g2]; exact hkC) (by rw [g2]; exact va_assign hcls) rfl rfl hdg fun H1 e1 z oq => ?_
  exact kk H1 _ _ rfl (hM.set z oq (by show H1[b + j]? = some (vp_cell _ _); rw [e1, m_upQ]) _)
end MR
