/-! rows: an instruction, a step of a function of the state -/
def shri (a d : Int) : Int := (oi a >>> (oi d &&& 31)).toInt
def shli (a d : Int) : Int := (oi a <<< (oi d &&& 31)).toInt
def ushri (a d : Int) : Int := ((oi a).toUInt32 >>> ((oi d).toUInt32 &&& Int32.toUInt32 31)).toInt32.toInt
def andi (a d : Int) : Int := (oi a &&& oi d).toInt
def tob (a : Int) : Int := (oi a).toInt8.toInt32.toInt
def toc (a : Int) : Int := ((oi a).toUInt32 % 65536).toInt32.toInt
def l2i (w : Int64) : Int := w.toInt32.toInt
def i2l (a : Int) : Int64 := (oi a).toInt64
def lsh (w : Int64) (d : Int) : Int64 := w <<< ((oi d).toInt64 &&& 63)
theorem i2l_v {a : Int} (h : i32 a) : (i2l a).toInt = a := by unfold i2l; rw [Int32.toInt_toInt64]; exact to_oi h
theorem z_nar {x : Int32} {a : Int} (hx : x.toInt = a) (hz : a = 0 ∨ a = 1) : narrow .boolean (.int x) = .int x := by
  rcases hz with e | e
  · have h : x = 0 := by rw [← Int32.toInt_inj, hx, e]; decide
    subst h; rfl
  · have h : x = 1 := by rw [← Int32.toInt_inj, hx, e]; decide
    subst h; rfl
theorem z_fit {x : Int32} {a : Int} (hx : x.toInt = a) (hz : a = 0 ∨ a = 1) : fits .boolean (.int x) = true := by
  rcases hz with e | e
  · have h : x = 0 := by rw [← Int32.toInt_inj, hx, e]; decide
    subst h; rfl
  · have h : x = 1 := by rw [← Int32.toInt_inj, hx, e]; decide
    subst h; rfl
theorem z_vnar {x : Int32} {a : Int} (hx : x.toInt = a) (hz : a = 0 ∨ a = 1) : vp_nar .boolean x = x := by
  rcases hz with e | e
  · have h : x = 0 := by rw [← Int32.toInt_inj, hx, e]; decide
    subst h; rfl
  · have h : x = 1 := by rw [← Int32.toInt_inj, hx, e]; decide
    subst h; rfl
theorem t_mul {x y : Int32} {a d : Int} (hx : x.toInt = a) (hy : y.toInt = d) (h : i32 (a * d)) : (x * y).toInt = a * d := by
  rw [Int32.toInt_mul, hx, hy]
  exact Int.bmod_eq_of_le_mul_two (by have := h.1; omega) (by have := h.2; omega)
section GR
variable {p : Program} {l : Launch} {e : Env} {R : Room} {s : State} {m : MethodId} {args : Array Value} {below : List Frame} {meth : Method} {c : Code} {H : Heap} {locs : List Loc} {cells slots : Nat} {Q : State → Prop}
variable {cc : ByteArray} {pc nL : Nat} {ls : Array Slot} {rest : List Value} {own : String} {D : va_G} {kc : Nat → ClassId} {b : Nat} {J : SS → Nat → va_E} {S : SS} {ρ : Type}
theorem g_get {index ci k r : Nat} {ty : FieldType} {fin : Bool} (F : mFld own index ci k ty fin) (C : mC p s m args c cc nL own D kc b) (hM : mS D b s 220 (J S) H locs) {i : Nat} (hi : i < 220) {fs : List Value} (hf : J S i = .inr (ci, fs)) (hv : fs[k]? = some (.int (oi (gi S r k)))) (hS : rng S) (hdg : decode cc pc = .ok (.getfield index, 3))
    (kk : ∀ z : Int32, z.toInt = gi S r k → W p l e R s m args below meth c H locs cells slots Q (F0 m (pc + 3) ls (.int z :: rest))) : W p l e R s m args below meth c H locs cells slots Q (F0 m (pc) ls (.ref (b + i) :: rest)) :=
  m_get F C hM hi hf hv hdg (kk _ (to_oi (hS r k)))
theorem g_put {index ci k : Nat} {ty : FieldType} (F : mFld own index ci k ty false) (C : mC p s m args c cc nL own D kc b) (hM : mS D b s 220 (J S) H locs) {i : Nat} (hi : i < 220) {fs : List Value} (hf : J S i = .inr (ci, fs)) {v : Value} (hn : narrow ty v = v) (hfit : fits ty v = true) (hlen : k < fs.length) {fs1 : List Value} (hfs : fs.set k v = fs1) {S1 : SS} (hup : va_up (J S) i (.inr (ci, fs1)) = J S1) (hR : rng S1) {K : SS → ρ} {res : ρ} (h : w_lt S1 K = res) (hdg : decode cc pc = .ok (.putfield index, 3))
    (kk : ∀ (S2 : SS) (H1 : Heap) (locs1 : List Loc), K S2 = res → mS D b s 220 (J S2) H1 locs1 → rng S2 → W p l e R s m args below meth c H1 locs1 cells slots Q (F0 m (pc + 3) ls (rest))) : W p l e R s m args below meth c H locs cells slots Q (F0 m (pc) ls (v :: .ref (b + i) :: rest)) :=
  m_put F C hM hi hf hn hfit hlen hfs hdg (fun H1 locs1 f1 ef hM1 => kk S1 H1 locs1 h (by rw [← hup, ← ef]; exact hM1) hR)
theorem g_getN {index ci k r : Nat} {ty : FieldType} {fin : Bool} (F : mFldN own index ci k ty fin) (C : mC p s m args c cc nL own D kc b) (hM : mS D b s 220 (J S) H locs) {i : Nat} (hi : i < 220) {fs : List Value} (hf : J S i = .inr (ci, fs)) (hv : fs[k]? = some (.int (oi (gi S r k)))) (hS : rng S) (hdg : decode cc pc = .ok (.getfield index, 3))
    (kk : ∀ z : Int32, z.toInt = gi S r k → W p l e R s m args below meth c H locs cells slots Q (F0 m (pc + 3) ls (.int z :: rest))) : W p l e R s m args below meth c H locs cells slots Q (F0 m (pc) ls (.ref (b + i) :: rest)) :=
  m_getN F C hM hi hf hv hdg (kk _ (to_oi (hS r k)))
theorem g_putN {index ci k : Nat} {ty : FieldType} (F : mFldN own index ci k ty false) (C : mC p s m args c cc nL own D kc b) (hM : mS D b s 220 (J S) H locs) {i : Nat} (hi : i < 220) {fs : List Value} (hf : J S i = .inr (ci, fs)) {v : Value} (hn : narrow ty v = v) (hfit : fits ty v = true) (hlen : k < fs.length) {fs1 : List Value} (hfs : fs.set k v = fs1) {S1 : SS} (hup : va_up (J S) i (.inr (ci, fs1)) = J S1) (hR : rng S1) {K : SS → ρ} {res : ρ} (h : w_lt S1 K = res) (hdg : decode cc pc = .ok (.putfield index, 3))
    (kk : ∀ (S2 : SS) (H1 : Heap) (locs1 : List Loc), K S2 = res → mS D b s 220 (J S2) H1 locs1 → rng S2 → W p l e R s m args below meth c H1 locs1 cells slots Q (F0 m (pc + 3) ls (rest))) : W p l e R s m args below meth c H locs cells slots Q (F0 m (pc) ls (v :: .ref (b + i) :: rest)) :=
  m_putN F C hM hi hf hn hfit hlen hfs hdg (fun H1 locs1 f1 ef hM1 => kk S1 H1 locs1 h (by rw [← hup, ← ef]; exact hM1) hR)
theorem g_iald (C : mC p s m args c cc nL own D kc b) (hM : mS D b s 220 (J S) H locs) {j : Nat} (hj : j < 220) (hJ : jK b kc J j) {N : Nat} (hA : aI b kc j 1 N) (hS : rng S) {i : Int32} {a : Int} (ha : i.toInt = a) {B : Int} (hB : B = N) {A : Option ρ} {res : ρ} (h : w_chk (0 ≤ a ∧ a < B) A = some res) (hdg : decode cc pc = .ok (.iaload, 1))
    (kk : ∀ z : Int32, z.toInt = gi S j a.toNat → A = some res → W p l e R s m args below meth c H locs cells slots Q (F0 m (pc + 1) ls (.int z :: rest))) : W p l e R s m args below meth c H locs cells slots Q (F0 m (pc) ls (.int i :: .ref (b + j) :: rest)) := by
  obtain ⟨⟨h1, h2⟩, h⟩ := w_chkE h
  have hf : J S j = .inl (kc 1, N, .inl (fun k => oi (S.1 j k))) := by rw [hJ.1, hA]
  refine m_iald C hM hj hf (vp_in_iff.mpr ⟨by omega, by omega⟩) hdg (kk _ ?_ h)
  have e : i.toNatClampNeg = a.toNat := by rw [← ha]; rfl
  rw [e]
  exact to_oi (hS j a.toNat)
theorem g_ialdc (C : mC p s m args c cc nL own D kc b) (hM : mS D b s 220 (J S) H locs) {j : Nat} (hj : j < 220) (hJ : jK b kc J j) {N : Nat} (hA : aI b kc j 1 N) (hS : rng S) {i : Int32} {k : Nat} (hin : vp_in i N) (hk : i.toNatClampNeg = k) (hdg : decode cc pc = .ok (.iaload, 1))
    (kk : ∀ z : Int32, z.toInt = gi S j k → W p l e R s m args below meth c H locs cells slots Q (F0 m (pc + 1) ls (.int z :: rest))) : W p l e R s m args below meth c H locs cells slots Q (F0 m (pc) ls (.int i :: .ref (b + j) :: rest)) := by
  have hf : J S j = .inl (kc 1, N, .inl (fun k => oi (S.1 j k))) := by rw [hJ.1, hA]
  refine m_iald C hM hj hf hin hdg (kk _ ?_)
  rw [hk]
  exact to_oi (hS j k)
theorem g_bald (C : mC p s m args c cc nL own D kc b) (hM : mS D b s 220 (J S) H locs) {j : Nat} (hj : j < 220) (hJ : jK b kc J j) {N : Nat} (hA : aI b kc j 0 N) (hS : rng S) {i : Int32} {a : Int} (ha : i.toInt = a) {B : Int} (hB : B = N) {A : Option ρ} {res : ρ} (h : w_chk (0 ≤ a ∧ a < B) A = some res) (hdg : decode cc pc = .ok (.baload, 1))
    (kk : ∀ z : Int32, z.toInt = gi S j a.toNat → A = some res → W p l e R s m args below meth c H locs cells slots Q (F0 m (pc + 1) ls (.int z :: rest))) : W p l e R s m args below meth c H locs cells slots Q (F0 m (pc) ls (.int i :: .ref (b + j) :: rest)) := by
  obtain ⟨⟨h1, h2⟩, h⟩ := w_chkE h
  have hf : J S j = .inl (kc 0, N, .inl (fun k => oi (S.1 j k))) := by rw [hJ.1, hA]
  refine m_bald C hM hj hf (vp_in_iff.mpr ⟨by omega, by omega⟩) hdg (kk _ ?_ h)
  have e : i.toNatClampNeg = a.toNat := by rw [← ha]; rfl
  rw [e]
  exact to_oi (hS j a.toNat)
theorem g_baldc (C : mC p s m args c cc nL own D kc b) (hM : mS D b s 220 (J S) H locs) {j : Nat} (hj : j < 220) (hJ : jK b kc J j) {N : Nat} (hA : aI b kc j 0 N) (hS : rng S) {i : Int32} {k : Nat} (hin : vp_in i N) (hk : i.toNatClampNeg = k) (hdg : decode cc pc = .ok (.baload, 1))
    (kk : ∀ z : Int32, z.toInt = gi S j k → W p l e R s m args below meth c H locs cells slots Q (F0 m (pc + 1) ls (.int z :: rest))) : W p l e R s m args below meth c H locs cells slots Q (F0 m (pc) ls (.int i :: .ref (b + j) :: rest)) := by
  have hf : J S j = .inl (kc 0, N, .inl (fun k => oi (S.1 j k))) := by rw [hJ.1, hA]
  refine m_bald C hM hj hf hin hdg (kk _ ?_)
  rw [hk]
  exact to_oi (hS j k)
theorem g_zald (C : mC p s m args c cc nL own D kc b) (hM : mS D b s 220 (J S) H locs) {j : Nat} (hj : j < 220) (hJ : jK b kc J j) {N : Nat} (hA : aI b kc j 3 N) (hS : rng S) {i : Int32} {a : Int} (ha : i.toInt = a) {B : Int} (hB : B = N) {A : Option ρ} {res : ρ} (h : w_chk (0 ≤ a ∧ a < B) A = some res) (hdg : decode cc pc = .ok (.baload, 1))
    (kk : ∀ z : Int32, z.toInt = gi S j a.toNat → A = some res → W p l e R s m args below meth c H locs cells slots Q (F0 m (pc + 1) ls (.int z :: rest))) : W p l e R s m args below meth c H locs cells slots Q (F0 m (pc) ls (.int i :: .ref (b + j) :: rest)) := by
  obtain ⟨⟨h1, h2⟩, h⟩ := w_chkE h
  have hf : J S j = .inl (kc 3, N, .inl (fun k => oi (S.1 j k))) := by rw [hJ.1, hA]
  refine m_zald C hM hj hf (vp_in_iff.mpr ⟨by omega, by omega⟩) hdg (kk _ ?_ h)
  have e : i.toNatClampNeg = a.toNat := by rw [← ha]; rfl
  rw [e]
  exact to_oi (hS j a.toNat)
theorem g_zaldc (C : mC p s m args c cc nL own D kc b) (hM : mS D b s 220 (J S) H locs) {j : Nat} (hj : j < 220) (hJ : jK b kc J j) {N : Nat} (hA : aI b kc j 3 N) (hS : rng S) {i : Int32} {k : Nat} (hin : vp_in i N) (hk : i.toNatClampNeg = k) (hdg : decode cc pc = .ok (.baload, 1))
    (kk : ∀ z : Int32, z.toInt = gi S j k → W p l e R s m args below meth c H locs cells slots Q (F0 m (pc + 1) ls (.int z :: rest))) : W p l e R s m args below meth c H locs cells slots Q (F0 m (pc) ls (.int i :: .ref (b + j) :: rest)) := by
  have hf : J S j = .inl (kc 3, N, .inl (fun k => oi (S.1 j k))) := by rw [hJ.1, hA]
  refine m_zald C hM hj hf hin hdg (kk _ ?_)
  rw [hk]
  exact to_oi (hS j k)
theorem g_lald (C : mC p s m args c cc nL own D kc b) (hM : mS D b s 220 (J S) H locs) {j : Nat} (hj : j < 220) (hJ : jK b kc J j) {N : Nat} (hA : aL b kc j N) {i : Int32} {a : Int} (ha : i.toInt = a) {B : Int} (hB : B = N) {A : Option ρ} {res : ρ} (h : w_chk (0 ≤ a ∧ a < B) A = some res) (hdg : decode cc pc = .ok (.laload, 1))
    (kk : A = some res → W p l e R s m args below meth c H locs cells slots Q (F0 m (pc + 1) ls (.long (gl S j a.toNat) :: rest))) : W p l e R s m args below meth c H locs cells slots Q (F0 m (pc) ls (.int i :: .ref (b + j) :: rest)) := by
  obtain ⟨⟨h1, h2⟩, h⟩ := w_chkE h
  have hf : J S j = .inl (kc 2, N, .inr (.inl (fun k => S.2.1 j k))) := by rw [hJ.1, hA]
  have e : a.toNat = i.toNatClampNeg := by rw [← ha]; rfl
  have k2 := kk h
  rw [e] at k2
  exact m_lald C hM hj hf (vp_in_iff.mpr ⟨by omega, by omega⟩) hdg k2
theorem g_aald (C : mC p s m args c cc nL own D kc b) (hM : mS D b s 220 (J S) H locs) {j : Nat} (hj : j < 220) (hJ : jK b kc J j) {N : Nat} (hA : aQ b kc j N) {i : Int32} {a : Int} (ha : i.toInt = a) {B : Int} (hB : B = N) {A : Option Nat → Option ρ} {res : ρ} (h : w_chk (0 ≤ a ∧ a < B) (w_lt (gq S j a.toNat) A) = some res) (hdg : decode cc pc = .ok (.aaload, 1))
    (kk : ∀ o : Option Nat, A o = some res → W p l e R s m args below meth c H locs cells slots Q (F0 m (pc + 1) ls (va_rf (om b o) :: rest))) : W p l e R s m args below meth c H locs cells slots Q (F0 m (pc) ls (.int i :: .ref (b + j) :: rest)) := by
  obtain ⟨⟨h1, h2⟩, h⟩ := w_chkE h
  have hf : J S j = .inl (kc 4, N, .inr (.inr (.inr (.inr (fun k => om b (S.2.2 j k)))))) := by rw [hJ.1, hA]
  have e : a.toNat = i.toNatClampNeg := by rw [← ha]; rfl
  have k2 := kk _ h
  rw [e] at k2
  exact m_aald C hM hj hf (vp_in_iff.mpr ⟨by omega, by omega⟩) hdg k2
theorem g_iast (C : mC p s m args c cc nL own D kc b) (hM : mS D b s 220 (J S) H locs) {j : Nat} (hj : j < 220) (hJ : jK b kc J j) {N : Nat} (hA : aI b kc j 1 N) (hS : rng S) {i x : Int32} {a v : Int} (ha : i.toInt = a) (hv : x.toInt = v) {B : Int} (hB : B = N) {K : SS → Option ρ} {res : ρ} (h : w_chk (0 ≤ a ∧ a < B) (w_lt (si S j a.toNat v) K) = some res) (hdg : decode cc pc = .ok (.iastore, 1))
    (kk : ∀ (S2 : SS) (H1 : Heap) (locs1 : List Loc), K S2 = some res → mS D b s 220 (J S2) H1 locs1 → rng S2 → W p l e R s m args below meth c H1 locs1 cells slots Q (F0 m (pc + 1) ls (rest))) : W p l e R s m args below meth c H locs cells slots Q (F0 m (pc) ls (.int x :: .int i :: .ref (b + j) :: rest)) := by
  obtain ⟨⟨h1, h2⟩, h⟩ := w_chkE h
  have hf : J S j = .inl (kc 1, N, .inl (fun k => oi (S.1 j k))) := by rw [hJ.1, hA]
  refine m_iast C hM hj hf (vp_in_iff.mpr ⟨by omega, by omega⟩) hdg (fun H1 locs1 f1 ef hM1 => kk _ H1 locs1 h ?_ (rng_si hS (i32_of hv)))
  rw [← hJ.2 S _ _ n_si rfl, hA, s_si, ← upd_oi ha hv, ← ef]
  exact hM1
theorem g_bast (C : mC p s m args c cc nL own D kc b) (hM : mS D b s 220 (J S) H locs) {j : Nat} (hj : j < 220) (hJ : jK b kc J j) {N : Nat} (hA : aI b kc j 0 N) (hS : rng S) {i x : Int32} {a v : Int} (ha : i.toInt = a) (hv : x.toInt = v) {B : Int} (hB : B = N) {K : SS → Option ρ} {res : ρ} (h : w_chk (0 ≤ a ∧ a < B) (w_lt (si S j a.toNat (tob v)) K) = some res) (hdg : decode cc pc = .ok (.bastore, 1))
    (kk : ∀ (S2 : SS) (H1 : Heap) (locs1 : List Loc), K S2 = some res → mS D b s 220 (J S2) H1 locs1 → rng S2 → W p l e R s m args below meth c H1 locs1 cells slots Q (F0 m (pc + 1) ls (rest))) : W p l e R s m args below meth c H locs cells slots Q (F0 m (pc) ls (.int x :: .int i :: .ref (b + j) :: rest)) := by
  obtain ⟨⟨h1, h2⟩, h⟩ := w_chkE h
  have hf : J S j = .inl (kc 0, N, .inl (fun k => oi (S.1 j k))) := by rw [hJ.1, hA]
  refine m_bast C hM hj hf (vp_in_iff.mpr ⟨by omega, by omega⟩) hdg (fun H1 locs1 f1 ef hM1 => kk _ H1 locs1 h ?_ (rng_si hS (i32_of (show x.toInt8.toInt32.toInt = tob v by unfold tob; rw [oi_to hv]))))
  rw [← hJ.2 S _ _ n_si rfl, hA, s_si, ← upd_oi ha (show x.toInt8.toInt32.toInt = tob v by unfold tob; rw [oi_to hv]), ← ef]
  exact hM1
theorem g_zast (C : mC p s m args c cc nL own D kc b) (hM : mS D b s 220 (J S) H locs) {j : Nat} (hj : j < 220) (hJ : jK b kc J j) {N : Nat} (hA : aI b kc j 3 N) (hS : rng S) {i x : Int32} {a v : Int} (ha : i.toInt = a) (hv : x.toInt = v) (hz : v = 0 ∨ v = 1) {B : Int} (hB : B = N) {K : SS → Option ρ} {res : ρ} (h : w_chk (0 ≤ a ∧ a < B) (w_lt (si S j a.toNat v) K) = some res) (hdg : decode cc pc = .ok (.bastore, 1))
    (kk : ∀ (S2 : SS) (H1 : Heap) (locs1 : List Loc), K S2 = some res → mS D b s 220 (J S2) H1 locs1 → rng S2 → W p l e R s m args below meth c H1 locs1 cells slots Q (F0 m (pc + 1) ls (rest))) : W p l e R s m args below meth c H locs cells slots Q (F0 m (pc) ls (.int x :: .int i :: .ref (b + j) :: rest)) := by
  obtain ⟨⟨h1, h2⟩, h⟩ := w_chkE h
  have hf : J S j = .inl (kc 3, N, .inl (fun k => oi (S.1 j k))) := by rw [hJ.1, hA]
  refine m_zast C hM hj hf (vp_in_iff.mpr ⟨by omega, by omega⟩) (z_vnar hv hz) hdg (fun H1 locs1 f1 ef hM1 => kk _ H1 locs1 h ?_ (rng_si hS (i32_of hv)))
  rw [← hJ.2 S _ _ n_si rfl, hA, s_si, ← upd_oi ha hv, ← ef]
  exact hM1
theorem g_last (C : mC p s m args c cc nL own D kc b) (hM : mS D b s 220 (J S) H locs) {j : Nat} (hj : j < 220) (hJ : jK b kc J j) {N : Nat} (hA : aL b kc j N) (hS : rng S) {i : Int32} {w : Int64} {a : Int} (ha : i.toInt = a) {B : Int} (hB : B = N) {K : SS → Option ρ} {res : ρ} (h : w_chk (0 ≤ a ∧ a < B) (w_lt (sl S j a.toNat w) K) = some res) (hdg : decode cc pc = .ok (.lastore, 1))
    (kk : ∀ (S2 : SS) (H1 : Heap) (locs1 : List Loc), K S2 = some res → mS D b s 220 (J S2) H1 locs1 → rng S2 → W p l e R s m args below meth c H1 locs1 cells slots Q (F0 m (pc + 1) ls (rest))) : W p l e R s m args below meth c H locs cells slots Q (F0 m (pc) ls (.long w :: .int i :: .ref (b + j) :: rest)) := by
  obtain ⟨⟨h1, h2⟩, h⟩ := w_chkE h
  have hf : J S j = .inl (kc 2, N, .inr (.inl (fun k => S.2.1 j k))) := by rw [hJ.1, hA]
  have e : i.toNatClampNeg = a.toNat := by rw [← ha]; rfl
  refine m_last C hM hj hf (vp_in_iff.mpr ⟨by omega, by omega⟩) hdg (fun H1 locs1 f1 ef hM1 => kk _ H1 locs1 h ?_ hS)
  rw [← hJ.2 S _ _ n_sl rfl, hA, s_sl]
  rw [ef, e] at hM1
  exact hM1
theorem g_aast (C : mC p s m args c cc nL own D kc b) (hM : mS D b s 220 (J S) H locs) {j : Nat} (hj : j < 220) (hJ : jK b kc J j) {N : Nat} (hA : aQ b kc j N) (hS : rng S) {v : Nat} (hv : 14 + 4 * v < 220) {vs : List Value} (hfv : J S (14 + 4 * v) = .inr (3, vs)) {i : Int32} {a : Int} (ha : i.toInt = a) {B : Int} (hB : B = N) {K : SS → Option ρ} {res : ρ} (h : w_chk (0 ≤ a ∧ a < B) (w_lt (sq S j a.toNat (some v)) K) = some res) (hdg : decode cc pc = .ok (.aastore, 1))
    (kk : ∀ (S2 : SS) (H1 : Heap) (locs1 : List Loc), K S2 = some res → mS D b s 220 (J S2) H1 locs1 → rng S2 → W p l e R s m args below meth c H1 locs1 cells slots Q (F0 m (pc + 1) ls (rest))) : W p l e R s m args below meth c H locs cells slots Q (F0 m (pc) ls (.ref (b + (14 + 4 * v)) :: .int i :: .ref (b + j) :: rest)) := by
  obtain ⟨⟨h1, h2⟩, h⟩ := w_chkE h
  have hf : J S j = .inl (kc 4, N, .inr (.inr (.inr (.inr (fun k => om b (S.2.2 j k)))))) := by rw [hJ.1, hA]
  have e : i.toNatClampNeg = a.toNat := by rw [← ha]; rfl
  refine m_aast C hM hj hf hv hfv (vp_in_iff.mpr ⟨by omega, by omega⟩) hdg (fun H1 locs1 f1 ef hM1 => kk _ H1 locs1 h ?_ hS)
  rw [← hJ.2 S _ _ n_sq rfl, hA, s_sq]
  rw [ef, e] at hM1
  have e2 : (fun k => om b (if k = a.toNat then some v else S.2.2 j k)) = va_up (fun k => om b (S.2.2 j k)) a.toNat (some (b + (14 + 4 * v))) := by
    funext k
    by_cases q : k = a.toNat
    · simp [va_up, q, om]
    · simp [va_up, q]
  rw [e2]
  exact hM1
theorem g_alenS (C : mC p s m args c cc nL own D kc b) (hM : mS D b s 220 (J S) H locs) {q : Nat} (hq : shOk q) {x : Sum (Nat → Int32) (Sum (Nat → Int64) (Sum (Nat → UInt32) (Sum (Nat → UInt64) (Nat → Option Nat))))} (hf : J S (q + 1) = .inl (kc 2, capN q, x)) (hdg : decode cc pc = .ok (.arraylength, 1))
    (kk : ∀ z : Int32, z.toInt = cap q → W p l e R s m args below meth c H locs cells slots Q (F0 m (pc + 1) ls (.int z :: rest))) : W p l e R s m args below meth c H locs cells slots Q (F0 m (pc) ls (.ref (b + (q + 1)) :: rest)) := by
  refine m_alen C hM (by omega) 2 hf rfl rfl hdg (kk _ ?_)
  have h1 := capN_le q
  rw [cap_N]
  exact Int32.toInt_ofNat_small (by show capN q < _; omega)
theorem g_iadd (hexec : p.tables.exec = Jvm.exec) (hb : c.code = cc) {x y : Int32} {a d : Int} (ha : x.toInt = a) (hd : y.toInt = d) {A : Option ρ} {res : ρ} (h : w_chk (i32 (a + d)) A = some res) (hdg : decode cc pc = .ok (.iadd, 1)) (kk : ∀ z : Int32, z.toInt = a + d → A = some res → W p l e R s m args below meth c H locs cells slots Q (F0 m (pc + 1) ls (.int z :: rest))) : W p l e R s m args below meth c H locs cells slots Q (F0 m (pc) ls (.int y :: .int x :: rest)) := by
  obtain ⟨c1, h⟩ := w_chkE h
  exact lv_iadd hexec hb hdg (kk _ (t_add ha hd c1.1 c1.2) h)
theorem g_isub (hexec : p.tables.exec = Jvm.exec) (hb : c.code = cc) {x y : Int32} {a d : Int} (ha : x.toInt = a) (hd : y.toInt = d) {A : Option ρ} {res : ρ} (h : w_chk (i32 (a - d)) A = some res) (hdg : decode cc pc = .ok (.isub, 1)) (kk : ∀ z : Int32, z.toInt = a - d → A = some res → W p l e R s m args below meth c H locs cells slots Q (F0 m (pc + 1) ls (.int z :: rest))) : W p l e R s m args below meth c H locs cells slots Q (F0 m (pc) ls (.int y :: .int x :: rest)) := by
  obtain ⟨c1, h⟩ := w_chkE h
  exact lv_isub hexec hb hdg (kk _ (t_sub ha hd c1.1 c1.2) h)
theorem g_imul (hexec : p.tables.exec = Jvm.exec) (hb : c.code = cc) {x y : Int32} {a d : Int} (ha : x.toInt = a) (hd : y.toInt = d) {A : Option ρ} {res : ρ} (h : w_chk (i32 (a * d)) A = some res) (hdg : decode cc pc = .ok (.imul, 1)) (kk : ∀ z : Int32, z.toInt = a * d → A = some res → W p l e R s m args below meth c H locs cells slots Q (F0 m (pc + 1) ls (.int z :: rest))) : W p l e R s m args below meth c H locs cells slots Q (F0 m (pc) ls (.int y :: .int x :: rest)) := by
  obtain ⟨c1, h⟩ := w_chkE h
  exact lv_imul hexec hb hdg (kk _ (t_mul ha hd c1) h)
theorem g_idiv (hexec : p.tables.exec = Jvm.exec) (hb : c.code = cc) {x y : Int32} {a d : Int} (ha : x.toInt = a) (hd : y.toInt = d) {A : Option ρ} {res : ρ} (h : w_chk (0 ≤ a ∧ 0 < d) A = some res) (hdg : decode cc pc = .ok (.idiv, 1)) (kk : ∀ z : Int32, z.toInt = a / d → A = some res → W p l e R s m args below meth c H locs cells slots Q (F0 m (pc + 1) ls (.int z :: rest))) : W p l e R s m args below meth c H locs cells slots Q (F0 m (pc) ls (.int y :: .int x :: rest)) := by
  obtain ⟨c1, h⟩ := w_chkE h
  refine lv_idiv hexec hb hdg (fun q => ?_) (kk _ ?_ h)
  · subst q
    have : (0 : Int32).toInt = 0 := by decide
    omega
  · rw [Int32.toInt_div_of_ne_right _ _ (fun q => by subst q; have : (-1 : Int32).toInt = -1 := (by decide); omega), ha, hd]
    exact Int.tdiv_eq_ediv_of_nonneg c1.1
theorem g_ishr (hexec : p.tables.exec = Jvm.exec) (hb : c.code = cc) {x y : Int32} {a d : Int} (ha : x.toInt = a) (hd : y.toInt = d) (hdg : decode cc pc = .ok (.ishr, 1)) (kk : ∀ z : Int32, z.toInt = shri a d → W p l e R s m args below meth c H locs cells slots Q (F0 m (pc + 1) ls (.int z :: rest))) : W p l e R s m args below meth c H locs cells slots Q (F0 m (pc) ls (.int y :: .int x :: rest)) :=
  lv_ishr hexec hb hdg (kk _ (by unfold shri; rw [oi_to ha, oi_to hd]))
theorem g_ishl (hexec : p.tables.exec = Jvm.exec) (hb : c.code = cc) {x y : Int32} {a d : Int} (ha : x.toInt = a) (hd : y.toInt = d) (hdg : decode cc pc = .ok (.ishl, 1)) (kk : ∀ z : Int32, z.toInt = shli a d → W p l e R s m args below meth c H locs cells slots Q (F0 m (pc + 1) ls (.int z :: rest))) : W p l e R s m args below meth c H locs cells slots Q (F0 m (pc) ls (.int y :: .int x :: rest)) :=
  lv_ishl hexec hb hdg (kk _ (by unfold shli; rw [oi_to ha, oi_to hd]))
theorem g_iand (hexec : p.tables.exec = Jvm.exec) (hb : c.code = cc) {x y : Int32} {a d : Int} (ha : x.toInt = a) (hd : y.toInt = d) (hdg : decode cc pc = .ok (.iand, 1)) (kk : ∀ z : Int32, z.toInt = andi a d → W p l e R s m args below meth c H locs cells slots Q (F0 m (pc + 1) ls (.int z :: rest))) : W p l e R s m args below meth c H locs cells slots Q (F0 m (pc) ls (.int y :: .int x :: rest)) :=
  lv_iand hexec hb hdg (kk _ (by unfold andi; rw [oi_to ha, oi_to hd]))
theorem g_iushr (hexec : p.tables.exec = Jvm.exec) (hb : c.code = cc) {x y : Int32} {a d : Int} (ha : x.toInt = a) (hd : y.toInt = d) (hdg : decode cc pc = .ok (.iushr, 1)) (kk : ∀ z : Int32, z.toInt = ushri a d → W p l e R s m args below meth c H locs cells slots Q (F0 m (pc + 1) ls (.int z :: rest))) : W p l e R s m args below meth c H locs cells slots Q (F0 m (pc) ls (.int y :: .int x :: rest)) :=
  lv_iushr hexec hb hdg rfl (kk _ (by unfold ushri; rw [oi_to ha, oi_to hd]))
theorem g_i2b (hexec : p.tables.exec = Jvm.exec) (hb : c.code = cc) {x : Int32} {a : Int} (ha : x.toInt = a) (hdg : decode cc pc = .ok (.i2b, 1)) (kk : ∀ z : Int32, z.toInt = tob a → W p l e R s m args below meth c H locs cells slots Q (F0 m (pc + 1) ls (.int z :: rest))) : W p l e R s m args below meth c H locs cells slots Q (F0 m (pc) ls (.int x :: rest)) :=
  lv_i2b hexec hb hdg rfl (kk _ (by unfold tob; rw [oi_to ha]))
theorem g_i2c (hexec : p.tables.exec = Jvm.exec) (hb : c.code = cc) {x : Int32} {a : Int} (ha : x.toInt = a) (hdg : decode cc pc = .ok (.i2c, 1)) (kk : ∀ z : Int32, z.toInt = toc a → W p l e R s m args below meth c H locs cells slots Q (F0 m (pc + 1) ls (.int z :: rest))) : W p l e R s m args below meth c H locs cells slots Q (F0 m (pc) ls (.int x :: rest)) :=
  lv_i2c hexec hb hdg rfl (kk _ (by unfold toc; rw [oi_to ha]))
theorem g_l2i (hexec : p.tables.exec = Jvm.exec) (hb : c.code = cc) {w : Int64} (hdg : decode cc pc = .ok (.l2i, 1)) (kk : ∀ z : Int32, z.toInt = l2i w → W p l e R s m args below meth c H locs cells slots Q (F0 m (pc + 1) ls (.int z :: rest))) : W p l e R s m args below meth c H locs cells slots Q (F0 m (pc) ls (.long w :: rest)) :=
  lv_l2i hexec hb hdg rfl (kk _ rfl)
theorem g_i2l (hexec : p.tables.exec = Jvm.exec) (hb : c.code = cc) {x : Int32} {a : Int} (ha : x.toInt = a) (hdg : decode cc pc = .ok (.i2l, 1)) (kk : (i2l a).toInt = a → W p l e R s m args below meth c H locs cells slots Q (F0 m (pc + 1) ls (.long (i2l a) :: rest))) : W p l e R s m args below meth c H locs cells slots Q (F0 m (pc) ls (.int x :: rest)) :=
  lv_i2l hexec hb hdg (show x.toInt64 = i2l a by unfold i2l; rw [oi_to ha]) (kk (i2l_v (i32_of ha)))
theorem g_lshl (hexec : p.tables.exec = Jvm.exec) (hb : c.code = cc) {w : Int64} {y : Int32} {d : Int} (hd : y.toInt = d) (hdg : decode cc pc = .ok (.lshl, 1)) (kk : W p l e R s m args below meth c H locs cells slots Q (F0 m (pc + 1) ls (.long (lsh w d) :: rest))) : W p l e R s m args below meth c H locs cells slots Q (F0 m (pc) ls (.int y :: .long w :: rest)) :=
  lv_lshl hexec hb hdg (show w <<< (y.toInt64 &&& 63) = lsh w d by unfold lsh; rw [oi_to hd]) kk
theorem g_ladd (hexec : p.tables.exec = Jvm.exec) (hb : c.code = cc) {x y : Int64} {a d : Int} (ha : x.toInt = a) (hd : y.toInt = d) (h1 : -9223372036854775808 ≤ a + d) (h2 : a + d < 9223372036854775808) (hdg : decode cc pc = .ok (.ladd, 1)) (kk : ∀ z : Int64, z.toInt = a + d → W p l e R s m args below meth c H locs cells slots Q (F0 m (pc + 1) ls (.long z :: rest))) : W p l e R s m args below meth c H locs cells slots Q (F0 m (pc) ls (.long y :: .long x :: rest)) := by
  refine lv_ladd hexec hb hdg (kk _ ?_)
  rw [Int64.toInt_add, ha, hd]
  exact Int.bmod_eq_of_le_mul_two (by omega) (by omega)
theorem g_lsub (hexec : p.tables.exec = Jvm.exec) (hb : c.code = cc) {x y : Int64} {a d : Int} (ha : x.toInt = a) (hd : y.toInt = d) (h1 : -9223372036854775808 ≤ a - d) (h2 : a - d < 9223372036854775808) (hdg : decode cc pc = .ok (.lsub, 1)) (kk : ∀ z : Int64, z.toInt = a - d → W p l e R s m args below meth c H locs cells slots Q (F0 m (pc + 1) ls (.long z :: rest))) : W p l e R s m args below meth c H locs cells slots Q (F0 m (pc) ls (.long y :: .long x :: rest)) := by
  refine lv_lsub hexec hb hdg (kk _ ?_)
  rw [Int64.toInt_sub, ha, hd]
  exact Int.bmod_eq_of_le_mul_two (by omega) (by omega)
theorem g_iinc (hexec : p.tables.exec = Jvm.exec) (hb : c.code = cc) {i k : Nat} {n : Int} {x y : Int32} {a : Int} {lv : List (Nat × Value)} (ha : x.toInt = a) (hy : Int32.ofInt n = y) (hn : y.toInt = n) {A : Option ρ} {res : ρ} (h : w_chk (i32 (a + n)) A = some res) (hdg : decode cc pc = .ok (.iinc i n, 3)) (hl : lv_has ls nL lv) (hk : lv[k]? = some (i, .int x)) (hi : i < nL)
    (kk : ∀ (z : Int32) (ls' : Array Slot), z.toInt = a + n → A = some res → lv_has ls' nL ((i, Value.int z) :: lv.filter (fun q => !(q.1 == i) && !(q.1 + 1 == i && q.2.category == 2))) → W p l e R s m args below meth c H locs cells slots Q (F0 m (pc + 3) ls' (rest))) : W p l e R s m args below meth c H locs cells slots Q (F0 m (pc) ls (rest)) := by
  obtain ⟨c1, h⟩ := w_chkE h
  refine lv_iinc hexec hb hdg hl hk rfl hi rfl (fun ls' hl' => kk _ ls' ?_ h hl')
  rw [hy]
  exact t_add ha hn c1.1 c1.2
theorem g_icmp_eq (hexec : p.tables.exec = Jvm.exec) (hb : c.code = cc) {x y : Int32} {a d : Int} (ha : x.toInt = a) (hd : y.toInt = d) {off : Int} {tgt : Nat} {A B res : ρ} (h : (if a = d then A else B) = res) (hdg : decode cc pc = .ok (.if_icmp .eq off, 3)) (ht : (pc : Int) + off = (tgt : Int)) (kt : A = res → W p l e R s m args below meth c H locs cells slots Q (F0 m (tgt) ls (rest))) (kf : B = res → W p l e R s m args below meth c H locs cells slots Q (F0 m (pc + 3) ls (rest))) : W p l e R s m args below meth c H locs cells slots Q (F0 m (pc) ls (.int y :: .int x :: rest)) :=
  t_icmp_eq hexec hb ha hd hdg ht (fun c1 => kt (w_it c1 h)) (fun c1 => kf (w_if c1 h))
theorem g_if_eq (hexec : p.tables.exec = Jvm.exec) (hb : c.code = cc) {x : Int32} {a : Int} (ha : x.toInt = a) {off : Int} {tgt : Nat} {A B res : ρ} (h : (if a = 0 then A else B) = res) (hdg : decode cc pc = .ok (.ifCond .eq off, 3)) (ht : (pc : Int) + off = (tgt : Int)) (kt : A = res → W p l e R s m args below meth c H locs cells slots Q (F0 m (tgt) ls (rest))) (kf : B = res → W p l e R s m args below meth c H locs cells slots Q (F0 m (pc + 3) ls (rest))) : W p l e R s m args below meth c H locs cells slots Q (F0 m (pc) ls (.int x :: rest)) :=
  t_if_eq hexec hb ha hdg ht (fun c1 => kt (w_it c1 h)) (fun c1 => kf (w_if c1 h))
theorem g_icmp_ne (hexec : p.tables.exec = Jvm.exec) (hb : c.code = cc) {x y : Int32} {a d : Int} (ha : x.toInt = a) (hd : y.toInt = d) {off : Int} {tgt : Nat} {A B res : ρ} (h : (if a = d then A else B) = res) (hdg : decode cc pc = .ok (.if_icmp .ne off, 3)) (ht : (pc : Int) + off = (tgt : Int)) (kt : B = res → W p l e R s m args below meth c H locs cells slots Q (F0 m (tgt) ls (rest))) (kf : A = res → W p l e R s m args below meth c H locs cells slots Q (F0 m (pc + 3) ls (rest))) : W p l e R s m args below meth c H locs cells slots Q (F0 m (pc) ls (.int y :: .int x :: rest)) :=
  t_icmp_ne hexec hb ha hd hdg ht (fun c1 => kt (w_if c1 h)) (fun c1 => kf (w_it c1 h))
theorem g_if_ne (hexec : p.tables.exec = Jvm.exec) (hb : c.code = cc) {x : Int32} {a : Int} (ha : x.toInt = a) {off : Int} {tgt : Nat} {A B res : ρ} (h : (if a = 0 then A else B) = res) (hdg : decode cc pc = .ok (.ifCond .ne off, 3)) (ht : (pc : Int) + off = (tgt : Int)) (kt : B = res → W p l e R s m args below meth c H locs cells slots Q (F0 m (tgt) ls (rest))) (kf : A = res → W p l e R s m args below meth c H locs cells slots Q (F0 m (pc + 3) ls (rest))) : W p l e R s m args below meth c H locs cells slots Q (F0 m (pc) ls (.int x :: rest)) :=
  t_if_ne hexec hb ha hdg ht (fun c1 => kt (w_if c1 h)) (fun c1 => kf (w_it c1 h))
theorem g_icmp_lt (hexec : p.tables.exec = Jvm.exec) (hb : c.code = cc) {x y : Int32} {a d : Int} (ha : x.toInt = a) (hd : y.toInt = d) {off : Int} {tgt : Nat} {A B res : ρ} (h : (if a < d then A else B) = res) (hdg : decode cc pc = .ok (.if_icmp .lt off, 3)) (ht : (pc : Int) + off = (tgt : Int)) (kt : A = res → W p l e R s m args below meth c H locs cells slots Q (F0 m (tgt) ls (rest))) (kf : B = res → W p l e R s m args below meth c H locs cells slots Q (F0 m (pc + 3) ls (rest))) : W p l e R s m args below meth c H locs cells slots Q (F0 m (pc) ls (.int y :: .int x :: rest)) :=
  t_icmp_lt hexec hb ha hd hdg ht (fun c1 => kt (w_it c1 h)) (fun c1 => kf (w_if (by omega) h))
theorem g_if_lt (hexec : p.tables.exec = Jvm.exec) (hb : c.code = cc) {x : Int32} {a : Int} (ha : x.toInt = a) {off : Int} {tgt : Nat} {A B res : ρ} (h : (if a < 0 then A else B) = res) (hdg : decode cc pc = .ok (.ifCond .lt off, 3)) (ht : (pc : Int) + off = (tgt : Int)) (kt : A = res → W p l e R s m args below meth c H locs cells slots Q (F0 m (tgt) ls (rest))) (kf : B = res → W p l e R s m args below meth c H locs cells slots Q (F0 m (pc + 3) ls (rest))) : W p l e R s m args below meth c H locs cells slots Q (F0 m (pc) ls (.int x :: rest)) :=
  t_if_lt hexec hb ha hdg ht (fun c1 => kt (w_it c1 h)) (fun c1 => kf (w_if (by omega) h))
theorem g_icmp_ge (hexec : p.tables.exec = Jvm.exec) (hb : c.code = cc) {x y : Int32} {a d : Int} (ha : x.toInt = a) (hd : y.toInt = d) {off : Int} {tgt : Nat} {A B res : ρ} (h : (if d ≤ a then A else B) = res) (hdg : decode cc pc = .ok (.if_icmp .ge off, 3)) (ht : (pc : Int) + off = (tgt : Int)) (kt : A = res → W p l e R s m args below meth c H locs cells slots Q (F0 m (tgt) ls (rest))) (kf : B = res → W p l e R s m args below meth c H locs cells slots Q (F0 m (pc + 3) ls (rest))) : W p l e R s m args below meth c H locs cells slots Q (F0 m (pc) ls (.int y :: .int x :: rest)) :=
  t_icmp_ge hexec hb ha hd hdg ht (fun c1 => kt (w_it c1 h)) (fun c1 => kf (w_if (by omega) h))
theorem g_if_ge (hexec : p.tables.exec = Jvm.exec) (hb : c.code = cc) {x : Int32} {a : Int} (ha : x.toInt = a) {off : Int} {tgt : Nat} {A B res : ρ} (h : (if 0 ≤ a then A else B) = res) (hdg : decode cc pc = .ok (.ifCond .ge off, 3)) (ht : (pc : Int) + off = (tgt : Int)) (kt : A = res → W p l e R s m args below meth c H locs cells slots Q (F0 m (tgt) ls (rest))) (kf : B = res → W p l e R s m args below meth c H locs cells slots Q (F0 m (pc + 3) ls (rest))) : W p l e R s m args below meth c H locs cells slots Q (F0 m (pc) ls (.int x :: rest)) :=
  t_if_ge hexec hb ha hdg ht (fun c1 => kt (w_it c1 h)) (fun c1 => kf (w_if (by omega) h))
theorem g_icmp_gt (hexec : p.tables.exec = Jvm.exec) (hb : c.code = cc) {x y : Int32} {a d : Int} (ha : x.toInt = a) (hd : y.toInt = d) {off : Int} {tgt : Nat} {A B res : ρ} (h : (if d < a then A else B) = res) (hdg : decode cc pc = .ok (.if_icmp .gt off, 3)) (ht : (pc : Int) + off = (tgt : Int)) (kt : A = res → W p l e R s m args below meth c H locs cells slots Q (F0 m (tgt) ls (rest))) (kf : B = res → W p l e R s m args below meth c H locs cells slots Q (F0 m (pc + 3) ls (rest))) : W p l e R s m args below meth c H locs cells slots Q (F0 m (pc) ls (.int y :: .int x :: rest)) :=
  t_icmp_gt hexec hb ha hd hdg ht (fun c1 => kt (w_it c1 h)) (fun c1 => kf (w_if (by omega) h))
theorem g_if_gt (hexec : p.tables.exec = Jvm.exec) (hb : c.code = cc) {x : Int32} {a : Int} (ha : x.toInt = a) {off : Int} {tgt : Nat} {A B res : ρ} (h : (if 0 < a then A else B) = res) (hdg : decode cc pc = .ok (.ifCond .gt off, 3)) (ht : (pc : Int) + off = (tgt : Int)) (kt : A = res → W p l e R s m args below meth c H locs cells slots Q (F0 m (tgt) ls (rest))) (kf : B = res → W p l e R s m args below meth c H locs cells slots Q (F0 m (pc + 3) ls (rest))) : W p l e R s m args below meth c H locs cells slots Q (F0 m (pc) ls (.int x :: rest)) :=
  t_if_gt hexec hb ha hdg ht (fun c1 => kt (w_it c1 h)) (fun c1 => kf (w_if (by omega) h))
theorem g_icmp_le (hexec : p.tables.exec = Jvm.exec) (hb : c.code = cc) {x y : Int32} {a d : Int} (ha : x.toInt = a) (hd : y.toInt = d) {off : Int} {tgt : Nat} {A B res : ρ} (h : (if a ≤ d then A else B) = res) (hdg : decode cc pc = .ok (.if_icmp .le off, 3)) (ht : (pc : Int) + off = (tgt : Int)) (kt : A = res → W p l e R s m args below meth c H locs cells slots Q (F0 m (tgt) ls (rest))) (kf : B = res → W p l e R s m args below meth c H locs cells slots Q (F0 m (pc + 3) ls (rest))) : W p l e R s m args below meth c H locs cells slots Q (F0 m (pc) ls (.int y :: .int x :: rest)) :=
  t_icmp_le hexec hb ha hd hdg ht (fun c1 => kt (w_it c1 h)) (fun c1 => kf (w_if (by omega) h))
theorem g_if_le (hexec : p.tables.exec = Jvm.exec) (hb : c.code = cc) {x : Int32} {a : Int} (ha : x.toInt = a) {off : Int} {tgt : Nat} {A B res : ρ} (h : (if a ≤ 0 then A else B) = res) (hdg : decode cc pc = .ok (.ifCond .le off, 3)) (ht : (pc : Int) + off = (tgt : Int)) (kt : A = res → W p l e R s m args below meth c H locs cells slots Q (F0 m (tgt) ls (rest))) (kf : B = res → W p l e R s m args below meth c H locs cells slots Q (F0 m (pc + 3) ls (rest))) : W p l e R s m args below meth c H locs cells slots Q (F0 m (pc) ls (.int x :: rest)) :=
  t_if_le hexec hb ha hdg ht (fun c1 => kt (w_it c1 h)) (fun c1 => kf (w_if (by omega) h))
theorem lg_cmp0 {x y : Int64} : lg_cmp x y = 0 ↔ x = y := by
  unfold lg_cmp
  by_cases h1 : y < x
  · have : ¬ x = y := fun q => by subst q; exact absurd h1 (by simp [Int64.lt_iff_toInt_lt])
    simp only [h1, if_pos, this, iff_false]
    decide
  · by_cases h2 : x = y
    · simp [h2]
    · simp only [h1, h2, if_false, iff_false]
      decide
theorem g_lcmp_ne (hexec : p.tables.exec = Jvm.exec) (hb : c.code = cc) {x y : Int64} {off : Int} {tgt : Nat} {A B res : ρ} (h : (if x = y then A else B) = res) (hdg : decode cc pc = .ok (.lcmp, 1)) (hdg2 : decode cc (pc + 1) = .ok (.ifCond .ne off, 3)) (ht : ((pc + 1 : Nat) : Int) + off = (tgt : Int)) (kt : B = res → W p l e R s m args below meth c H locs cells slots Q (F0 m (tgt) ls (rest))) (kf : A = res → W p l e R s m args below meth c H locs cells slots Q (F0 m (pc + 1 + 3) ls (rest))) : W p l e R s m args below meth c H locs cells slots Q (F0 m (pc) ls (.long y :: .long x :: rest)) :=
  W.lcmp hexec hb hdg (lv_if_ne hexec hb hdg2 ht (fun c1 => kt (w_if (fun q => c1 (lg_cmp0.mpr q)) h)) (fun c1 => kf (w_it (lg_cmp0.mp c1) h)))
theorem g_lcmp_lt (hexec : p.tables.exec = Jvm.exec) (hb : c.code = cc) {x y : Int64} {a d : Int} (ha : x.toInt = a) (hd : y.toInt = d) {off : Int} {tgt : Nat} {A B res : ρ} (h : (if a < d then A else B) = res) (hdg : decode cc pc = .ok (.lcmp, 1)) (hdg2 : decode cc (pc + 1) = .ok (.ifCond .lt off, 3)) (ht : ((pc + 1 : Nat) : Int) + off = (tgt : Int)) (kt : A = res → W p l e R s m args below meth c H locs cells slots Q (F0 m (tgt) ls (rest))) (kf : B = res → W p l e R s m args below meth c H locs cells slots Q (F0 m (pc + 1 + 3) ls (rest))) : W p l e R s m args below meth c H locs cells slots Q (F0 m (pc) ls (.long y :: .long x :: rest)) :=
  W.lcmp hexec hb hdg (lv_if_lt hexec hb hdg2 ht (fun c1 => kt (w_it (by rw [m_cmpl, Int64.lt_iff_toInt_lt] at c1; omega) h)) (fun c1 => kf (w_if (by rw [m_cmpl, Int64.lt_iff_toInt_lt] at c1; omega) h)))
theorem g_lcmp_gt (hexec : p.tables.exec = Jvm.exec) (hb : c.code = cc) {x y : Int64} {a d : Int} (ha : x.toInt = a) (hd : y.toInt = d) {off : Int} {tgt : Nat} {A B res : ρ} (h : (if d < a then A else B) = res) (hdg : decode cc pc = .ok (.lcmp, 1)) (hdg2 : decode cc (pc + 1) = .ok (.ifCond .gt off, 3)) (ht : ((pc + 1 : Nat) : Int) + off = (tgt : Int)) (kt : A = res → W p l e R s m args below meth c H locs cells slots Q (F0 m (tgt) ls (rest))) (kf : B = res → W p l e R s m args below meth c H locs cells slots Q (F0 m (pc + 1 + 3) ls (rest))) : W p l e R s m args below meth c H locs cells slots Q (F0 m (pc) ls (.long y :: .long x :: rest)) :=
  W.lcmp hexec hb hdg (lv_if_gt hexec hb hdg2 ht (fun c1 => kt (w_it (by rw [m_cmpg, Int64.lt_iff_toInt_lt] at c1; omega) h)) (fun c1 => kf (w_if (by rw [m_cmpg, Int64.lt_iff_toInt_lt] at c1; omega) h)))
theorem g_acmp_eq (hexec : p.tables.exec = Jvm.exec) (hb : c.code = cc) {j k : Nat} {off : Int} {tgt : Nat} {A B res : ρ} (h : (if j = k then A else B) = res) (hdg : decode cc pc = .ok (.if_acmp .eq off, 3)) (ht : (pc : Int) + off = (tgt : Int)) (kt : A = res → W p l e R s m args below meth c H locs cells slots Q (F0 m (tgt) ls (rest))) (kf : B = res → W p l e R s m args below meth c H locs cells slots Q (F0 m (pc + 3) ls (rest))) : W p l e R s m args below meth c H locs cells slots Q (F0 m (pc) ls (.ref (b + (14 + 4 * k)) :: .ref (b + (14 + 4 * j)) :: rest)) := by
  refine lv_acmp_eq (rx := some (b + (14 + 4 * j))) (ry := some (b + (14 + 4 * k))) hexec hb hdg ht (fun c1 => kt (w_it ?_ h)) (fun c1 => kf (w_if (fun q => c1 (by rw [q])) h))
  have := Option.some.inj c1
  omega
theorem w_onN {α : Type} {A r : α} {B : Nat → α} (h : w_on none A B = r) : A = r := h
theorem w_onS {α : Type} {A r : α} {B : Nat → α} {j : Nat} (h : w_on (some j) A B = r) : B j = r := h
theorem lv_aload_nq (hexec : p.tables.exec = Jvm.exec) (hb : c.code = cc) {k : Fin 4} {i : Nat} {o : Option Nat} (hdg : decode cc pc = .ok (.aload_n k, 1)) (hi : (k : Nat) = i) (hl : ls[i]? = some (.val (va_rf o))) (kk : W p l e R s m args below meth c H locs cells slots Q (F0 m (pc + 1) ls (va_rf o :: rest))) : W p l e R s m args below meth c H locs cells slots Q (F0 m (pc) ls (rest)) := by
  cases o with
  | none => exact lv_aload_nN hexec hb hdg hi hl kk
  | some a => exact lv_aload_n hexec hb hdg hi hl kk
theorem lv_aloadq (hexec : p.tables.exec = Jvm.exec) (hb : c.code = cc) {i : Nat} {o : Option Nat} (hdg : decode cc pc = .ok (.aload i, 2)) (hl : ls[i]? = some (.val (va_rf o))) (kk : W p l e R s m args below meth c H locs cells slots Q (F0 m (pc + 2) ls (va_rf o :: rest))) : W p l e R s m args below meth c H locs cells slots Q (F0 m (pc) ls (rest)) := by
  cases o with
  | none => exact lv_aloadN hexec hb hdg hl kk
  | some a => exact lv_aload hexec hb hdg hl kk
theorem lv_astore_nq (hexec : p.tables.exec = Jvm.exec) (hb : c.code = cc) {k : Fin 4} {i : Nat} {o : Option Nat} {lv lv' : List (Nat × Value)} (hdg : decode cc pc = .ok (.astore_n k, 1)) (hi : (k : Nat) = i) (h : lv_has ls nL lv) (hn : i < nL) (hl : (i, va_rf o) :: lv.filter (fun q => !(q.1 == i) && !(q.1 + 1 == i && q.2.category == 2)) = lv') (kk : ∀ ls' : Array Slot, lv_has ls' nL lv' → W p l e R s m args below meth c H locs cells slots Q (F0 m (pc + 1) ls' (rest))) : W p l e R s m args below meth c H locs cells slots Q (F0 m (pc) ls (va_rf o :: rest)) := by
  cases o with
  | none => exact lv_astore_nN hexec hb hdg hi h hn hl kk
  | some a => exact lv_astore_n hexec hb hdg hi h hn hl kk
theorem lv_astoreq (hexec : p.tables.exec = Jvm.exec) (hb : c.code = cc) {i : Nat} {o : Option Nat} {lv lv' : List (Nat × Value)} (hdg : decode cc pc = .ok (.astore i, 2)) (h : lv_has ls nL lv) (hn : i < nL) (hl : (i, va_rf o) :: lv.filter (fun q => !(q.1 == i) && !(q.1 + 1 == i && q.2.category == 2)) = lv') (kk : ∀ ls' : Array Slot, lv_has ls' nL lv' → W p l e R s m args below meth c H locs cells slots Q (F0 m (pc + 2) ls' (rest))) : W p l e R s m args below meth c H locs cells slots Q (F0 m (pc) ls (va_rf o :: rest)) := by
  cases o with
  | none => exact lv_astoreN hexec hb hdg h hn hl kk
  | some a => exact lv_astore hexec hb hdg h hn hl kk
variable {a : Array Value} {st : List Value} {n : Nat} {f : Nat → va_E}
theorem g_callI {v : Int} {S1 : SS} (hr : va_Run p l e R s m args below meth c H locs cells slots 0 0 (F0 m pc ls st) rest (va_Qi (fun r u => r.toInt = v ∧ u.1 = 220 ∧ u.2 = J S1 ∧ rng S1) (mB D b) (fun q => b ≤ q) a) (fun q => b ≤ q)) (hM : mS D b s n f H locs) (kk : ∀ (r : Int32) (H1 : Heap) (locs1 : List Loc), r.toInt = v → mS D b s 220 (J S1) H1 locs1 → rng S1 → W p l e R s m args below meth c H1 locs1 cells slots Q (F0 m (pc + 3) ls (.int r :: rest))) : W p l e R s m args below meth c H locs cells slots Q (F0 m (pc) ls (st)) :=
  m_goi hr hM (fun r n1 f1 H1 locs1 hp hM1 => by
    obtain ⟨h1, h2, h3, h4⟩ := hp
    have h2 : n1 = 220 := h2
    have h3 : f1 = J S1 := h3
    subst h2; subst h3
    exact kk r H1 locs1 h1 hM1 h4)
theorem g_callL {v : Int64} {S1 : SS} (hr : va_Run p l e R s m args below meth c H locs cells slots 0 0 (F0 m pc ls st) rest (va_Ql (fun r u => r = v ∧ u.1 = 220 ∧ u.2 = J S1 ∧ rng S1) (mB D b) (fun q => b ≤ q) a) (fun q => b ≤ q)) (hM : mS D b s n f H locs) (kk : ∀ (r : Int64) (H1 : Heap) (locs1 : List Loc), r = v → mS D b s 220 (J S1) H1 locs1 → rng S1 → W p l e R s m args below meth c H1 locs1 cells slots Q (F0 m (pc + 3) ls (.long r :: rest))) : W p l e R s m args below meth c H locs cells slots Q (F0 m (pc) ls (st)) :=
  m_gol hr hM (fun r n1 f1 H1 locs1 hp hM1 => by
    obtain ⟨h1, h2, h3, h4⟩ := hp
    have h2 : n1 = 220 := h2
    have h3 : f1 = J S1 := h3
    subst h2; subst h3
    exact kk r H1 locs1 h1 hM1 h4)
theorem g_callQ {v : Option Nat} {S1 : SS} (hr : va_Run p l e R s m args below meth c H locs cells slots 0 0 (F0 m pc ls st) rest (va_Qq (fun r u => r = v ∧ u.1 = 220 ∧ u.2 = J S1 ∧ rng S1) (mB D b) (fun q => b ≤ q) a) (fun q => b ≤ q)) (hM : mS D b s n f H locs) (kk : ∀ (r : Option Nat) (H1 : Heap) (locs1 : List Loc), r = v → mS D b s 220 (J S1) H1 locs1 → rng S1 → W p l e R s m args below meth c H1 locs1 cells slots Q (F0 m (pc + 3) ls (va_rf r :: rest))) : W p l e R s m args below meth c H locs cells slots Q (F0 m (pc) ls (st)) :=
  m_goq hr hM (fun r n1 f1 H1 locs1 hp hM1 => by
    obtain ⟨h1, h2, h3, h4⟩ := hp
    have h2 : n1 = 220 := h2
    have h3 : f1 = J S1 := h3
    subst h2; subst h3
    exact kk r H1 locs1 h1 hM1 h4)
theorem g_callV {S1 : SS} (hr : va_Run p l e R s m args below meth c H locs cells slots 0 0 (F0 m pc ls st) rest (va_Qv (fun u => u.1 = 220 ∧ u.2 = J S1 ∧ rng S1) (mB D b) (fun q => b ≤ q) a) (fun q => b ≤ q)) (hM : mS D b s n f H locs) (kk : ∀ (H1 : Heap) (locs1 : List Loc), mS D b s 220 (J S1) H1 locs1 → rng S1 → W p l e R s m args below meth c H1 locs1 cells slots Q (F0 m (pc + 3) ls (rest))) : W p l e R s m args below meth c H locs cells slots Q (F0 m (pc) ls (st)) :=
  m_gov hr hM (fun n1 f1 H1 locs1 hp hM1 => by
    obtain ⟨h2, h3, h4⟩ := hp
    have h2 : n1 = 220 := h2
    have h3 : f1 = J S1 := h3
    subst h2; subst h3
    exact kk H1 locs1 hM1 h4)
end GR
abbrev cI (l : Launch) (y : MethodName) (bytes : ByteArray) (maxL : Nat) (ret : FieldType) (d : Nat) (D : va_G) (kc : Nat → ClassId) (b : Nat) (J : SS → Nat → va_E) (S : SS) (as : List Value) (v : Int) (S1 : SS) : Prop := mMi l y bytes maxL ret d 0 0 D kc b 220 (J S) as (fun r u => r.toInt = v ∧ u.1 = 220 ∧ u.2 = J S1 ∧ rng S1)
abbrev cL (l : Launch) (y : MethodName) (bytes : ByteArray) (maxL : Nat) (d : Nat) (D : va_G) (kc : Nat → ClassId) (b : Nat) (J : SS → Nat → va_E) (S : SS) (as : List Value) (v : Int64) (S1 : SS) : Prop := mMl l y bytes maxL .long d 0 0 D kc b 220 (J S) as (fun r u => r = v ∧ u.1 = 220 ∧ u.2 = J S1 ∧ rng S1)
abbrev cQ (l : Launch) (y : MethodName) (bytes : ByteArray) (maxL : Nat) (ret : FieldType) (d : Nat) (D : va_G) (kc : Nat → ClassId) (b : Nat) (J : SS → Nat → va_E) (S : SS) (as : List Value) (v : Option Nat) (S1 : SS) : Prop := mMq l y bytes maxL ret d 0 0 D kc b 220 (J S) as (fun r u => r = v ∧ u.1 = 220 ∧ u.2 = J S1 ∧ rng S1)
abbrev cV (l : Launch) (y : MethodName) (bytes : ByteArray) (maxL : Nat) (d : Nat) (D : va_G) (kc : Nat → ClassId) (b : Nat) (J : SS → Nat → va_E) (S : SS) (as : List Value) (S1 : SS) : Prop := mMv l y bytes maxL d 0 0 D kc b 220 (J S) as (fun u => u.1 = 220 ∧ u.2 = J S1 ∧ rng S1)
theorem g_beg_i {l : Launch} {y : MethodName} {bytes : ByteArray} {maxL d : Nat} {D : va_G} {kc : Nat → ClassId} {b : Nat} {J : SS → Nat → va_E} {S : SS} {as : List Value} {v : Int} {S1 : SS} (hy : plainName y.cls = true) (hlen : (lg_sl as).length ≤ maxL) (body : ∀ (p : Program) (e : Env) (s : State) (m : MethodId) (args : Array Value) (below : List Frame) (meth : Method) (c : Code) (Q : State → Prop), mC p s m args c bytes maxL y.cls D kc b → (∀ (S2 : SS) (H : Heap) (locs : List Loc) (ls : Array Slot) (pc : Nat) (x : Int32), x.toInt = v → S2 = S1 → mS D b s 220 (J S2) H locs → rng S2 → decode bytes pc = .ok (.ireturn, 1) → W p l e (mR d 0 0) s m args below meth c H locs 0 0 Q (F0 m pc ls [.int x])) → mS D b s 220 (J S) s.heap [] → ∀ ls : Array Slot, lv_has ls maxL (lv_args 0 as) → W p l e (mR d 0 0) s m args below meth c s.heap [] 0 0 Q (F0 m 0 ls [])) : cI l y bytes maxL .int d D kc b J S as v S1 := by
  refine m_beg_i hy hlen (fun p e s m args below meth c Q C hnm ret hM ls hl => body p e s m args below meth c Q C ?_ hM ls hl)
  exact fun S2 H locs ls pc x hx hS hM hR hd => ret 220 (J S2) H locs ls pc x hM ⟨hx, rfl, by rw [hS], by rw [← hS]; exact hR⟩ hd
theorem g_beg_z {l : Launch} {y : MethodName} {bytes : ByteArray} {maxL d : Nat} {D : va_G} {kc : Nat → ClassId} {b : Nat} {J : SS → Nat → va_E} {S : SS} {as : List Value} {v : Int} {S1 : SS} (hy : plainName y.cls = true) (hlen : (lg_sl as).length ≤ maxL) (body : ∀ (p : Program) (e : Env) (s : State) (m : MethodId) (args : Array Value) (below : List Frame) (meth : Method) (c : Code) (Q : State → Prop), mC p s m args c bytes maxL y.cls D kc b → (∀ (S2 : SS) (H : Heap) (locs : List Loc) (ls : Array Slot) (pc : Nat) (x : Int32), x.toInt = v → (v = 0 ∨ v = 1) → S2 = S1 → mS D b s 220 (J S2) H locs → rng S2 → decode bytes pc = .ok (.ireturn, 1) → W p l e (mR d 0 0) s m args below meth c H locs 0 0 Q (F0 m pc ls [.int x])) → mS D b s 220 (J S) s.heap [] → ∀ ls : Array Slot, lv_has ls maxL (lv_args 0 as) → W p l e (mR d 0 0) s m args below meth c s.heap [] 0 0 Q (F0 m 0 ls [])) : cI l y bytes maxL .boolean d D kc b J S as v S1 := by
  refine m_beg_z hy hlen (fun p e s m args below meth c Q C hnm ret hM ls hl => body p e s m args below meth c Q C ?_ hM ls hl)
  exact fun S2 H locs ls pc x hx hz hS hM hR hd => ret 220 (J S2) H locs ls pc x hM ⟨hx, rfl, by rw [hS], by rw [← hS]; exact hR⟩ (z_nar hx hz) hd
theorem g_beg_l {l : Launch} {y : MethodName} {bytes : ByteArray} {maxL d : Nat} {D : va_G} {kc : Nat → ClassId} {b : Nat} {J : SS → Nat → va_E} {S : SS} {as : List Value} {v : Int64} {S1 : SS} (hy : plainName y.cls = true) (hlen : (lg_sl as).length ≤ maxL) (body : ∀ (p : Program) (e : Env) (s : State) (m : MethodId) (args : Array Value) (below : List Frame) (meth : Method) (c : Code) (Q : State → Prop), mC p s m args c bytes maxL y.cls D kc b → (∀ (S2 : SS) (H : Heap) (locs : List Loc) (ls : Array Slot) (pc : Nat) (x : Int64), x = v → S2 = S1 → mS D b s 220 (J S2) H locs → rng S2 → decode bytes pc = .ok (.lreturn, 1) → W p l e (mR d 0 0) s m args below meth c H locs 0 0 Q (F0 m pc ls [.long x])) → mS D b s 220 (J S) s.heap [] → ∀ ls : Array Slot, lv_has ls maxL (lv_args 0 as) → W p l e (mR d 0 0) s m args below meth c s.heap [] 0 0 Q (F0 m 0 ls [])) : cL l y bytes maxL d D kc b J S as v S1 := by
  refine m_beg_l hy hlen (fun p e s m args below meth c Q C hnm ret hM ls hl => body p e s m args below meth c Q C ?_ hM ls hl)
  exact fun S2 H locs ls pc x hx hS hM hR hd => ret 220 (J S2) H locs ls pc x hM ⟨hx, rfl, by rw [hS], by rw [← hS]; exact hR⟩ hd
theorem g_beg_v {l : Launch} {y : MethodName} {bytes : ByteArray} {maxL d : Nat} {D : va_G} {kc : Nat → ClassId} {b : Nat} {J : SS → Nat → va_E} {S : SS} {as : List Value} {S1 : SS} (hy : plainName y.cls = true) (hlen : (lg_sl as).length ≤ maxL) (body : ∀ (p : Program) (e : Env) (s : State) (m : MethodId) (args : Array Value) (below : List Frame) (meth : Method) (c : Code) (Q : State → Prop), mC p s m args c bytes maxL y.cls D kc b → (∀ (S2 : SS) (H : Heap) (locs : List Loc) (ls : Array Slot) (pc : Nat), S2 = S1 → mS D b s 220 (J S2) H locs → rng S2 → decode bytes pc = .ok (.return_, 1) → W p l e (mR d 0 0) s m args below meth c H locs 0 0 Q (F0 m pc ls [])) → mS D b s 220 (J S) s.heap [] → ∀ ls : Array Slot, lv_has ls maxL (lv_args 0 as) → W p l e (mR d 0 0) s m args below meth c s.heap [] 0 0 Q (F0 m 0 ls [])) : cV l y bytes maxL d D kc b J S as S1 := by
  refine m_beg_v hy hlen (fun p e s m args below meth c Q C hnm ret hM ls hl => body p e s m args below meth c Q C ?_ hM ls hl)
  exact fun S2 H locs ls pc hS hM hR hd => ret 220 (J S2) H locs ls pc hM ⟨rfl, by rw [hS], by rw [← hS]; exact hR⟩ hd
theorem g_beg_q {l : Launch} {y : MethodName} {bytes : ByteArray} {maxL d : Nat} {D : va_G} {kc : Nat → ClassId} {b : Nat} {J : SS → Nat → va_E} {S : SS} {as : List Value} {C0 : String} {v : Option Nat} {S1 : SS} (hy : plainName y.cls = true) (hlen : (lg_sl as).length ≤ maxL) (body : ∀ (p : Program) (e : Env) (s : State) (m : MethodId) (args : Array Value) (below : List Frame) (meth : Method) (c : Code) (Q : State → Prop), mC p s m args c bytes maxL y.cls D kc b → (∀ (S2 : SS) (H : Heap) (locs : List Loc) (ls : Array Slot) (pc : Nat) (x : Option Nat), x = v → S2 = S1 → mS D b s 220 (J S2) H locs → rng S2 → decode bytes pc = .ok (.areturn, 1) → W p l e (mR d 0 0) s m args below meth c H locs 0 0 Q (F0 m pc ls [va_rf x])) → mS D b s 220 (J S) s.heap [] → ∀ ls : Array Slot, lv_has ls maxL (lv_args 0 as) → W p l e (mR d 0 0) s m args below meth c s.heap [] 0 0 Q (F0 m 0 ls [])) : cQ l y bytes maxL (.object C0) d D kc b J S as v S1 := by
  refine m_beg_q hy hlen (fun p e s m args below meth c Q C hnm ret hM ls hl => body p e s m args below meth c Q C ?_ hM ls hl)
  exact fun S2 H locs ls pc x hx hS hM hR hd => ret 220 (J S2) H locs ls pc x hM ⟨hx, rfl, by rw [hS], by rw [← hS]; exact hR⟩ hd
