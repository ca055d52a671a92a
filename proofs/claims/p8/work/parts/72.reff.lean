/-- all ints stay but at the places X -/
def fr (X : Nat → Nat → Prop) (S S1 : SS) : Prop := ∀ r k, ¬ X r k → gi S1 r k = gi S r k
theorem fr_refl (X : Nat → Nat → Prop) (S : SS) : fr X S S := fun _ _ _ => rfl
theorem fr_trans {X : Nat → Nat → Prop} {S S1 S2 : SS} (h : fr X S S1) (h2 : fr X S1 S2) : fr X S S2 := fun r k a => (h2 r k a).trans (h r k a)
theorem fr_mono {X Y : Nat → Nat → Prop} {S S1 : SS} (h : fr X S S1) (hx : ∀ r k, X r k → Y r k) : fr Y S S1 := fun r k a => h r k (fun q => a (hx r k q))
theorem fr_si {X : Nat → Nat → Prop} {S S1 : SS} (h : fr X S S1) {r k : Nat} {v : Int} (hx : X r k) : fr X S (si S1 r k v) := by
  intro r' k' a
  rw [gi_si, if_neg (fun q => a (by rw [q.1, q.2]; exact hx))]; exact h r' k' a
theorem fr_sl {X : Nat → Nat → Prop} {S S1 : SS} (h : fr X S S1) {r k : Nat} {v : Int64} : fr X S (sl S1 r k v) := fun r' k' a => h r' k' a
theorem pf_lt {β : Type} {X : Nat → Nat → Prop} {S0 S : SS} {r k : Nat} {v : Int} {g : SS → Option β} {P : β → Prop} (h : fr X S0 S) (hx : X r k) (hk : ∀ y, fr X S0 y → pc (g y) P) : pc (w_lt (si S r k v) g) P := hk _ (fr_si h hx)
theorem pf_lts {β : Type} {X : Nat → Nat → Prop} {S0 S : SS} {r k : Nat} {v : Int64} {g : SS → Option β} {P : β → Prop} (h : fr X S0 S) (hk : ∀ y, fr X S0 y → pc (g y) P) : pc (w_lt (sl S r k v) g) P := hk _ (fr_sl h)
theorem pf_wr {β : Type} {X : Nat → Nat → Prop} {S0 S : SS} {a c : Int} {g : SS → Option β} {P : β → Prop} (h : fr X S0 S) (hx : X 192 14) (hx2 : X 192 15) (hk : ∀ y, fr X S0 y → pc (g y) P) : pc (w_lt (f_M_wrong S a c) g) P := hk _ (fr_si (fr_si h hx) hx2)
theorem pf_b1 {α β : Type} {P : β → Prop} {x : Option α} {k : α → Option β} (hk : ∀ a, pc (k a) P) : pc (w_b1 x k) P := pc_b1 (R := fun _ => True) (fun _ _ => trivial) (fun a _ => hk a)
theorem fr_wrong {X : Nat → Nat → Prop} {S0 S : SS} {a c : Int} (h : fr X S0 S) (hx : X 192 14) (hx2 : X 192 15) : fr X S0 (f_M_wrong S a c) := fr_si (fr_si h hx) hx2
abbrev XSC (X : Nat → Nat → Prop) : Prop := ∀ k, 9 ≤ k → k ≤ 15 → X 192 k
theorem fr_begin {X : Nat → Nat → Prop} (hX : XSC X) (h8 : X 192 8) {S0 S : SS} (h : fr X S0 S) : fr X S0 (f_M_begin S) := fr_si (fr_si (fr_si (fr_si (fr_si h (hX _ (by omega) (by omega))) h8) (hX _ (by omega) (by omega))) (hX _ (by omega) (by omega))) (hX _ (by omega) (by omega))
theorem pfl_scan_81 {X : Nat → Nat → Prop} (hX : XSC X) (S0 : SS) : ∀ (n : Nat) (S : SS), fr X S0 S → pc (f_M_scan_81 n S) (fr X S0) := by
  intro n
  induction n with
  | zero => intro S h r e; exact absurd e (by simp [f_M_scan_81])
  | succ n ih =>
    intro S h
    show pc (f_M_scan_81_b (f_M_scan_81 n) S) _
    unfold f_M_scan_81_b
    repeat' first | with_reducible exact ih _ (by assumption) | with_reducible exact pc_some (by assumption) | with_reducible refine pc_chk (fun _ => ?_) | with_reducible refine pc_if (fun _ => ?_) (fun _ => ?_) | with_reducible refine pf_lt (by assumption) (hX _ (by omega) (by omega)) (fun _ _ => ?_) | with_reducible refine pf_b1 (fun _ => ?_)
theorem pfl_scan_128 {X : Nat → Nat → Prop} (hX : XSC X) (S0 : SS) : ∀ (n : Nat) (S : SS), fr X S0 S → pc (f_M_scan_128 n S) (fr X S0) := by
  intro n
  induction n with
  | zero => intro S h r e; exact absurd e (by simp [f_M_scan_128])
  | succ n ih =>
    intro S h
    show pc (f_M_scan_128_b (f_M_scan_128 n) S) _
    unfold f_M_scan_128_b f_M_scan_178 f_M_scan_210
    repeat' first | with_reducible exact ih _ (by assumption) | with_reducible exact pc_some (by assumption) | with_reducible refine pc_chk (fun _ => ?_) | with_reducible refine pc_if (fun _ => ?_) (fun _ => ?_) | with_reducible refine pf_lt (by assumption) (hX _ (by omega) (by omega)) (fun _ _ => ?_) | with_reducible refine pf_b1 (fun _ => ?_)
theorem pf_scan_38 {X : Nat → Nat → Prop} (hX : XSC X) (S0 S : SS) (h : fr X S0 S) : pc (f_M_scan_38 S) (fr X S0) := by
  unfold f_M_scan_38 f_M_scan_235 f_M_scan_240
  repeat' first | with_reducible exact pfl_scan_81 hX S0 FU _ (by assumption) | with_reducible exact pfl_scan_128 hX S0 FU _ (by assumption) | with_reducible exact pc_some (by assumption) | with_reducible refine pc_chk (fun _ => ?_) | with_reducible refine pc_if (fun _ => ?_) (fun _ => ?_) | with_reducible refine pf_lt (by assumption) (hX _ (by omega) (by omega)) (fun _ _ => ?_) | with_reducible refine pf_b1 (fun _ => ?_)
theorem pfl_scan_0 {X : Nat → Nat → Prop} (hX : XSC X) (S0 : SS) : ∀ (n : Nat) (S : SS), fr X S0 S → pc (f_M_scan_0 n S) (fr X S0) := by
  intro n
  induction n with
  | zero => intro S h r e; exact absurd e (by simp [f_M_scan_0])
  | succ n ih =>
    intro S h
    show pc (f_M_scan_0_b (f_M_scan_0 n) S) _
    unfold f_M_scan_0_b
    repeat' first | with_reducible exact ih _ (by assumption) | with_reducible exact pf_scan_38 hX S0 _ (by assumption) | with_reducible exact pc_some (by assumption) | with_reducible refine pc_chk (fun _ => ?_) | with_reducible refine pc_if (fun _ => ?_) (fun _ => ?_) | with_reducible refine pf_lt (by assumption) (hX _ (by omega) (by omega)) (fun _ _ => ?_) | with_reducible refine pf_b1 (fun _ => ?_)
theorem pf_scan {X : Nat → Nat → Prop} (hX : XSC X) (S0 S : SS) (h : fr X S0 S) : pc (f_M_scan S) (fr X S0) := pfl_scan_0 hX S0 FU S h
theorem pf_number {X : Nat → Nat → Prop} (hX : XSC X) (S0 S : SS) (h : fr X S0 S) (a c : Int) : pc (f_M_number S a c) (fun u => fr X S0 u.2 ∧ ∀ r, u.1 = some r → a ≤ r ∧ r ≤ c) := by
  unfold f_M_number
  have i01 := in01 S (gi S 192 13) a c
  refine pc_if (fun c1 => pc_if (fun c2 => ?_) (fun c2 => ?_)) (fun c1 => ?_)
  · exact pc_some ⟨fr_wrong h (hX _ (by omega) (by omega)) (hX _ (by omega) (by omega)), fun r e => nomatch e⟩
  · exact pc_b1 (pf_scan hX S0 S h) (fun S8 h8 => pc_some ⟨h8, fun r e => by cases e; omega⟩)
  · exact pc_some ⟨fr_wrong h (hX _ (by omega) (by omega)) (hX _ (by omega) (by omega)), fun r e => nomatch e⟩
theorem pfl_rw96 {X : Nat → Nat → Prop} (hX : XSC X) (S0 : SS) (v1 : Int) (hv : X 204 v1.toNat) (kf : SS → Option (Option Unit × SS)) (hk : ∀ S, fr X S0 S → pc (kf S) (fun u => fr X S0 u.2)) : ∀ (n : Nat) (S : SS) (v2 : Int) (w3 : Int64), fr X S0 S → pc (f_M_readWords_96 v1 kf n S v2 w3) (fun u => fr X S0 u.2) := by
  intro n
  induction n with
  | zero => intro S v2 w3 h r e; exact absurd e (by simp [f_M_readWords_96])
  | succ n ih =>
    intro S v2 w3 h
    show pc (f_M_readWords_96_b v1 kf (f_M_readWords_96 v1 kf n) S v2 w3) _
    unfold f_M_readWords_96_b f_M_readWords_204 f_M_readWords_170 f_M_readWords_171 f_M_readWords_191
    repeat' first | with_reducible exact ih _ _ _ (by assumption) | with_reducible exact hk _ (by assumption) | with_reducible exact pc_some (by assumption) | with_reducible refine pc_chk (fun _ => ?_) | with_reducible refine pc_if (fun _ => ?_) (fun _ => ?_) | with_reducible refine pf_wr (by assumption) (hX _ (by omega) (by omega)) (hX _ (by omega) (by omega)) (fun _ _ => ?_) | with_reducible refine pf_lt (by assumption) (hX _ (by omega) (by omega)) (fun _ _ => ?_) | with_reducible refine pf_lt (by assumption) hv (fun _ _ => ?_) | with_reducible refine pf_lts (by assumption) (fun _ _ => ?_) | with_reducible refine pf_b1 (fun _ => ?_)
theorem pfl_rw19 {X : Nat → Nat → Prop} (hX : XSC X) (S0 : SS) (v1 : Int) (hv : X 204 v1.toNat) : ∀ (n : Nat) (S : SS), fr X S0 S → pc (f_M_readWords_19 v1 n S) (fun u => fr X S0 u.2) := by
  intro n
  induction n with
  | zero => intro S h r e; exact absurd e (by simp [f_M_readWords_19])
  | succ n ih =>
    intro S h
    show pc (f_M_readWords_19_b v1 (f_M_readWords_19 v1 n) S) _
    unfold f_M_readWords_19_b f_M_readWords_57 f_M_readWords_269
    repeat' first | with_reducible exact ih _ (by assumption) | with_reducible exact pfl_rw96 hX S0 v1 hv _ ih FU _ _ _ (by assumption) | with_reducible exact pc_b1 (pf_scan hX S0 _ (by assumption)) (fun _ h8 => pc_some h8) | with_reducible exact pc_some (by assumption) | with_reducible refine pc_chk (fun _ => ?_) | with_reducible refine pc_if (fun _ => ?_) (fun _ => ?_) | with_reducible refine pf_wr (by assumption) (hX _ (by omega) (by omega)) (hX _ (by omega) (by omega)) (fun _ _ => ?_) | with_reducible refine pf_lt (by assumption) (hX _ (by omega) (by omega)) (fun _ _ => ?_) | with_reducible refine pf_b1 (fun _ => ?_)
theorem pf_readWords {X : Nat → Nat → Prop} (hX : XSC X) (S0 S : SS) (v1 : Int) (hv : X 204 v1.toNat) (h : fr X S0 S) : pc (f_M_readWords S v1) (fun u => fr X S0 u.2) := by
  unfold f_M_readWords
  repeat' first | with_reducible exact pfl_rw19 hX S0 v1 hv FU _ (by assumption) | with_reducible exact pc_some (by assumption) | with_reducible refine pc_if (fun _ => ?_) (fun _ => ?_) | with_reducible refine pf_wr (by assumption) (hX _ (by omega) (by omega)) (hX _ (by omega) (by omega)) (fun _ _ => ?_) | with_reducible refine pf_b1 (fun _ => ?_)
/-- what reading a line behind its numbers may change -/
abbrev XF4 (m : Nat) (r k : Nat) : Prop := (r = 204 ∧ k = m) ∨ (r = 192 ∧ 9 ≤ k ∧ k ≤ 15)
theorem XF4_S (m : Nat) : XSC (XF4 m) := fun k a c => .inr ⟨rfl, a, c⟩
theorem pf_rl505 (S0 S : SS) (m : Nat) (h : fr (XF4 m) S0 S) : pc (f_M_readLine_505 (m : Int) S) (fun u => fr (XF4 m) S0 u.2) := by
  unfold f_M_readLine_505
  refine pf_b1 (fun _ => pc_if (fun _ => pf_wr h (XF4_S m _ (by omega) (by omega)) (XF4_S m _ (by omega) (by omega)) (fun _ h => pc_some h)) (fun _ => pc_b1 (pf_scan (XF4_S m) S0 S h) (fun _ h8 => pc_some h8)))
theorem pf_rl480 (S0 S : SS) (m : Nat) (h : fr (XF4 m) S0 S) : pc (f_M_readLine_480 (m : Int) S) (fun u => fr (XF4 m) S0 u.2) := by
  have h500 : pc (f_M_readLine_500 (m : Int) S) (fun u => fr (XF4 m) S0 u.2) := by
    unfold f_M_readLine_500
    exact pc_b3 (pf_readWords (XF4_S m) S0 S (m : Int) (.inl ⟨rfl, Int.toNat_natCast m⟩) h) (fun s h => pc_some h) (fun _ s h => pf_rl505 S0 s m h)
  unfold f_M_readLine_480
  exact pc_chk (fun _ => pc_if (fun _ => h500) (fun _ => pc_chk (fun _ => pc_if (fun _ => h500) (fun _ => pf_rl505 S0 S m h))))
theorem m_val_fr {S S1 : SS} {k : Nat} (h : m_val S k) (e1 : gi S1 199 k = gi S 199 k) (e2 : gi S1 201 k = gi S 201 k) (e3 : gi S1 202 k = gi S 202 k) (e4 : gi S1 203 k = gi S 203 k) (e5 : gi S1 192 3 = gi S 192 3) : m_val S1 k := by
  unfold m_val
  rw [e1, e2, e3, e4, e5]; exact h
/-- what reading a line may change -/
abbrev XFL (m : Nat) (r k : Nat) : Prop := (199 ≤ r ∧ r ≤ 208 ∧ k = m) ∨ (r = 192 ∧ 9 ≤ k ∧ k ≤ 15)
theorem XFL_S (m : Nat) : XSC (XFL m) := fun k a c => .inr ⟨rfl, a, c⟩
abbrev QFL (m : Nat) (S0 : SS) (u : Option Unit × SS) : Prop := fr (XFL m) S0 u.2 ∧ (u.1 ≠ none → m_val u.2 m)
theorem pf_rl480v (S0 S : SS) (m : Nat) (h : fr (XFL m) S0 S) (hv : m_val S m) : pc (f_M_readLine_480 (m : Int) S) (QFL m S0) := by
  refine pc_mono (pf_rl480 S S m (fr_refl _ S)) (fun u hu => ⟨fr_trans h (fr_mono hu (fun r k q => by omega)), fun _ => ?_⟩)
  exact m_val_fr hv (hu 199 m (by omega)) (hu 201 m (by omega)) (hu 202 m (by omega)) (hu 203 m (by omega)) (hu 192 3 (by omega))
