/-- all ints of the class stay but at the places X; the sheet that the setter sets into stays -/
def FX (X : Nat → Nat → Prop) (S0 S : SS) : Prop := (∀ r k, ¬ X r k → gi S r k = gi S0 r k) ∧ gq S 178 4 = gq S0 178 4
theorem FX_refl (X : Nat → Nat → Prop) (S : SS) : FX X S S := ⟨fun _ _ _ => rfl, rfl⟩
theorem FX_si {X : Nat → Nat → Prop} {S0 S : SS} {r k : Nat} {v : Int} (h : FX X S0 S) (hx : X r k) : FX X S0 (si S r k v) := ⟨fun r' k' a => by rw [gi_si, if_neg (fun q => a (by rw [q.1, q.2]; exact hx))]; exact h.1 r' k' a, h.2⟩
theorem FX_sl {X : Nat → Nat → Prop} {S0 S : SS} {r k : Nat} {v : Int64} (h : FX X S0 S) : FX X S0 (sl S r k v) := h
theorem gq_off {S : SS} {r k r' k' : Nat} {v : Option Nat} (h : ¬ (r' = r ∧ k' = k)) : gq (sq S r k v) r' k' = gq S r' k' := by
  unfold gq sq up2
  by_cases e : r' = r
  · by_cases e2 : k' = k
    · exact absurd ⟨e, e2⟩ h
    · simp [e, e2]
  · simp [e]
theorem gq_at (S : SS) (r k : Nat) (v : Option Nat) : gq (sq S r k v) r k = v := by unfold gq sq up2; simp
theorem FX_sq {X : Nat → Nat → Prop} {S0 S : SS} {r k : Nat} {v : Option Nat} (h : FX X S0 S) (hx : ¬ (178 = r ∧ 4 = k)) : FX X S0 (sq S r k v) := ⟨h.1, by rw [gq_off hx]; exact h.2⟩
theorem xf_lt {β : Type} {X : Nat → Nat → Prop} {S0 S : SS} {r k : Nat} {v : Int} {g : SS → Option β} {P : β → Prop} (h : FX X S0 S) (hx : X r k) (hk : ∀ y, FX X S0 y → pc (g y) P) : pc (w_lt (si S r k v) g) P := hk _ (FX_si h hx)
theorem xf_lts {β : Type} {X : Nat → Nat → Prop} {S0 S : SS} {r k : Nat} {v : Int64} {g : SS → Option β} {P : β → Prop} (h : FX X S0 S) (hk : ∀ y, FX X S0 y → pc (g y) P) : pc (w_lt (sl S r k v) g) P := hk _ (FX_sl h)
theorem xf_ltq {β : Type} {X : Nat → Nat → Prop} {S0 S : SS} {r k : Nat} {v : Option Nat} {g : SS → Option β} {P : β → Prop} (h : FX X S0 S) (hx : ¬ (178 = r ∧ 4 = k)) (hk : ∀ y, FX X S0 y → pc (g y) P) : pc (w_lt (sq S r k v) g) P := hk _ (FX_sq h hx)
theorem xf_let {β : Type} {X : Nat → Nat → Prop} {S0 x : SS} {g : SS → Option β} {P : β → Prop} (h : FX X S0 x) (hk : ∀ y, FX X S0 y → pc (g y) P) : pc (w_lt x g) P := hk _ h
theorem xf_ltv {α β : Type} {x : α} {g : α → Option β} {P : β → Prop} (hk : ∀ y, pc (g y) P) : pc (w_lt x g) P := hk _
theorem pc_none {α : Type} {P : α → Prop} : pc (none : Option α) P := fun r e => nomatch e
theorem pc_on {β : Type} {P : β → Prop} {o : Option Nat} {x : Option β} {k : Nat → Option β} (h1 : pc x P) (h2 : ∀ j, o = some j → pc (k j) P) : pc (w_on o x k) P := by
  cases o with
  | none => exact h1
  | some j => exact h2 j rfl
theorem fx_Fault_clear {X : Nat → Nat → Prop} {S0 : SS} (x_3_0 : X 3 0) (x_3_1 : X 3 1) : ∀ S, FX X S0 S → FX X S0 (f_Fault_clear S) := fun S h => FX_si (FX_si h x_3_0) x_3_1
theorem fx_Sheet_clear {X : Nat → Nat → Prop} {S0 : SS} {q0 : Nat} (x_q0 : X q0 1) : ∀ S, FX X S0 S → FX X S0 (f_Sheet_clear S q0) := fun S h => FX_si h x_q0
theorem fx_Pile_clear {X : Nat → Nat → Prop} {S0 : SS} (x_10_3 : X 10 3) (x_10_4 : X 10 4) (x_10_5 : X 10 5) : ∀ S, FX X S0 S → FX X S0 (f_Pile_clear S) := fun S h => FX_si (FX_si (FX_si h x_10_3) x_10_4) x_10_5
theorem fx_Mark_voidByStet {X : Nat → Nat → Prop} {S0 : SS} (x_m_8 : ∀ j, j < 40 → X (14 + 4 * j) 8) (x_m_10 : ∀ j, j < 40 → X (14 + 4 * j) 10) : ∀ S j v, j < 40 → FX X S0 S → FX X S0 (f_Mark_voidByStet S j v) := by
  intro S j v hj h
  unfold f_Mark_voidByStet
  by_cases c : gi S (14 + 4 * j) 8 = 0
  · rw [if_pos c]; exact FX_si (FX_si h (x_m_8 j hj)) (x_m_10 j hj)
  · rw [if_neg c]; exact h
set_option maxHeartbeats 4000000 in
theorem fx_Fault_tellOf {X : Nat → Nat → Prop} {S0 : SS} (x_3_0 : X 3 0) (x_3_1 : X 3 1) : ∀ (S : SS) (v1 : Int) (v2 : Int), FX X S0 S → pc (f_Fault_tellOf S v1 v2) (fun u => FX X S0 u.2) := by
  intro S v1 v2 h
  unfold f_Fault_tellOf
  repeat' first | with_reducible exact pc_some (by assumption) | with_reducible exact pc_none | with_reducible refine pc_chk (fun _ => ?_) | with_reducible refine pc_if (fun _ => ?_) (fun _ => ?_) | with_reducible refine pc_on ?_ (fun _ _ => ?_) | with_reducible refine xf_lt (by assumption) (by first | exact x_3_0 | exact x_3_1) (fun _ _ => ?_) | with_reducible refine xf_lts (by assumption) (fun _ _ => ?_) | with_reducible refine xf_ltq (by assumption) (by omega) (fun _ _ => ?_) | with_reducible refine pf_b1 (fun _ => ?_) | with_reducible refine xf_ltv (fun _ => ?_)
set_option maxHeartbeats 4000000 in
theorem fxl_Tape_addFour_3 {X : Nat → Nat → Prop} {S0 : SS} (x_2 : ∀ k, X 2 k) (x_1_1 : X 1 1) (v1 : Int)  : ∀ (n : Nat) (S : SS) (v2_ : Int), FX X S0 S → pc (f_Tape_addFour_3 v1 n S v2_) (FX X S0) := by
  intro n
  induction n with
  | zero => intro S v2_ h r e; exact absurd e (by simp [f_Tape_addFour_3])
  | succ n ih =>
    intro S v2_ h
    show pc (f_Tape_addFour_3_b v1 (f_Tape_addFour_3 v1 n) S v2_) _
    unfold f_Tape_addFour_3_b
    repeat' first | with_reducible exact ih _ _ (by assumption) | with_reducible unfold f_Tape_addFour_49 | with_reducible exact pc_some (by assumption) | with_reducible exact pc_none | with_reducible refine pc_chk (fun _ => ?_) | with_reducible refine pc_if (fun _ => ?_) (fun _ => ?_) | with_reducible refine pc_on ?_ (fun _ _ => ?_) | with_reducible refine xf_lt (by assumption) (by first | exact x_2 _ | exact x_1_1) (fun _ _ => ?_) | with_reducible refine xf_lts (by assumption) (fun _ _ => ?_) | with_reducible refine xf_ltq (by assumption) (by omega) (fun _ _ => ?_) | with_reducible refine pf_b1 (fun _ => ?_) | with_reducible refine xf_ltv (fun _ => ?_)
set_option maxHeartbeats 4000000 in
theorem fx_Tape_addFour {X : Nat → Nat → Prop} {S0 : SS} (x_2 : ∀ k, X 2 k) (x_1_1 : X 1 1) : ∀ (S : SS) (v1 : Int), FX X S0 S → pc (f_Tape_addFour S v1) (FX X S0) := by
  intro S v1 h
  unfold f_Tape_addFour
  repeat' first | with_reducible exact fxl_Tape_addFour_3 (x_2 := x_2) (x_1_1 := x_1_1) _ FU _ _ (by assumption) | with_reducible unfold f_Tape_addFour_49 | with_reducible exact pc_some (by assumption) | with_reducible exact pc_none | with_reducible refine pc_chk (fun _ => ?_) | with_reducible refine pc_if (fun _ => ?_) (fun _ => ?_) | with_reducible refine pc_on ?_ (fun _ _ => ?_) | with_reducible refine xf_lt (by assumption) (by first | exact x_2 _ | exact x_1_1) (fun _ _ => ?_) | with_reducible refine xf_lts (by assumption) (fun _ _ => ?_) | with_reducible refine xf_ltq (by assumption) (by omega) (fun _ _ => ?_) | with_reducible refine pf_b1 (fun _ => ?_) | with_reducible refine xf_ltv (fun _ => ?_)
set_option maxHeartbeats 4000000 in
theorem fx_Sheet_add {X : Nat → Nat → Prop} {S0 : SS}  {q0 : Nat} (x_q0 : X q0 1) : ∀ (S : SS) (w1 : Int64), FX X S0 S → pc (f_Sheet_add S q0 w1) (FX X S0) := by
  intro S w1 h
  unfold f_Sheet_add
  repeat' first | with_reducible exact pc_some (by assumption) | with_reducible exact pc_none | with_reducible refine pc_chk (fun _ => ?_) | with_reducible refine pc_if (fun _ => ?_) (fun _ => ?_) | with_reducible refine pc_on ?_ (fun _ _ => ?_) | with_reducible refine xf_lt (by assumption) (by first | exact x_q0) (fun _ _ => ?_) | with_reducible refine xf_lts (by assumption) (fun _ _ => ?_) | with_reducible refine xf_ltq (by assumption) (by omega) (fun _ _ => ?_) | with_reducible refine pf_b1 (fun _ => ?_) | with_reducible refine xf_ltv (fun _ => ?_)
set_option maxHeartbeats 4000000 in
theorem fxl_Sheet_addAll_2 {X : Nat → Nat → Prop} {S0 : SS}  {q0 : Nat} (x_q0 : X q0 1) (q1 : Nat)  : ∀ (n : Nat) (S : SS) (v2_ : Int), FX X S0 S → pc (f_Sheet_addAll_2 q0 q1 n S v2_) (FX X S0) := by
  intro n
  induction n with
  | zero => intro S v2_ h r e; exact absurd e (by simp [f_Sheet_addAll_2])
  | succ n ih =>
    intro S v2_ h
    show pc (f_Sheet_addAll_2_b q0 q1 (f_Sheet_addAll_2 q0 q1 n) S v2_) _
    unfold f_Sheet_addAll_2_b
    repeat' first | with_reducible exact ih _ _ (by assumption) | with_reducible exact pc_some (by assumption) | with_reducible exact pc_none | with_reducible refine pc_chk (fun _ => ?_) | with_reducible refine pc_if (fun _ => ?_) (fun _ => ?_) | with_reducible refine pc_on ?_ (fun _ _ => ?_) | with_reducible refine pc_b1 (fx_Sheet_add (x_q0 := (by first | exact x_q0)) _ _ (by assumption)) (fun _ _ => ?_) | with_reducible refine xf_lt (by assumption) (by first | exact x_q0) (fun _ _ => ?_) | with_reducible refine xf_lts (by assumption) (fun _ _ => ?_) | with_reducible refine xf_ltq (by assumption) (by omega) (fun _ _ => ?_) | with_reducible refine pf_b1 (fun _ => ?_) | with_reducible refine xf_ltv (fun _ => ?_)
set_option maxHeartbeats 4000000 in
theorem fx_Sheet_addAll {X : Nat → Nat → Prop} {S0 : SS}  {q0 : Nat} (x_q0 : X q0 1) : ∀ (S : SS) (q1 : Nat), FX X S0 S → pc (f_Sheet_addAll S q0 q1) (FX X S0) := by
  intro S q1 h
  unfold f_Sheet_addAll
  repeat' first | with_reducible exact fxl_Sheet_addAll_2 (x_q0 := x_q0) _ FU _ _ (by assumption) | with_reducible exact pc_some (by assumption) | with_reducible exact pc_none | with_reducible refine pc_chk (fun _ => ?_) | with_reducible refine pc_if (fun _ => ?_) (fun _ => ?_) | with_reducible refine pc_on ?_ (fun _ _ => ?_) | with_reducible refine pc_b1 (fx_Sheet_add (x_q0 := (by first | exact x_q0)) _ _ (by assumption)) (fun _ _ => ?_) | with_reducible refine xf_lt (by assumption) (by first | exact x_q0) (fun _ _ => ?_) | with_reducible refine xf_lts (by assumption) (fun _ _ => ?_) | with_reducible refine xf_ltq (by assumption) (by omega) (fun _ _ => ?_) | with_reducible refine pf_b1 (fun _ => ?_) | with_reducible refine xf_ltv (fun _ => ?_)
set_option maxHeartbeats 4000000 in
theorem fx_Sheet_copyFrom {X : Nat → Nat → Prop} {S0 : SS}  {q0 : Nat} (x_q0 : X q0 1) : ∀ (S : SS) (q1 : Nat), FX X S0 S → pc (f_Sheet_copyFrom S q0 q1) (FX X S0) := by
  intro S q1 h
  unfold f_Sheet_copyFrom
  repeat' first | with_reducible exact pc_some (by assumption) | with_reducible exact pc_none | with_reducible refine pc_chk (fun _ => ?_) | with_reducible refine pc_if (fun _ => ?_) (fun _ => ?_) | with_reducible refine pc_on ?_ (fun _ _ => ?_) | with_reducible refine xf_let (fx_Sheet_clear (x_q0 := (by first | exact x_q0)) _ (by assumption)) (fun _ _ => ?_) | with_reducible refine pc_b1 (fx_Sheet_addAll (x_q0 := (by first | exact x_q0)) _ _ (by assumption)) (fun _ _ => ?_) | with_reducible refine xf_lt (by assumption) (by first | exact x_q0) (fun _ _ => ?_) | with_reducible refine xf_lts (by assumption) (fun _ _ => ?_) | with_reducible refine xf_ltq (by assumption) (by omega) (fun _ _ => ?_) | with_reducible refine pf_b1 (fun _ => ?_) | with_reducible refine xf_ltv (fun _ => ?_)
set_option maxHeartbeats 4000000 in
theorem fx_Bill_setPrice {X : Nat → Nat → Prop} {S0 : SS} (x_191 : ∀ k, X 191 k) : ∀ (S : SS) (v1 : Int) (v2 : Int), FX X S0 S → pc (f_Bill_setPrice S v1 v2) (fun u => FX X S0 u.2) := by
  intro S v1 v2 h
  unfold f_Bill_setPrice
  repeat' first | with_reducible exact pc_some (by assumption) | with_reducible exact pc_none | with_reducible refine pc_chk (fun _ => ?_) | with_reducible refine pc_if (fun _ => ?_) (fun _ => ?_) | with_reducible refine pc_on ?_ (fun _ _ => ?_) | with_reducible refine xf_lt (by assumption) (by first | exact x_191 _) (fun _ _ => ?_) | with_reducible refine xf_lts (by assumption) (fun _ _ => ?_) | with_reducible refine xf_ltq (by assumption) (by omega) (fun _ _ => ?_) | with_reducible refine pf_b1 (fun _ => ?_) | with_reducible refine xf_ltv (fun _ => ?_)
set_option maxHeartbeats 4000000 in
theorem fxl_Mark_clear_2 {X : Nat → Nat → Prop} {S0 : SS} (x_m_2 : ∀ j, j < 40 → X (14 + 4 * j) 2) (x_m_3 : ∀ j, j < 40 → X (14 + 4 * j) 3) (x_m_7 : ∀ j, j < 40 → X (14 + 4 * j) 7) (x_m_8 : ∀ j, j < 40 → X (14 + 4 * j) 8) (x_m_9 : ∀ j, j < 40 → X (14 + 4 * j) 9) (x_m_10 : ∀ j, j < 40 → X (14 + 4 * j) 10) (x_m_11 : ∀ j, j < 40 → X (14 + 4 * j) 11) (x_m_12 : ∀ j, j < 40 → X (14 + 4 * j) 12) (x_mn : ∀ j k, j < 40 → X (14 + 4 * j + 1) k) (x_ms : ∀ j, j < 40 → X (14 + 4 * j + 2) 1) (j0 : Nat) (hj_j0 : j0 < 40)  : ∀ (n : Nat) (S : SS) (v1_ : Int), FX X S0 S → pc (f_Mark_clear_2 j0 n S v1_) (FX X S0) := by
  intro n
  induction n with
  | zero => intro S v1_ h r e; exact absurd e (by simp [f_Mark_clear_2])
  | succ n ih =>
    intro S v1_ h
    show pc (f_Mark_clear_2_b j0 (f_Mark_clear_2 j0 n) S v1_) _
    unfold f_Mark_clear_2_b
    repeat' first | with_reducible exact ih _ _ (by assumption) | with_reducible exact pc_some (by assumption) | with_reducible exact pc_none | with_reducible refine pc_chk (fun _ => ?_) | with_reducible refine pc_if (fun _ => ?_) (fun _ => ?_) | with_reducible refine pc_on ?_ (fun _ _ => ?_) | with_reducible refine xf_let (fx_Sheet_clear (x_q0 := (by first | exact x_m_2 _ (by omega) | exact x_m_3 _ (by omega) | exact x_m_7 _ (by omega) | exact x_m_8 _ (by omega) | exact x_m_9 _ (by omega) | exact x_m_10 _ (by omega) | exact x_m_11 _ (by omega) | exact x_m_12 _ (by omega) | exact x_mn _ _ (by omega) | exact x_ms _ (by omega))) _ (by assumption)) (fun _ _ => ?_) | with_reducible refine xf_lt (by assumption) (by first | exact x_m_2 _ (by omega) | exact x_m_3 _ (by omega) | exact x_m_7 _ (by omega) | exact x_m_8 _ (by omega) | exact x_m_9 _ (by omega) | exact x_m_10 _ (by omega) | exact x_m_11 _ (by omega) | exact x_m_12 _ (by omega) | exact x_mn _ _ (by omega) | exact x_ms _ (by omega)) (fun _ _ => ?_) | with_reducible refine xf_lts (by assumption) (fun _ _ => ?_) | with_reducible refine xf_ltq (by assumption) (by omega) (fun _ _ => ?_) | with_reducible refine pf_b1 (fun _ => ?_) | with_reducible refine xf_ltv (fun _ => ?_)
set_option maxHeartbeats 4000000 in
theorem fx_Mark_clear {X : Nat → Nat → Prop} {S0 : SS} (x_m_2 : ∀ j, j < 40 → X (14 + 4 * j) 2) (x_m_3 : ∀ j, j < 40 → X (14 + 4 * j) 3) (x_m_7 : ∀ j, j < 40 → X (14 + 4 * j) 7) (x_m_8 : ∀ j, j < 40 → X (14 + 4 * j) 8) (x_m_9 : ∀ j, j < 40 → X (14 + 4 * j) 9) (x_m_10 : ∀ j, j < 40 → X (14 + 4 * j) 10) (x_m_11 : ∀ j, j < 40 → X (14 + 4 * j) 11) (x_m_12 : ∀ j, j < 40 → X (14 + 4 * j) 12) (x_mn : ∀ j k, j < 40 → X (14 + 4 * j + 1) k) (x_ms : ∀ j, j < 40 → X (14 + 4 * j + 2) 1) : ∀ (S : SS) (j0 : Nat), j0 < 40 → FX X S0 S → pc (f_Mark_clear S j0) (FX X S0) := by
  intro S j0 hj0 h
  unfold f_Mark_clear
  repeat' first | with_reducible exact fxl_Mark_clear_2 (x_m_2 := x_m_2) (x_m_3 := x_m_3) (x_m_7 := x_m_7) (x_m_8 := x_m_8) (x_m_9 := x_m_9) (x_m_10 := x_m_10) (x_m_11 := x_m_11) (x_m_12 := x_m_12) (x_mn := x_mn) (x_ms := x_ms) _ (by assumption) FU _ _ (by assumption) | with_reducible exact pc_some (by assumption) | with_reducible exact pc_none | with_reducible refine pc_chk (fun _ => ?_) | with_reducible refine pc_if (fun _ => ?_) (fun _ => ?_) | with_reducible refine pc_on ?_ (fun _ _ => ?_) | with_reducible refine xf_let (fx_Sheet_clear (x_q0 := (by first | exact x_m_2 _ (by omega) | exact x_m_3 _ (by omega) | exact x_m_7 _ (by omega) | exact x_m_8 _ (by omega) | exact x_m_9 _ (by omega) | exact x_m_10 _ (by omega) | exact x_m_11 _ (by omega) | exact x_m_12 _ (by omega) | exact x_mn _ _ (by omega) | exact x_ms _ (by omega))) _ (by assumption)) (fun _ _ => ?_) | with_reducible refine xf_lt (by assumption) (by first | exact x_m_2 _ (by omega) | exact x_m_3 _ (by omega) | exact x_m_7 _ (by omega) | exact x_m_8 _ (by omega) | exact x_m_9 _ (by omega) | exact x_m_10 _ (by omega) | exact x_m_11 _ (by omega) | exact x_m_12 _ (by omega) | exact x_mn _ _ (by omega) | exact x_ms _ (by omega)) (fun _ _ => ?_) | with_reducible refine xf_lts (by assumption) (fun _ _ => ?_) | with_reducible refine xf_ltq (by assumption) (by omega) (fun _ _ => ?_) | with_reducible refine pf_b1 (fun _ => ?_) | with_reducible refine xf_ltv (fun _ => ?_)
set_option maxHeartbeats 4000000 in
theorem fx_Mark_setNumber {X : Nat → Nat → Prop} {S0 : SS} (x_mn : ∀ j k, j < 40 → X (14 + 4 * j + 1) k) : ∀ (S : SS) (j0 : Nat) (v1 : Int) (v2 : Int), j0 < 40 → FX X S0 S → pc (f_Mark_setNumber S j0 v1 v2) (FX X S0) := by
  intro S j0 v1 v2 hj0 h
  unfold f_Mark_setNumber
  repeat' first | with_reducible exact pc_some (by assumption) | with_reducible exact pc_none | with_reducible refine pc_chk (fun _ => ?_) | with_reducible refine pc_if (fun _ => ?_) (fun _ => ?_) | with_reducible refine pc_on ?_ (fun _ _ => ?_) | with_reducible refine xf_lt (by assumption) (by first | exact x_mn _ _ (by omega)) (fun _ _ => ?_) | with_reducible refine xf_lts (by assumption) (fun _ _ => ?_) | with_reducible refine xf_ltq (by assumption) (by omega) (fun _ _ => ?_) | with_reducible refine pf_b1 (fun _ => ?_) | with_reducible refine xf_ltv (fun _ => ?_)
set_option maxHeartbeats 4000000 in
theorem fx_Mark_place {X : Nat → Nat → Prop} {S0 : SS} (x_m_6 : ∀ j, j < 40 → X (14 + 4 * j) 6) (x_m_5 : ∀ j, j < 40 → X (14 + 4 * j) 5) (x_m_4 : ∀ j, j < 40 → X (14 + 4 * j) 4) : ∀ (S : SS) (j0 : Nat), j0 < 40 → FX X S0 S → pc (f_Mark_place S j0) (FX X S0) := by
  intro S j0 hj0 h
  unfold f_Mark_place
  repeat' first | with_reducible unfold f_Mark_place_104 | with_reducible unfold f_Mark_place_89 | with_reducible unfold f_Mark_place_65 | with_reducible unfold f_Mark_place_58 | with_reducible unfold f_Mark_place_36 | with_reducible unfold f_Mark_place_21 | with_reducible unfold f_Mark_place_20 | with_reducible exact pc_some (by assumption) | with_reducible exact pc_none | with_reducible refine pc_chk (fun _ => ?_) | with_reducible refine pc_if (fun _ => ?_) (fun _ => ?_) | with_reducible refine pc_on ?_ (fun _ _ => ?_) | with_reducible refine xf_lt (by assumption) (by first | exact x_m_6 _ (by omega) | exact x_m_5 _ (by omega) | exact x_m_4 _ (by omega)) (fun _ _ => ?_) | with_reducible refine xf_lts (by assumption) (fun _ _ => ?_) | with_reducible refine xf_ltq (by assumption) (by omega) (fun _ _ => ?_) | with_reducible refine pf_b1 (fun _ => ?_) | with_reducible refine xf_ltv (fun _ => ?_)
set_option maxHeartbeats 4000000 in
theorem fx_Pile_blank {X : Nat → Nat → Prop} {S0 : SS} (x_m_2 : ∀ j, j < 40 → X (14 + 4 * j) 2) (x_m_3 : ∀ j, j < 40 → X (14 + 4 * j) 3) (x_m_7 : ∀ j, j < 40 → X (14 + 4 * j) 7) (x_m_8 : ∀ j, j < 40 → X (14 + 4 * j) 8) (x_m_9 : ∀ j, j < 40 → X (14 + 4 * j) 9) (x_m_10 : ∀ j, j < 40 → X (14 + 4 * j) 10) (x_m_11 : ∀ j, j < 40 → X (14 + 4 * j) 11) (x_m_12 : ∀ j, j < 40 → X (14 + 4 * j) 12) (x_mn : ∀ j k, j < 40 → X (14 + 4 * j + 1) k) (x_ms : ∀ j, j < 40 → X (14 + 4 * j + 2) 1) : ∀ (S : SS) , FX X S0 S → pc (f_Pile_blank S ) (fun u => FX X S0 u.2) := by
  intro S h
  unfold f_Pile_blank
  repeat' first | with_reducible exact pc_some (by assumption) | with_reducible exact pc_none | with_reducible refine pc_chk (fun _ => ?_) | with_reducible refine pc_if (fun _ => ?_) (fun _ => ?_) | with_reducible refine pc_on ?_ (fun _ _ => ?_) | with_reducible refine pc_b1 (fx_Mark_clear (x_m_2 := x_m_2) (x_m_3 := x_m_3) (x_m_7 := x_m_7) (x_m_8 := x_m_8) (x_m_9 := x_m_9) (x_m_10 := x_m_10) (x_m_11 := x_m_11) (x_m_12 := x_m_12) (x_mn := x_mn) (x_ms := x_ms) _ _ (by omega) (by assumption)) (fun _ _ => ?_) | with_reducible refine xf_lt (by assumption) (by first | exact x_m_2 _ (by omega) | exact x_m_3 _ (by omega) | exact x_m_7 _ (by omega) | exact x_m_8 _ (by omega) | exact x_m_9 _ (by omega) | exact x_m_10 _ (by omega) | exact x_m_11 _ (by omega) | exact x_m_12 _ (by omega) | exact x_mn _ _ (by omega) | exact x_ms _ (by omega)) (fun _ _ => ?_) | with_reducible refine xf_lts (by assumption) (fun _ _ => ?_) | with_reducible refine xf_ltq (by assumption) (by omega) (fun _ _ => ?_) | with_reducible refine pf_b1 (fun _ => ?_) | with_reducible refine xf_ltv (fun _ => ?_)
set_option maxHeartbeats 4000000 in
theorem fxl_Pile_accept_30 {X : Nat → Nat → Prop} {S0 : SS} (x_10_3 : X 10 3) (x_10_4 : X 10 4) (x_m_8 : ∀ j, j < 40 → X (14 + 4 * j) 8) (x_m_10 : ∀ j, j < 40 → X (14 + 4 * j) 10)   : ∀ (n : Nat) (S : SS) (v1_ : Int) (v2_ : Int), FX X S0 S → pc (f_Pile_accept_30  n S v1_ v2_) (fun u => FX X S0 u.2) := by
  intro n
  induction n with
  | zero => intro S v1_ v2_ h r e; exact absurd e (by simp [f_Pile_accept_30])
  | succ n ih =>
    intro S v1_ v2_ h
    show pc (f_Pile_accept_30_b (f_Pile_accept_30 n) S v1_ v2_) _
    unfold f_Pile_accept_30_b
    repeat' first | with_reducible exact ih _ _ _ (by assumption) | with_reducible unfold f_Pile_accept_81 | with_reducible exact pc_some (by assumption) | with_reducible exact pc_none | with_reducible refine pc_chk (fun _ => ?_) | with_reducible refine pc_if (fun _ => ?_) (fun _ => ?_) | with_reducible refine pc_on ?_ (fun _ _ => ?_) | with_reducible refine xf_let (fx_Mark_voidByStet (x_m_8 := x_m_8) (x_m_10 := x_m_10) _ _ _ (by omega) (by assumption)) (fun _ _ => ?_) | with_reducible refine xf_lt (by assumption) (by first | exact x_10_3 | exact x_10_4 | exact x_m_8 _ (by omega) | exact x_m_10 _ (by omega)) (fun _ _ => ?_) | with_reducible refine xf_lts (by assumption) (fun _ _ => ?_) | with_reducible refine xf_ltq (by assumption) (by omega) (fun _ _ => ?_) | with_reducible refine pf_b1 (fun _ => ?_) | with_reducible refine xf_ltv (fun _ => ?_)
set_option maxHeartbeats 4000000 in
theorem fx_Pile_accept {X : Nat → Nat → Prop} {S0 : SS} (x_10_3 : X 10 3) (x_10_4 : X 10 4) (x_m_8 : ∀ j, j < 40 → X (14 + 4 * j) 8) (x_m_10 : ∀ j, j < 40 → X (14 + 4 * j) 10) : ∀ (S : SS) , FX X S0 S → pc (f_Pile_accept S ) (fun u => FX X S0 u.2) := by
  intro S h
  unfold f_Pile_accept
  repeat' first | with_reducible exact fxl_Pile_accept_30 (x_10_3 := x_10_3) (x_10_4 := x_10_4) (x_m_8 := x_m_8) (x_m_10 := x_m_10) FU _ _ _ (by assumption) | with_reducible unfold f_Pile_accept_81 | with_reducible exact pc_some (by assumption) | with_reducible exact pc_none | with_reducible refine pc_chk (fun _ => ?_) | with_reducible refine pc_if (fun _ => ?_) (fun _ => ?_) | with_reducible refine pc_on ?_ (fun _ _ => ?_) | with_reducible refine xf_let (fx_Mark_voidByStet (x_m_8 := x_m_8) (x_m_10 := x_m_10) _ _ _ (by omega) (by assumption)) (fun _ _ => ?_) | with_reducible refine xf_lt (by assumption) (by first | exact x_10_3 | exact x_10_4 | exact x_m_8 _ (by omega) | exact x_m_10 _ (by omega)) (fun _ _ => ?_) | with_reducible refine xf_lts (by assumption) (fun _ _ => ?_) | with_reducible refine xf_ltq (by assumption) (by omega) (fun _ _ => ?_) | with_reducible refine pf_b1 (fun _ => ?_) | with_reducible refine xf_ltv (fun _ => ?_)
set_option maxHeartbeats 4000000 in
theorem fxl_Pile_listDone_7 {X : Nat → Nat → Prop} {S0 : SS} (x_13 : ∀ k, X 13 k) (x_10_5 : X 10 5)   : ∀ (n : Nat) (S : SS) (v1_ : Int), FX X S0 S → pc (f_Pile_listDone_7  n S v1_) (FX X S0) := by
  intro n
  induction n with
  | zero => intro S v1_ h r e; exact absurd e (by simp [f_Pile_listDone_7])
  | succ n ih =>
    intro S v1_ h
    show pc (f_Pile_listDone_7_b (f_Pile_listDone_7 n) S v1_) _
    unfold f_Pile_listDone_7_b
    repeat' first | with_reducible exact ih _ _ (by assumption) | with_reducible unfold f_Pile_listDone_64 | with_reducible exact pc_some (by assumption) | with_reducible exact pc_none | with_reducible refine pc_chk (fun _ => ?_) | with_reducible refine pc_if (fun _ => ?_) (fun _ => ?_) | with_reducible refine pc_on ?_ (fun _ _ => ?_) | with_reducible refine xf_lt (by assumption) (by first | exact x_13 _ | exact x_10_5) (fun _ _ => ?_) | with_reducible refine xf_lts (by assumption) (fun _ _ => ?_) | with_reducible refine xf_ltq (by assumption) (by omega) (fun _ _ => ?_) | with_reducible refine pf_b1 (fun _ => ?_) | with_reducible refine xf_ltv (fun _ => ?_)
set_option maxHeartbeats 4000000 in
theorem fx_Pile_listDone {X : Nat → Nat → Prop} {S0 : SS} (x_13 : ∀ k, X 13 k) (x_10_5 : X 10 5) : ∀ (S : SS) , FX X S0 S → pc (f_Pile_listDone S ) (FX X S0) := by
  intro S h
  unfold f_Pile_listDone
  repeat' first | with_reducible exact fxl_Pile_listDone_7 (x_13 := x_13) (x_10_5 := x_10_5) FU _ _ (by assumption) | with_reducible unfold f_Pile_listDone_64 | with_reducible exact pc_some (by assumption) | with_reducible exact pc_none | with_reducible refine pc_chk (fun _ => ?_) | with_reducible refine pc_if (fun _ => ?_) (fun _ => ?_) | with_reducible refine pc_on ?_ (fun _ _ => ?_) | with_reducible refine xf_lt (by assumption) (by first | exact x_13 _ | exact x_10_5) (fun _ _ => ?_) | with_reducible refine xf_lts (by assumption) (fun _ _ => ?_) | with_reducible refine xf_ltq (by assumption) (by omega) (fun _ _ => ?_) | with_reducible refine pf_b1 (fun _ => ?_) | with_reducible refine xf_ltv (fun _ => ?_)
set_option maxHeartbeats 4000000 in
theorem fxl_Pile_decide_49 {X : Nat → Nat → Prop} {S0 : SS} (x_m_11 : ∀ j, j < 40 → X (14 + 4 * j) 11) (x_m_12 : ∀ j, j < 40 → X (14 + 4 * j) 12) (x_13 : ∀ k, X 13 k) (x_10_5 : X 10 5)   (kf41_ : SS → Int → Option SS) (hkf41_ : ∀ S a0, FX X S0 S → pc (kf41_ S a0) (FX X S0)): ∀ (n : Nat) (S : SS) (v1_ : Int) (v2_ : Int), FX X S0 S → pc (f_Pile_decide_49 kf41_ n S v1_ v2_) (FX X S0) := by
  intro n
  induction n with
  | zero => intro S v1_ v2_ h r e; exact absurd e (by simp [f_Pile_decide_49])
  | succ n ih =>
    intro S v1_ v2_ h
    show pc (f_Pile_decide_49_b kf41_ (f_Pile_decide_49 kf41_ n) S v1_ v2_) _
    unfold f_Pile_decide_49_b
    repeat' first | with_reducible exact ih _ _ _ (by assumption) | with_reducible exact hkf41_ _ _ (by assumption) | with_reducible unfold f_Pile_decide_33 | with_reducible unfold f_Pile_decide_112 | with_reducible unfold f_Pile_decide_109 | with_reducible exact pc_some (by assumption) | with_reducible exact pc_none | with_reducible refine pc_chk (fun _ => ?_) | with_reducible refine pc_if (fun _ => ?_) (fun _ => ?_) | with_reducible refine pc_on ?_ (fun _ _ => ?_) | with_reducible refine pc_b1 (fx_Pile_listDone (x_13 := x_13) (x_10_5 := x_10_5) _ (by assumption)) (fun _ _ => ?_) | with_reducible refine xf_lt (by assumption) (by first | exact x_m_11 _ (by omega) | exact x_m_12 _ (by omega) | exact x_13 _ | exact x_10_5) (fun _ _ => ?_) | with_reducible refine xf_lts (by assumption) (fun _ _ => ?_) | with_reducible refine xf_ltq (by assumption) (by omega) (fun _ _ => ?_) | with_reducible refine pf_b1 (fun _ => ?_) | with_reducible refine xf_ltv (fun _ => ?_)
set_option maxHeartbeats 4000000 in
theorem fxl_Pile_decide_41 {X : Nat → Nat → Prop} {S0 : SS} (x_m_11 : ∀ j, j < 40 → X (14 + 4 * j) 11) (x_m_12 : ∀ j, j < 40 → X (14 + 4 * j) 12) (x_13 : ∀ k, X 13 k) (x_10_5 : X 10 5)   : ∀ (n : Nat) (S : SS) (v1_ : Int), FX X S0 S → pc (f_Pile_decide_41  n S v1_) (FX X S0) := by
  intro n
  induction n with
  | zero => intro S v1_ h r e; exact absurd e (by simp [f_Pile_decide_41])
  | succ n ih =>
    intro S v1_ h
    show pc (f_Pile_decide_41_b (f_Pile_decide_41 n) S v1_) _
    unfold f_Pile_decide_41_b
    repeat' first | with_reducible exact ih _ _ (by assumption) | with_reducible exact fxl_Pile_decide_49 (x_m_11 := x_m_11) (x_m_12 := x_m_12) (x_13 := x_13) (x_10_5 := x_10_5) _ (fun _ _  h => ih _ _ h) FU _ _ _ (by assumption) | with_reducible unfold f_Pile_decide_33 | with_reducible unfold f_Pile_decide_112 | with_reducible unfold f_Pile_decide_109 | with_reducible exact pc_some (by assumption) | with_reducible exact pc_none | with_reducible refine pc_chk (fun _ => ?_) | with_reducible refine pc_if (fun _ => ?_) (fun _ => ?_) | with_reducible refine pc_on ?_ (fun _ _ => ?_) | with_reducible refine pc_b1 (fx_Pile_listDone (x_13 := x_13) (x_10_5 := x_10_5) _ (by assumption)) (fun _ _ => ?_) | with_reducible refine xf_lt (by assumption) (by first | exact x_m_11 _ (by omega) | exact x_m_12 _ (by omega) | exact x_13 _ | exact x_10_5) (fun _ _ => ?_) | with_reducible refine xf_lts (by assumption) (fun _ _ => ?_) | with_reducible refine xf_ltq (by assumption) (by omega) (fun _ _ => ?_) | with_reducible refine pf_b1 (fun _ => ?_) | with_reducible refine xf_ltv (fun _ => ?_)
set_option maxHeartbeats 4000000 in
theorem fxl_Pile_decide_2 {X : Nat → Nat → Prop} {S0 : SS} (x_m_11 : ∀ j, j < 40 → X (14 + 4 * j) 11) (x_m_12 : ∀ j, j < 40 → X (14 + 4 * j) 12) (x_13 : ∀ k, X 13 k) (x_10_5 : X 10 5)   : ∀ (n : Nat) (S : SS) (v1_ : Int), FX X S0 S → pc (f_Pile_decide_2  n S v1_) (FX X S0) := by
  intro n
  induction n with
  | zero => intro S v1_ h r e; exact absurd e (by simp [f_Pile_decide_2])
  | succ n ih =>
    intro S v1_ h
    show pc (f_Pile_decide_2_b (f_Pile_decide_2 n) S v1_) _
    unfold f_Pile_decide_2_b
    repeat' first | with_reducible exact ih _ _ (by assumption) | with_reducible exact fxl_Pile_decide_49 (x_m_11 := x_m_11) (x_m_12 := x_m_12) (x_13 := x_13) (x_10_5 := x_10_5) _ (fun _ _  h => ih _ _ h) FU _ _ _ (by assumption) | with_reducible exact fxl_Pile_decide_41 (x_m_11 := x_m_11) (x_m_12 := x_m_12) (x_13 := x_13) (x_10_5 := x_10_5) FU _ _ (by assumption) | with_reducible unfold f_Pile_decide_33 | with_reducible unfold f_Pile_decide_112 | with_reducible unfold f_Pile_decide_109 | with_reducible exact pc_some (by assumption) | with_reducible exact pc_none | with_reducible refine pc_chk (fun _ => ?_) | with_reducible refine pc_if (fun _ => ?_) (fun _ => ?_) | with_reducible refine pc_on ?_ (fun _ _ => ?_) | with_reducible refine pc_b1 (fx_Pile_listDone (x_13 := x_13) (x_10_5 := x_10_5) _ (by assumption)) (fun _ _ => ?_) | with_reducible refine xf_lt (by assumption) (by first | exact x_m_11 _ (by omega) | exact x_m_12 _ (by omega) | exact x_13 _ | exact x_10_5) (fun _ _ => ?_) | with_reducible refine xf_lts (by assumption) (fun _ _ => ?_) | with_reducible refine xf_ltq (by assumption) (by omega) (fun _ _ => ?_) | with_reducible refine pf_b1 (fun _ => ?_) | with_reducible refine xf_ltv (fun _ => ?_)
set_option maxHeartbeats 4000000 in
theorem fx_Pile_decide {X : Nat → Nat → Prop} {S0 : SS} (x_m_11 : ∀ j, j < 40 → X (14 + 4 * j) 11) (x_m_12 : ∀ j, j < 40 → X (14 + 4 * j) 12) (x_13 : ∀ k, X 13 k) (x_10_5 : X 10 5) : ∀ (S : SS) , FX X S0 S → pc (f_Pile_decide S ) (FX X S0) := by
  intro S h
  unfold f_Pile_decide
  repeat' first | with_reducible exact fxl_Pile_decide_41 (x_m_11 := x_m_11) (x_m_12 := x_m_12) (x_13 := x_13) (x_10_5 := x_10_5) FU _ _ (by assumption) | with_reducible exact fxl_Pile_decide_2 (x_m_11 := x_m_11) (x_m_12 := x_m_12) (x_13 := x_13) (x_10_5 := x_10_5) FU _ _ (by assumption) | with_reducible unfold f_Pile_decide_33 | with_reducible unfold f_Pile_decide_112 | with_reducible unfold f_Pile_decide_109 | with_reducible exact pc_some (by assumption) | with_reducible exact pc_none | with_reducible refine pc_chk (fun _ => ?_) | with_reducible refine pc_if (fun _ => ?_) (fun _ => ?_) | with_reducible refine pc_on ?_ (fun _ _ => ?_) | with_reducible refine pc_b1 (fx_Pile_listDone (x_13 := x_13) (x_10_5 := x_10_5) _ (by assumption)) (fun _ _ => ?_) | with_reducible refine xf_lt (by assumption) (by first | exact x_m_11 _ (by omega) | exact x_m_12 _ (by omega) | exact x_13 _ | exact x_10_5) (fun _ _ => ?_) | with_reducible refine xf_lts (by assumption) (fun _ _ => ?_) | with_reducible refine xf_ltq (by assumption) (by omega) (fun _ _ => ?_) | with_reducible refine pf_b1 (fun _ => ?_) | with_reducible refine xf_ltv (fun _ => ?_)
set_option maxHeartbeats 4000000 in
theorem fx_Setter_mind {X : Nat → Nat → Prop} {S0 : SS} (x_180 : ∀ k, X 180 k) : ∀ (S : SS) (v1 : Int) (v2 : Int), FX X S0 S → pc (f_Setter_mind S v1 v2) (FX X S0) := by
  intro S v1 v2 h
  unfold f_Setter_mind
  repeat' first | with_reducible exact pc_some (by assumption) | with_reducible exact pc_none | with_reducible refine pc_chk (fun _ => ?_) | with_reducible refine pc_if (fun _ => ?_) (fun _ => ?_) | with_reducible refine pc_on ?_ (fun _ _ => ?_) | with_reducible refine xf_lt (by assumption) (by first | exact x_180 _) (fun _ _ => ?_) | with_reducible refine xf_lts (by assumption) (fun _ _ => ?_) | with_reducible refine xf_ltq (by assumption) (by omega) (fun _ _ => ?_) | with_reducible refine pf_b1 (fun _ => ?_) | with_reducible refine xf_ltv (fun _ => ?_)
set_option maxHeartbeats 4000000 in
theorem fxl_Setter_takeDone_7 {X : Nat → Nat → Prop} {S0 : SS} (x_180 : ∀ k, X 180 k) (x_178_2 : X 178 2) (v2 : Int)  : ∀ (n : Nat) (S : SS) (v3_ : Int), FX X S0 S → pc (f_Setter_takeDone_7 v2 n S v3_) (FX X S0) := by
  intro n
  induction n with
  | zero => intro S v3_ h r e; exact absurd e (by simp [f_Setter_takeDone_7])
  | succ n ih =>
    intro S v3_ h
    show pc (f_Setter_takeDone_7_b v2 (f_Setter_takeDone_7 v2 n) S v3_) _
    unfold f_Setter_takeDone_7_b
    repeat' first | with_reducible exact ih _ _ (by assumption) | with_reducible unfold f_Setter_takeDone_101 | with_reducible unfold f_Setter_takeDone_35 | with_reducible unfold f_Setter_takeDone_34 | with_reducible exact pc_some (by assumption) | with_reducible exact pc_none | with_reducible refine pc_chk (fun _ => ?_) | with_reducible refine pc_if (fun _ => ?_) (fun _ => ?_) | with_reducible refine pc_on ?_ (fun _ _ => ?_) | with_reducible refine xf_lt (by assumption) (by first | exact x_180 _ | exact x_178_2) (fun _ _ => ?_) | with_reducible refine xf_lts (by assumption) (fun _ _ => ?_) | with_reducible refine xf_ltq (by assumption) (by omega) (fun _ _ => ?_) | with_reducible refine pf_b1 (fun _ => ?_) | with_reducible refine xf_ltv (fun _ => ?_)
set_option maxHeartbeats 4000000 in
theorem fx_Setter_takeDone {X : Nat → Nat → Prop} {S0 : SS} (x_180 : ∀ k, X 180 k) (x_178_2 : X 178 2) : ∀ (S : SS) (v2 : Int), FX X S0 S → pc (f_Setter_takeDone S v2) (FX X S0) := by
  intro S v2 h
  unfold f_Setter_takeDone
  repeat' first | with_reducible exact fxl_Setter_takeDone_7 (x_180 := x_180) (x_178_2 := x_178_2) _ FU _ _ (by assumption) | with_reducible unfold f_Setter_takeDone_101 | with_reducible unfold f_Setter_takeDone_35 | with_reducible unfold f_Setter_takeDone_34 | with_reducible exact pc_some (by assumption) | with_reducible exact pc_none | with_reducible refine pc_chk (fun _ => ?_) | with_reducible refine pc_if (fun _ => ?_) (fun _ => ?_) | with_reducible refine pc_on ?_ (fun _ _ => ?_) | with_reducible refine xf_lt (by assumption) (by first | exact x_180 _ | exact x_178_2) (fun _ _ => ?_) | with_reducible refine xf_lts (by assumption) (fun _ _ => ?_) | with_reducible refine xf_ltq (by assumption) (by omega) (fun _ _ => ?_) | with_reducible refine pf_b1 (fun _ => ?_) | with_reducible refine xf_ltv (fun _ => ?_)
set_option maxHeartbeats 4000000 in
theorem fxl_Ruler_fillRow_101 {X : Nat → Nat → Prop} {S0 : SS} (x_182 : ∀ k, X 182 k) (v1 : Int) (w2 : Int64) (q3 : Nat) (v4 : Int) (v5 : Int)  : ∀ (n : Nat) (S : SS) (v8_ : Int) (v9_ : Int) (v10_ : Int) (v11_ : Int), FX X S0 S → pc (f_Ruler_fillRow_101 v1 w2 q3 v4 v5 n S v8_ v9_ v10_ v11_) (fun u => FX X S0 u.2) := by
  intro n
  induction n with
  | zero => intro S v8_ v9_ v10_ v11_ h r e; exact absurd e (by simp [f_Ruler_fillRow_101])
  | succ n ih =>
    intro S v8_ v9_ v10_ v11_ h
    show pc (f_Ruler_fillRow_101_b v1 w2 q3 v4 v5 (f_Ruler_fillRow_101 v1 w2 q3 v4 v5 n) S v8_ v9_ v10_ v11_) _
    unfold f_Ruler_fillRow_101_b
    repeat' first | with_reducible exact ih _ _ _ _ _ (by assumption) | with_reducible unfold f_Ruler_fillRow_174 | with_reducible unfold f_Ruler_fillRow_85 | with_reducible exact pc_some (by assumption) | with_reducible exact pc_none | with_reducible refine pc_chk (fun _ => ?_) | with_reducible refine pc_if (fun _ => ?_) (fun _ => ?_) | with_reducible refine pc_on ?_ (fun _ _ => ?_) | with_reducible refine xf_lt (by assumption) (by first | exact x_182 _) (fun _ _ => ?_) | with_reducible refine xf_lts (by assumption) (fun _ _ => ?_) | with_reducible refine xf_ltq (by assumption) (by omega) (fun _ _ => ?_) | with_reducible refine pf_b1 (fun _ => ?_) | with_reducible refine xf_ltv (fun _ => ?_)
set_option maxHeartbeats 4000000 in
theorem fx_Ruler_fillRow {X : Nat → Nat → Prop} {S0 : SS} (x_182 : ∀ k, X 182 k) : ∀ (S : SS) (v1 : Int) (w2 : Int64) (q3 : Nat) (v4 : Int) (v5 : Int), FX X S0 S → pc (f_Ruler_fillRow S v1 w2 q3 v4 v5) (fun u => FX X S0 u.2) := by
  intro S v1 w2 q3 v4 v5 h
  unfold f_Ruler_fillRow
  repeat' first | with_reducible exact fxl_Ruler_fillRow_101 (x_182 := x_182) _ _ _ _ _ FU _ _ _ _ _ (by assumption) | with_reducible unfold f_Ruler_fillRow_174 | with_reducible unfold f_Ruler_fillRow_85 | with_reducible exact pc_some (by assumption) | with_reducible exact pc_none | with_reducible refine pc_chk (fun _ => ?_) | with_reducible refine pc_if (fun _ => ?_) (fun _ => ?_) | with_reducible refine pc_on ?_ (fun _ _ => ?_) | with_reducible refine xf_lt (by assumption) (by first | exact x_182 _) (fun _ _ => ?_) | with_reducible refine xf_lts (by assumption) (fun _ _ => ?_) | with_reducible refine xf_ltq (by assumption) (by omega) (fun _ _ => ?_) | with_reducible refine pf_b1 (fun _ => ?_) | with_reducible refine xf_ltv (fun _ => ?_)
set_option maxHeartbeats 4000000 in
theorem fxl_Ruler_measure_85 {X : Nat → Nat → Prop} {S0 : SS} (x_182 : ∀ k, X 182 k) (q1 : Nat) (v2 : Int) (q3 : Nat) (v4 : Int) (v5 : Int)  : ∀ (n : Nat) (S : SS) (v6_ : Int) (v7_ : Int) (v8_ : Int) (v9_ : Int), FX X S0 S → pc (f_Ruler_measure_85 q1 v2 q3 v4 v5 n S v6_ v7_ v8_ v9_) (fun u => FX X S0 u.2) := by
  intro n
  induction n with
  | zero => intro S v6_ v7_ v8_ v9_ h r e; exact absurd e (by simp [f_Ruler_measure_85])
  | succ n ih =>
    intro S v6_ v7_ v8_ v9_ h
    show pc (f_Ruler_measure_85_b q1 v2 q3 v4 v5 (f_Ruler_measure_85 q1 v2 q3 v4 v5 n) S v6_ v7_ v8_ v9_) _
    unfold f_Ruler_measure_85_b
    repeat' first | with_reducible exact ih _ _ _ _ _ (by assumption) | with_reducible exact pc_some (by assumption) | with_reducible exact pc_none | with_reducible refine pc_chk (fun _ => ?_) | with_reducible refine pc_if (fun _ => ?_) (fun _ => ?_) | with_reducible refine pc_on ?_ (fun _ _ => ?_) | with_reducible refine pc_b2 (fx_Ruler_fillRow (x_182 := x_182) _ _ _ _ _ _ (by assumption)) (fun _ _ _ => ?_) | with_reducible refine xf_lt (by assumption) (by first | exact x_182 _) (fun _ _ => ?_) | with_reducible refine xf_lts (by assumption) (fun _ _ => ?_) | with_reducible refine xf_ltq (by assumption) (by omega) (fun _ _ => ?_) | with_reducible refine pf_b1 (fun _ => ?_) | with_reducible refine xf_ltv (fun _ => ?_)
set_option maxHeartbeats 4000000 in
theorem fxl_Ruler_measure_60 {X : Nat → Nat → Prop} {S0 : SS} (x_182 : ∀ k, X 182 k) (q1 : Nat) (v2 : Int) (q3 : Nat) (v4 : Int) (v5 : Int)  : ∀ (n : Nat) (S : SS) (v6_ : Int) (v7_ : Int) (v8_ : Int) (v9_ : Int), FX X S0 S → pc (f_Ruler_measure_60 q1 v2 q3 v4 v5 n S v6_ v7_ v8_ v9_) (fun u => FX X S0 u.2) := by
  intro n
  induction n with
  | zero => intro S v6_ v7_ v8_ v9_ h r e; exact absurd e (by simp [f_Ruler_measure_60])
  | succ n ih =>
    intro S v6_ v7_ v8_ v9_ h
    show pc (f_Ruler_measure_60_b q1 v2 q3 v4 v5 (f_Ruler_measure_60 q1 v2 q3 v4 v5 n) S v6_ v7_ v8_ v9_) _
    unfold f_Ruler_measure_60_b
    repeat' first | with_reducible exact ih _ _ _ _ _ (by assumption) | with_reducible exact fxl_Ruler_measure_85 (x_182 := x_182) _ _ _ _ _ FU _ _ _ _ _ (by assumption) | with_reducible exact pc_some (by assumption) | with_reducible exact pc_none | with_reducible refine pc_chk (fun _ => ?_) | with_reducible refine pc_if (fun _ => ?_) (fun _ => ?_) | with_reducible refine pc_on ?_ (fun _ _ => ?_) | with_reducible refine pc_b2 (fx_Ruler_fillRow (x_182 := x_182) _ _ _ _ _ _ (by assumption)) (fun _ _ _ => ?_) | with_reducible refine xf_lt (by assumption) (by first | exact x_182 _) (fun _ _ => ?_) | with_reducible refine xf_lts (by assumption) (fun _ _ => ?_) | with_reducible refine xf_ltq (by assumption) (by omega) (fun _ _ => ?_) | with_reducible refine pf_b1 (fun _ => ?_) | with_reducible refine xf_ltv (fun _ => ?_)
set_option maxHeartbeats 4000000 in
theorem fx_Ruler_measure {X : Nat → Nat → Prop} {S0 : SS} (x_182 : ∀ k, X 182 k) : ∀ (S : SS) (q1 : Nat) (v2 : Int) (q3 : Nat) (v4 : Int) (v5 : Int), FX X S0 S → pc (f_Ruler_measure S q1 v2 q3 v4 v5) (fun u => FX X S0 u.2) := by
  intro S q1 v2 q3 v4 v5 h
  unfold f_Ruler_measure
  repeat' first | with_reducible exact fxl_Ruler_measure_85 (x_182 := x_182) _ _ _ _ _ FU _ _ _ _ _ (by assumption) | with_reducible exact fxl_Ruler_measure_60 (x_182 := x_182) _ _ _ _ _ FU _ _ _ _ _ (by assumption) | with_reducible exact pc_some (by assumption) | with_reducible exact pc_none | with_reducible refine pc_chk (fun _ => ?_) | with_reducible refine pc_if (fun _ => ?_) (fun _ => ?_) | with_reducible refine pc_on ?_ (fun _ _ => ?_) | with_reducible refine pc_b2 (fx_Ruler_fillRow (x_182 := x_182) _ _ _ _ _ _ (by assumption)) (fun _ _ _ => ?_) | with_reducible refine xf_lt (by assumption) (by first | exact x_182 _) (fun _ _ => ?_) | with_reducible refine xf_lts (by assumption) (fun _ _ => ?_) | with_reducible refine xf_ltq (by assumption) (by omega) (fun _ _ => ?_) | with_reducible refine pf_b1 (fun _ => ?_) | with_reducible refine xf_ltv (fun _ => ?_)
set_option maxHeartbeats 4000000 in
theorem fxl_Holding_listMissed_7 {X : Nat → Nat → Prop} {S0 : SS} (x_186 : ∀ k, X 186 k) (x_183_9 : X 183 9)   : ∀ (n : Nat) (S : SS) (v2_ : Int), FX X S0 S → pc (f_Holding_listMissed_7  n S v2_) (FX X S0) := by
  intro n
  induction n with
  | zero => intro S v2_ h r e; exact absurd e (by simp [f_Holding_listMissed_7])
  | succ n ih =>
    intro S v2_ h
    show pc (f_Holding_listMissed_7_b (f_Holding_listMissed_7 n) S v2_) _
    unfold f_Holding_listMissed_7_b
    repeat' first | with_reducible exact ih _ _ (by assumption) | with_reducible unfold f_Holding_listMissed_61 | with_reducible exact pc_some (by assumption) | with_reducible exact pc_none | with_reducible refine pc_chk (fun _ => ?_) | with_reducible refine pc_if (fun _ => ?_) (fun _ => ?_) | with_reducible refine pc_on ?_ (fun _ _ => ?_) | with_reducible refine xf_lt (by assumption) (by first | exact x_186 _ | exact x_183_9) (fun _ _ => ?_) | with_reducible refine xf_lts (by assumption) (fun _ _ => ?_) | with_reducible refine xf_ltq (by assumption) (by omega) (fun _ _ => ?_) | with_reducible refine pf_b1 (fun _ => ?_) | with_reducible refine xf_ltv (fun _ => ?_)
set_option maxHeartbeats 4000000 in
theorem fx_Holding_listMissed {X : Nat → Nat → Prop} {S0 : SS} (x_186 : ∀ k, X 186 k) (x_183_9 : X 183 9) : ∀ (S : SS) , FX X S0 S → pc (f_Holding_listMissed S ) (FX X S0) := by
  intro S h
  unfold f_Holding_listMissed
  repeat' first | with_reducible exact fxl_Holding_listMissed_7 (x_186 := x_186) (x_183_9 := x_183_9) FU _ _ (by assumption) | with_reducible unfold f_Holding_listMissed_61 | with_reducible exact pc_some (by assumption) | with_reducible exact pc_none | with_reducible refine pc_chk (fun _ => ?_) | with_reducible refine pc_if (fun _ => ?_) (fun _ => ?_) | with_reducible refine pc_on ?_ (fun _ _ => ?_) | with_reducible refine xf_lt (by assumption) (by first | exact x_186 _ | exact x_183_9) (fun _ _ => ?_) | with_reducible refine xf_lts (by assumption) (fun _ _ => ?_) | with_reducible refine xf_ltq (by assumption) (by omega) (fun _ _ => ?_) | with_reducible refine pf_b1 (fun _ => ?_) | with_reducible refine xf_ltv (fun _ => ?_)
set_option maxHeartbeats 4000000 in
theorem fx_Holding_note {X : Nat → Nat → Prop} {S0 : SS} (x_187 : ∀ k, X 187 k) (x_188 : ∀ k, X 188 k) (x_189 : ∀ k, X 189 k) (x_183_11 : X 183 11) : ∀ (S : SS) (v1 : Int) (v2 : Int) (v3 : Int), FX X S0 S → pc (f_Holding_note S v1 v2 v3) (FX X S0) := by
  intro S v1 v2 v3 h
  unfold f_Holding_note
  repeat' first | with_reducible exact pc_some (by assumption) | with_reducible exact pc_none | with_reducible refine pc_chk (fun _ => ?_) | with_reducible refine pc_if (fun _ => ?_) (fun _ => ?_) | with_reducible refine pc_on ?_ (fun _ _ => ?_) | with_reducible refine xf_lt (by assumption) (by first | exact x_187 _ | exact x_188 _ | exact x_189 _ | exact x_183_11) (fun _ _ => ?_) | with_reducible refine xf_lts (by assumption) (fun _ _ => ?_) | with_reducible refine xf_ltq (by assumption) (by omega) (fun _ _ => ?_) | with_reducible refine pf_b1 (fun _ => ?_) | with_reducible refine xf_ltv (fun _ => ?_)
set_option maxHeartbeats 4000000 in
theorem fxl_Holding_listChanges_33 {X : Nat → Nat → Prop} {S0 : SS} (x_183_11 : X 183 11) (x_187 : ∀ k, X 187 k) (x_188 : ∀ k, X 188 k) (x_189 : ∀ k, X 189 k) (x_182 : ∀ k, X 182 k) (q1 : Nat)  : ∀ (n : Nat) (S : SS) (v3_ : Int) (v4_ : Int) (v5_ : Int) (v6_ : Int) (v7_ : Int), FX X S0 S → pc (f_Holding_listChanges_33 q1 n S v3_ v4_ v5_ v6_ v7_) (FX X S0) := by
  intro n
  induction n with
  | zero => intro S v3_ v4_ v5_ v6_ v7_ h r e; exact absurd e (by simp [f_Holding_listChanges_33])
  | succ n ih =>
    intro S v3_ v4_ v5_ v6_ v7_ h
    show pc (f_Holding_listChanges_33_b q1 (f_Holding_listChanges_33 q1 n) S v3_ v4_ v5_ v6_ v7_) _
    unfold f_Holding_listChanges_33_b
    repeat' first | with_reducible exact ih _ _ _ _ _ _ (by assumption) | with_reducible unfold f_Holding_listChanges_224 | with_reducible unfold f_Holding_listChanges_213 | with_reducible unfold f_Holding_listChanges_167 | with_reducible unfold f_Holding_listChanges_119 | with_reducible unfold f_Holding_listChanges_85 | with_reducible unfold f_Holding_listChanges_84 | with_reducible unfold f_Holding_listChanges_60 | with_reducible exact pc_some (by assumption) | with_reducible exact pc_none | with_reducible refine pc_chk (fun _ => ?_) | with_reducible refine pc_if (fun _ => ?_) (fun _ => ?_) | with_reducible refine pc_on ?_ (fun _ _ => ?_) | with_reducible refine pc_b1 (fx_Holding_note (x_187 := x_187) (x_188 := x_188) (x_189 := x_189) (x_183_11 := x_183_11) _ _ _ _ (by assumption)) (fun _ _ => ?_) | with_reducible refine pc_b2 (fx_Ruler_measure (x_182 := x_182) _ _ _ _ _ _ (by assumption)) (fun _ _ _ => ?_) | with_reducible refine xf_lt (by assumption) (by first | exact x_183_11 | exact x_187 _ | exact x_188 _ | exact x_189 _ | exact x_182 _) (fun _ _ => ?_) | with_reducible refine xf_lts (by assumption) (fun _ _ => ?_) | with_reducible refine xf_ltq (by assumption) (by omega) (fun _ _ => ?_) | with_reducible refine pf_b1 (fun _ => ?_) | with_reducible refine xf_ltv (fun _ => ?_)
set_option maxHeartbeats 4000000 in
theorem fx_Holding_listChanges {X : Nat → Nat → Prop} {S0 : SS} (x_183_11 : X 183 11) (x_187 : ∀ k, X 187 k) (x_188 : ∀ k, X 188 k) (x_189 : ∀ k, X 189 k) (x_182 : ∀ k, X 182 k) : ∀ (S : SS) (q1 : Nat), FX X S0 S → pc (f_Holding_listChanges S q1) (FX X S0) := by
  intro S q1 h
  unfold f_Holding_listChanges
  repeat' first | with_reducible exact fxl_Holding_listChanges_33 (x_183_11 := x_183_11) (x_187 := x_187) (x_188 := x_188) (x_189 := x_189) (x_182 := x_182) _ FU _ _ _ _ _ _ (by assumption) | with_reducible unfold f_Holding_listChanges_224 | with_reducible unfold f_Holding_listChanges_213 | with_reducible unfold f_Holding_listChanges_167 | with_reducible unfold f_Holding_listChanges_119 | with_reducible unfold f_Holding_listChanges_85 | with_reducible unfold f_Holding_listChanges_84 | with_reducible unfold f_Holding_listChanges_60 | with_reducible exact pc_some (by assumption) | with_reducible exact pc_none | with_reducible refine pc_chk (fun _ => ?_) | with_reducible refine pc_if (fun _ => ?_) (fun _ => ?_) | with_reducible refine pc_on ?_ (fun _ _ => ?_) | with_reducible refine pc_b1 (fx_Holding_note (x_187 := x_187) (x_188 := x_188) (x_189 := x_189) (x_183_11 := x_183_11) _ _ _ _ (by assumption)) (fun _ _ => ?_) | with_reducible refine pc_b2 (fx_Ruler_measure (x_182 := x_182) _ _ _ _ _ _ (by assumption)) (fun _ _ _ => ?_) | with_reducible refine xf_lt (by assumption) (by first | exact x_183_11 | exact x_187 _ | exact x_188 _ | exact x_189 _ | exact x_182 _) (fun _ _ => ?_) | with_reducible refine xf_lts (by assumption) (fun _ _ => ?_) | with_reducible refine xf_ltq (by assumption) (by omega) (fun _ _ => ?_) | with_reducible refine pf_b1 (fun _ => ?_) | with_reducible refine xf_ltv (fun _ => ?_)
set_option maxHeartbeats 4000000 in
theorem fx_SheetReader_addWord {X : Nat → Nat → Prop} {S0 : SS} (x_175_1 : X 175 1) : ∀ (S : SS) (w1 : Int64) (v2 : Int), FX X S0 S → pc (f_SheetReader_addWord S w1 v2) (FX X S0) := by
  intro S w1 v2 h
  unfold f_SheetReader_addWord
  repeat' first | with_reducible exact pc_some (by assumption) | with_reducible exact pc_none | with_reducible refine pc_chk (fun _ => ?_) | with_reducible refine pc_if (fun _ => ?_) (fun _ => ?_) | with_reducible refine pc_on ?_ (fun _ _ => ?_) | with_reducible refine pc_b1 (fx_Sheet_add (x_q0 := (by first | exact x_175_1)) _ _ (by assumption)) (fun _ _ => ?_) | with_reducible refine xf_lt (by assumption) (by first | exact x_175_1) (fun _ _ => ?_) | with_reducible refine xf_lts (by assumption) (fun _ _ => ?_) | with_reducible refine xf_ltq (by assumption) (by omega) (fun _ _ => ?_) | with_reducible refine pf_b1 (fun _ => ?_) | with_reducible refine xf_ltv (fun _ => ?_)
set_option maxHeartbeats 4000000 in
theorem fxl_MarkReader_skipBlanks_5 {X : Nat → Nat → Prop} {S0 : SS} (x_177_4 : X 177 4)   : ∀ (n : Nat) (S : SS) (v1_ : Int), FX X S0 S → pc (f_MarkReader_skipBlanks_5  n S v1_) (FX X S0) := by
  intro n
  induction n with
  | zero => intro S v1_ h r e; exact absurd e (by simp [f_MarkReader_skipBlanks_5])
  | succ n ih =>
    intro S v1_ h
    show pc (f_MarkReader_skipBlanks_5_b (f_MarkReader_skipBlanks_5 n) S v1_) _
    unfold f_MarkReader_skipBlanks_5_b
    repeat' first | with_reducible exact ih _ _ (by assumption) | with_reducible exact pc_some (by assumption) | with_reducible exact pc_none | with_reducible refine pc_chk (fun _ => ?_) | with_reducible refine pc_if (fun _ => ?_) (fun _ => ?_) | with_reducible refine pc_on ?_ (fun _ _ => ?_) | with_reducible refine xf_lt (by assumption) (by first | exact x_177_4) (fun _ _ => ?_) | with_reducible refine xf_lts (by assumption) (fun _ _ => ?_) | with_reducible refine xf_ltq (by assumption) (by omega) (fun _ _ => ?_) | with_reducible refine pf_b1 (fun _ => ?_) | with_reducible refine xf_ltv (fun _ => ?_)
set_option maxHeartbeats 4000000 in
theorem fx_MarkReader_skipBlanks {X : Nat → Nat → Prop} {S0 : SS} (x_177_4 : X 177 4) : ∀ (S : SS) , FX X S0 S → pc (f_MarkReader_skipBlanks S ) (FX X S0) := by
  intro S h
  unfold f_MarkReader_skipBlanks
  repeat' first | with_reducible exact fxl_MarkReader_skipBlanks_5 (x_177_4 := x_177_4) FU _ _ (by assumption) | with_reducible exact pc_some (by assumption) | with_reducible exact pc_none | with_reducible refine pc_chk (fun _ => ?_) | with_reducible refine pc_if (fun _ => ?_) (fun _ => ?_) | with_reducible refine pc_on ?_ (fun _ _ => ?_) | with_reducible refine xf_lt (by assumption) (by first | exact x_177_4) (fun _ _ => ?_) | with_reducible refine xf_lts (by assumption) (fun _ _ => ?_) | with_reducible refine xf_ltq (by assumption) (by omega) (fun _ _ => ?_) | with_reducible refine pf_b1 (fun _ => ?_) | with_reducible refine xf_ltv (fun _ => ?_)
set_option maxHeartbeats 4000000 in
theorem fxl_MarkReader_readToken_67 {X : Nat → Nat → Prop} {S0 : SS} (x_177_4 : X 177 4) (x_177_5 : X 177 5) (x_177_6 : X 177 6)   : ∀ (n : Nat) (S : SS) (v1_ : Int), FX X S0 S → pc (f_MarkReader_readToken_67  n S v1_) (FX X S0) := by
  intro n
  induction n with
  | zero => intro S v1_ h r e; exact absurd e (by simp [f_MarkReader_readToken_67])
  | succ n ih =>
    intro S v1_ h
    show pc (f_MarkReader_readToken_67_b (f_MarkReader_readToken_67 n) S v1_) _
    unfold f_MarkReader_readToken_67_b
    repeat' first | with_reducible exact ih _ _ (by assumption) | with_reducible unfold f_MarkReader_readToken_54 | with_reducible exact pc_some (by assumption) | with_reducible exact pc_none | with_reducible refine pc_chk (fun _ => ?_) | with_reducible refine pc_if (fun _ => ?_) (fun _ => ?_) | with_reducible refine pc_on ?_ (fun _ _ => ?_) | with_reducible refine pc_b1 (fx_MarkReader_skipBlanks (x_177_4 := x_177_4) _ (by assumption)) (fun _ _ => ?_) | with_reducible refine xf_lt (by assumption) (by first | exact x_177_4 | exact x_177_5 | exact x_177_6) (fun _ _ => ?_) | with_reducible refine xf_lts (by assumption) (fun _ _ => ?_) | with_reducible refine xf_ltq (by assumption) (by omega) (fun _ _ => ?_) | with_reducible refine pf_b1 (fun _ => ?_) | with_reducible refine xf_ltv (fun _ => ?_)
set_option maxHeartbeats 4000000 in
theorem fx_MarkReader_readToken {X : Nat → Nat → Prop} {S0 : SS} (x_177_4 : X 177 4) (x_177_5 : X 177 5) (x_177_6 : X 177 6) : ∀ (S : SS) , FX X S0 S → pc (f_MarkReader_readToken S ) (FX X S0) := by
  intro S h
  unfold f_MarkReader_readToken
  repeat' first | with_reducible exact fxl_MarkReader_readToken_67 (x_177_4 := x_177_4) (x_177_5 := x_177_5) (x_177_6 := x_177_6) FU _ _ (by assumption) | with_reducible unfold f_MarkReader_readToken_54 | with_reducible exact pc_some (by assumption) | with_reducible exact pc_none | with_reducible refine pc_chk (fun _ => ?_) | with_reducible refine pc_if (fun _ => ?_) (fun _ => ?_) | with_reducible refine pc_on ?_ (fun _ _ => ?_) | with_reducible refine pc_b1 (fx_MarkReader_skipBlanks (x_177_4 := x_177_4) _ (by assumption)) (fun _ _ => ?_) | with_reducible refine xf_lt (by assumption) (by first | exact x_177_4 | exact x_177_5 | exact x_177_6) (fun _ _ => ?_) | with_reducible refine xf_lts (by assumption) (fun _ _ => ?_) | with_reducible refine xf_ltq (by assumption) (by omega) (fun _ _ => ?_) | with_reducible refine pf_b1 (fun _ => ?_) | with_reducible refine xf_ltv (fun _ => ?_)
set_option maxHeartbeats 4000000 in
theorem fx_MarkReader_refuse {X : Nat → Nat → Prop} {S0 : SS} (x_3_0 : X 3 0) (x_3_1 : X 3 1) : ∀ (S : SS) (v1 : Int), FX X S0 S → pc (f_MarkReader_refuse S v1) (fun u => FX X S0 u.2) := by
  intro S v1 h
  unfold f_MarkReader_refuse
  repeat' first | with_reducible exact pc_some (by assumption) | with_reducible exact pc_none | with_reducible refine pc_chk (fun _ => ?_) | with_reducible refine pc_if (fun _ => ?_) (fun _ => ?_) | with_reducible refine pc_on ?_ (fun _ _ => ?_) | with_reducible refine pc_b2 (fx_Fault_tellOf (x_3_0 := x_3_0) (x_3_1 := x_3_1) _ _ _ (by assumption)) (fun _ _ _ => ?_) | with_reducible refine xf_lt (by assumption) (by first | exact x_3_0 | exact x_3_1) (fun _ _ => ?_) | with_reducible refine xf_lts (by assumption) (fun _ _ => ?_) | with_reducible refine xf_ltq (by assumption) (by omega) (fun _ _ => ?_) | with_reducible refine pf_b1 (fun _ => ?_) | with_reducible refine xf_ltv (fun _ => ?_)
set_option maxHeartbeats 4000000 in
theorem fx_MP_feed {X : Nat → Nat → Prop} {S0 : SS} (x_2 : ∀ k, X 2 k) (x_1_1 : X 1 1) : ∀ (S : SS) (v1 : Int) (v2 : Int) (v3 : Int) (v4 : Int) (v5 : Int), FX X S0 S → pc (f_MP_feed S v1 v2 v3 v4 v5) (fun u => FX X S0 u.2) := by
  intro S v1 v2 v3 v4 v5 h
  unfold f_MP_feed
  repeat' first | with_reducible exact pc_some (by assumption) | with_reducible exact pc_none | with_reducible refine pc_chk (fun _ => ?_) | with_reducible refine pc_if (fun _ => ?_) (fun _ => ?_) | with_reducible refine pc_on ?_ (fun _ _ => ?_) | with_reducible refine pc_b1 (fx_Tape_addFour (x_2 := x_2) (x_1_1 := x_1_1) _ _ (by assumption)) (fun _ _ => ?_) | with_reducible refine xf_lt (by assumption) (by first | exact x_2 _ | exact x_1_1) (fun _ _ => ?_) | with_reducible refine xf_lts (by assumption) (fun _ _ => ?_) | with_reducible refine xf_ltq (by assumption) (by omega) (fun _ _ => ?_) | with_reducible refine pf_b1 (fun _ => ?_) | with_reducible refine xf_ltv (fun _ => ?_)
set_option maxHeartbeats 4000000 in
theorem fx_MP_end {X : Nat → Nat → Prop} {S0 : SS} (x_1_1 : X 1 1) : ∀ (S : SS) (v1 : Int), FX X S0 S → pc (f_MP_end S v1) (fun u => FX X S0 u.2) := by
  intro S v1 h
  unfold f_MP_end
  repeat' first | with_reducible exact pc_some (by assumption) | with_reducible exact pc_none | with_reducible refine pc_chk (fun _ => ?_) | with_reducible refine pc_if (fun _ => ?_) (fun _ => ?_) | with_reducible refine pc_on ?_ (fun _ _ => ?_) | with_reducible refine xf_lt (by assumption) (by first | exact x_1_1) (fun _ _ => ?_) | with_reducible refine xf_lts (by assumption) (fun _ _ => ?_) | with_reducible refine xf_ltq (by assumption) (by omega) (fun _ _ => ?_) | with_reducible refine pf_b1 (fun _ => ?_) | with_reducible refine xf_ltv (fun _ => ?_)
set_option maxHeartbeats 4000000 in
theorem fx_MP_costs {X : Nat → Nat → Prop} {S0 : SS} (x_183_5 : X 183 5) (x_183_6 : X 183 6) : ∀ (S : SS) (v1 : Int) (v2 : Int), FX X S0 S → pc (f_MP_costs S v1 v2) (fun u => FX X S0 u.2) := by
  intro S v1 v2 h
  unfold f_MP_costs
  repeat' first | with_reducible exact pc_some (by assumption) | with_reducible exact pc_none | with_reducible refine pc_chk (fun _ => ?_) | with_reducible refine pc_if (fun _ => ?_) (fun _ => ?_) | with_reducible refine pc_on ?_ (fun _ _ => ?_) | with_reducible refine xf_lt (by assumption) (by first | exact x_183_5 | exact x_183_6) (fun _ _ => ?_) | with_reducible refine xf_lts (by assumption) (fun _ _ => ?_) | with_reducible refine xf_ltq (by assumption) (by omega) (fun _ _ => ?_) | with_reducible refine pf_b1 (fun _ => ?_) | with_reducible refine xf_ltv (fun _ => ?_)
set_option maxHeartbeats 4000000 in
theorem fx_MP_distance {X : Nat → Nat → Prop} {S0 : SS} (x_182 : ∀ k, X 182 k) : ∀ (S : SS) (v1 : Int) (v2 : Int), FX X S0 S → pc (f_MP_distance S v1 v2) (fun u => FX X S0 u.2) := by
  intro S v1 v2 h
  unfold f_MP_distance
  repeat' first | with_reducible exact pc_some (by assumption) | with_reducible exact pc_none | with_reducible refine pc_chk (fun _ => ?_) | with_reducible refine pc_if (fun _ => ?_) (fun _ => ?_) | with_reducible refine pc_on ?_ (fun _ _ => ?_) | with_reducible refine pc_b2 (fx_Ruler_measure (x_182 := x_182) _ _ _ _ _ _ (by assumption)) (fun _ _ _ => ?_) | with_reducible refine xf_lt (by assumption) (by first | exact x_182 _) (fun _ _ => ?_) | with_reducible refine xf_lts (by assumption) (fun _ _ => ?_) | with_reducible refine xf_ltq (by assumption) (by omega) (fun _ _ => ?_) | with_reducible refine pf_b1 (fun _ => ?_) | with_reducible refine xf_ltv (fun _ => ?_)
set_option maxHeartbeats 4000000 in
theorem fx_MP_error {X : Nat → Nat → Prop} {S0 : SS} (x_m_9 : ∀ j, j < 40 → X (14 + 4 * j) 9) : ∀ (S : SS) (v1 : Int) (v2 : Int), FX X S0 S → pc (f_MP_error S v1 v2) (fun u => FX X S0 u.2) := by
  intro S v1 v2 h
  unfold f_MP_error
  repeat' first | with_reducible exact pc_some (by assumption) | with_reducible exact pc_none | with_reducible refine pc_chk (fun _ => ?_) | with_reducible refine pc_if (fun _ => ?_) (fun _ => ?_) | with_reducible refine pc_on ?_ (fun _ _ => ?_) | with_reducible refine xf_lt (by assumption) (by first | exact x_m_9 _ (by omega)) (fun _ _ => ?_) | with_reducible refine xf_lts (by assumption) (fun _ _ => ?_) | with_reducible refine xf_ltq (by assumption) (by omega) (fun _ _ => ?_) | with_reducible refine pf_b1 (fun _ => ?_) | with_reducible refine xf_ltv (fun _ => ?_)
set_option maxHeartbeats 4000000 in
theorem fx_MP_price {X : Nat → Nat → Prop} {S0 : SS} (x_191 : ∀ k, X 191 k) : ∀ (S : SS) (v1 : Int) (v2 : Int), FX X S0 S → pc (f_MP_price S v1 v2) (fun u => FX X S0 u.2) := by
  intro S v1 v2 h
  unfold f_MP_price
  repeat' first | with_reducible exact pc_some (by assumption) | with_reducible exact pc_none | with_reducible refine pc_chk (fun _ => ?_) | with_reducible refine pc_if (fun _ => ?_) (fun _ => ?_) | with_reducible refine pc_on ?_ (fun _ _ => ?_) | with_reducible refine pc_b2 (fx_Bill_setPrice (x_191 := x_191) _ _ _ (by assumption)) (fun _ _ _ => ?_) | with_reducible refine xf_lt (by assumption) (by first | exact x_191 _) (fun _ _ => ?_) | with_reducible refine xf_lts (by assumption) (fun _ _ => ?_) | with_reducible refine xf_ltq (by assumption) (by omega) (fun _ _ => ?_) | with_reducible refine pf_b1 (fun _ => ?_) | with_reducible refine xf_ltv (fun _ => ?_)
set_option maxHeartbeats 4000000 in
theorem fxl_SheetReader_readProof_20 {X : Nat → Nat → Prop} {S0 : SS} (x_3_0 : X 3 0) (x_3_1 : X 3 1) (x_175_1 : X 175 1) (v2 : Int)  : ∀ (n : Nat) (S : SS) (w4_ : Int64) (v6_ : Int) (v7_ : Int), FX X S0 S → pc (f_SheetReader_readProof_20 v2 n S w4_ v6_ v7_) (fun u => FX X S0 u.2) := by
  intro n
  induction n with
  | zero => intro S w4_ v6_ v7_ h r e; exact absurd e (by simp [f_SheetReader_readProof_20])
  | succ n ih =>
    intro S w4_ v6_ v7_ h
    show pc (f_SheetReader_readProof_20_b v2 (f_SheetReader_readProof_20 v2 n) S w4_ v6_ v7_) _
    unfold f_SheetReader_readProof_20_b
    repeat' first | with_reducible exact ih _ _ _ _ (by assumption) | with_reducible unfold f_SheetReader_readProof_77 | with_reducible unfold f_SheetReader_readProof_123 | with_reducible unfold f_SheetReader_readProof_109 | with_reducible exact pc_some (by assumption) | with_reducible exact pc_none | with_reducible refine pc_chk (fun _ => ?_) | with_reducible refine pc_if (fun _ => ?_) (fun _ => ?_) | with_reducible refine pc_on ?_ (fun _ _ => ?_) | with_reducible refine pc_b2 (fx_Fault_tellOf (x_3_0 := x_3_0) (x_3_1 := x_3_1) _ _ _ (by assumption)) (fun _ _ _ => ?_) | with_reducible refine pc_b1 (fx_SheetReader_addWord (x_175_1 := x_175_1) _ _ _ (by assumption)) (fun _ _ => ?_) | with_reducible refine xf_let (fx_Sheet_clear (x_q0 := (by first | exact x_3_0 | exact x_3_1 | exact x_175_1)) _ (by assumption)) (fun _ _ => ?_) | with_reducible refine xf_let (fx_Fault_clear (x_3_0 := x_3_0) (x_3_1 := x_3_1) _ (by assumption)) (fun _ _ => ?_) | with_reducible refine xf_lt (by assumption) (by first | exact x_3_0 | exact x_3_1 | exact x_175_1) (fun _ _ => ?_) | with_reducible refine xf_lts (by assumption) (fun _ _ => ?_) | with_reducible refine xf_ltq (by assumption) (by omega) (fun _ _ => ?_) | with_reducible refine pf_b1 (fun _ => ?_) | with_reducible refine xf_ltv (fun _ => ?_)
set_option maxHeartbeats 4000000 in
theorem fx_SheetReader_readProof {X : Nat → Nat → Prop} {S0 : SS} (x_3_0 : X 3 0) (x_3_1 : X 3 1) (x_175_1 : X 175 1) : ∀ (S : SS) (v2 : Int), FX X S0 S → pc (f_SheetReader_readProof S v2) (fun u => FX X S0 u.2) := by
  intro S v2 h
  unfold f_SheetReader_readProof
  repeat' first | with_reducible exact fxl_SheetReader_readProof_20 (x_3_0 := x_3_0) (x_3_1 := x_3_1) (x_175_1 := x_175_1) _ FU _ _ _ _ (by assumption) | with_reducible unfold f_SheetReader_readProof_77 | with_reducible unfold f_SheetReader_readProof_123 | with_reducible unfold f_SheetReader_readProof_109 | with_reducible exact pc_some (by assumption) | with_reducible exact pc_none | with_reducible refine pc_chk (fun _ => ?_) | with_reducible refine pc_if (fun _ => ?_) (fun _ => ?_) | with_reducible refine pc_on ?_ (fun _ _ => ?_) | with_reducible refine pc_b2 (fx_Fault_tellOf (x_3_0 := x_3_0) (x_3_1 := x_3_1) _ _ _ (by assumption)) (fun _ _ _ => ?_) | with_reducible refine pc_b1 (fx_SheetReader_addWord (x_175_1 := x_175_1) _ _ _ (by assumption)) (fun _ _ => ?_) | with_reducible refine xf_let (fx_Sheet_clear (x_q0 := (by first | exact x_3_0 | exact x_3_1 | exact x_175_1)) _ (by assumption)) (fun _ _ => ?_) | with_reducible refine xf_let (fx_Fault_clear (x_3_0 := x_3_0) (x_3_1 := x_3_1) _ (by assumption)) (fun _ _ => ?_) | with_reducible refine xf_lt (by assumption) (by first | exact x_3_0 | exact x_3_1 | exact x_175_1) (fun _ _ => ?_) | with_reducible refine xf_lts (by assumption) (fun _ _ => ?_) | with_reducible refine xf_ltq (by assumption) (by omega) (fun _ _ => ?_) | with_reducible refine pf_b1 (fun _ => ?_) | with_reducible refine xf_ltv (fun _ => ?_)
set_option maxHeartbeats 4000000 in
theorem fxl_MarkReader_readNumbers_33 {X : Nat → Nat → Prop} {S0 : SS} (x_3_0 : X 3 0) (x_3_1 : X 3 1) (x_177_4 : X 177 4) (x_177_5 : X 177 5) (x_177_6 : X 177 6) (x_mn : ∀ j k, j < 40 → X (14 + 4 * j + 1) k) (j1 : Nat) (hj_j1 : j1 < 40)  : ∀ (n : Nat) (S : SS) (v2_ : Int) (v3_ : Int), FX X S0 S → pc (f_MarkReader_readNumbers_33 j1 n S v2_ v3_) (fun u => FX X S0 u.2) := by
  intro n
  induction n with
  | zero => intro S v2_ v3_ h r e; exact absurd e (by simp [f_MarkReader_readNumbers_33])
  | succ n ih =>
    intro S v2_ v3_ h
    show pc (f_MarkReader_readNumbers_33_b j1 (f_MarkReader_readNumbers_33 j1 n) S v2_ v3_) _
    unfold f_MarkReader_readNumbers_33_b
    repeat' first | with_reducible exact ih _ _ _ (by assumption) | with_reducible unfold f_MarkReader_readNumbers_63 | with_reducible unfold f_MarkReader_readNumbers_30 | with_reducible unfold f_MarkReader_readNumbers_18 | with_reducible exact pc_some (by assumption) | with_reducible exact pc_none | with_reducible refine pc_chk (fun _ => ?_) | with_reducible refine pc_if (fun _ => ?_) (fun _ => ?_) | with_reducible refine pc_on ?_ (fun _ _ => ?_) | with_reducible refine pc_b2 (fx_MarkReader_refuse (x_3_0 := x_3_0) (x_3_1 := x_3_1) _ _ (by assumption)) (fun _ _ _ => ?_) | with_reducible refine pc_b1 (fx_MarkReader_readToken (x_177_4 := x_177_4) (x_177_5 := x_177_5) (x_177_6 := x_177_6) _ (by assumption)) (fun _ _ => ?_) | with_reducible refine pc_b1 (fx_Mark_setNumber (x_mn := x_mn) _ _ _ _ (by omega) (by assumption)) (fun _ _ => ?_) | with_reducible refine xf_lt (by assumption) (by first | exact x_3_0 | exact x_3_1 | exact x_177_4 | exact x_177_5 | exact x_177_6 | exact x_mn _ _ (by omega)) (fun _ _ => ?_) | with_reducible refine xf_lts (by assumption) (fun _ _ => ?_) | with_reducible refine xf_ltq (by assumption) (by omega) (fun _ _ => ?_) | with_reducible refine pf_b1 (fun _ => ?_) | with_reducible refine xf_ltv (fun _ => ?_)
set_option maxHeartbeats 4000000 in
theorem fx_MarkReader_readNumbers {X : Nat → Nat → Prop} {S0 : SS} (x_3_0 : X 3 0) (x_3_1 : X 3 1) (x_177_4 : X 177 4) (x_177_5 : X 177 5) (x_177_6 : X 177 6) (x_mn : ∀ j k, j < 40 → X (14 + 4 * j + 1) k) : ∀ (S : SS) (j1 : Nat), j1 < 40 → FX X S0 S → pc (f_MarkReader_readNumbers S j1) (fun u => FX X S0 u.2) := by
  intro S j1 hj0 h
  unfold f_MarkReader_readNumbers
  repeat' first | with_reducible exact fxl_MarkReader_readNumbers_33 (x_3_0 := x_3_0) (x_3_1 := x_3_1) (x_177_4 := x_177_4) (x_177_5 := x_177_5) (x_177_6 := x_177_6) (x_mn := x_mn) _ (by assumption) FU _ _ _ (by assumption) | with_reducible unfold f_MarkReader_readNumbers_63 | with_reducible unfold f_MarkReader_readNumbers_30 | with_reducible unfold f_MarkReader_readNumbers_18 | with_reducible exact pc_some (by assumption) | with_reducible exact pc_none | with_reducible refine pc_chk (fun _ => ?_) | with_reducible refine pc_if (fun _ => ?_) (fun _ => ?_) | with_reducible refine pc_on ?_ (fun _ _ => ?_) | with_reducible refine pc_b2 (fx_MarkReader_refuse (x_3_0 := x_3_0) (x_3_1 := x_3_1) _ _ (by assumption)) (fun _ _ _ => ?_) | with_reducible refine pc_b1 (fx_MarkReader_readToken (x_177_4 := x_177_4) (x_177_5 := x_177_5) (x_177_6 := x_177_6) _ (by assumption)) (fun _ _ => ?_) | with_reducible refine pc_b1 (fx_Mark_setNumber (x_mn := x_mn) _ _ _ _ (by omega) (by assumption)) (fun _ _ => ?_) | with_reducible refine xf_lt (by assumption) (by first | exact x_3_0 | exact x_3_1 | exact x_177_4 | exact x_177_5 | exact x_177_6 | exact x_mn _ _ (by omega)) (fun _ _ => ?_) | with_reducible refine xf_lts (by assumption) (fun _ _ => ?_) | with_reducible refine xf_ltq (by assumption) (by omega) (fun _ _ => ?_) | with_reducible refine pf_b1 (fun _ => ?_) | with_reducible refine xf_ltv (fun _ => ?_)
set_option maxHeartbeats 4000000 in
theorem fxl_MarkReader_readWord_11 {X : Nat → Nat → Prop} {S0 : SS} (x_177_4 : X 177 4) (x_3_0 : X 3 0) (x_3_1 : X 3 1) (x_ms : ∀ j, j < 40 → X (14 + 4 * j + 2) 1) (j1 : Nat) (hj_j1 : j1 < 40)  : ∀ (n : Nat) (S : SS) (w2_ : Int64) (v4_ : Int) (v5_ : Int), FX X S0 S → pc (f_MarkReader_readWord_11 j1 n S w2_ v4_ v5_) (fun u => FX X S0 u.2) := by
  intro n
  induction n with
  | zero => intro S w2_ v4_ v5_ h r e; exact absurd e (by simp [f_MarkReader_readWord_11])
  | succ n ih =>
    intro S w2_ v4_ v5_ h
    show pc (f_MarkReader_readWord_11_b j1 (f_MarkReader_readWord_11 j1 n) S w2_ v4_ v5_) _
    unfold f_MarkReader_readWord_11_b
    repeat' first | with_reducible exact ih _ _ _ _ (by assumption) | with_reducible unfold f_MarkReader_readWord_70 | with_reducible unfold f_MarkReader_readWord_69 | with_reducible unfold f_MarkReader_readWord_114 | with_reducible unfold f_MarkReader_readWord_95 | with_reducible exact pc_some (by assumption) | with_reducible exact pc_none | with_reducible refine pc_chk (fun _ => ?_) | with_reducible refine pc_if (fun _ => ?_) (fun _ => ?_) | with_reducible refine pc_on ?_ (fun _ _ => ?_) | with_reducible refine pc_b2 (fx_MarkReader_refuse (x_3_0 := x_3_0) (x_3_1 := x_3_1) _ _ (by assumption)) (fun _ _ _ => ?_) | with_reducible refine pc_b1 (fx_Sheet_add (x_q0 := (by first | exact x_177_4 | exact x_3_0 | exact x_3_1 | exact x_ms _ (by omega))) _ _ (by assumption)) (fun _ _ => ?_) | with_reducible refine xf_lt (by assumption) (by first | exact x_177_4 | exact x_3_0 | exact x_3_1 | exact x_ms _ (by omega)) (fun _ _ => ?_) | with_reducible refine xf_lts (by assumption) (fun _ _ => ?_) | with_reducible refine xf_ltq (by assumption) (by omega) (fun _ _ => ?_) | with_reducible refine pf_b1 (fun _ => ?_) | with_reducible refine xf_ltv (fun _ => ?_)
set_option maxHeartbeats 4000000 in
theorem fx_MarkReader_readWord {X : Nat → Nat → Prop} {S0 : SS} (x_177_4 : X 177 4) (x_3_0 : X 3 0) (x_3_1 : X 3 1) (x_ms : ∀ j, j < 40 → X (14 + 4 * j + 2) 1) : ∀ (S : SS) (j1 : Nat), j1 < 40 → FX X S0 S → pc (f_MarkReader_readWord S j1) (fun u => FX X S0 u.2) := by
  intro S j1 hj0 h
  unfold f_MarkReader_readWord
  repeat' first | with_reducible exact fxl_MarkReader_readWord_11 (x_177_4 := x_177_4) (x_3_0 := x_3_0) (x_3_1 := x_3_1) (x_ms := x_ms) _ (by assumption) FU _ _ _ _ (by assumption) | with_reducible unfold f_MarkReader_readWord_70 | with_reducible unfold f_MarkReader_readWord_69 | with_reducible unfold f_MarkReader_readWord_114 | with_reducible unfold f_MarkReader_readWord_95 | with_reducible exact pc_some (by assumption) | with_reducible exact pc_none | with_reducible refine pc_chk (fun _ => ?_) | with_reducible refine pc_if (fun _ => ?_) (fun _ => ?_) | with_reducible refine pc_on ?_ (fun _ _ => ?_) | with_reducible refine pc_b2 (fx_MarkReader_refuse (x_3_0 := x_3_0) (x_3_1 := x_3_1) _ _ (by assumption)) (fun _ _ _ => ?_) | with_reducible refine pc_b1 (fx_Sheet_add (x_q0 := (by first | exact x_177_4 | exact x_3_0 | exact x_3_1 | exact x_ms _ (by omega))) _ _ (by assumption)) (fun _ _ => ?_) | with_reducible refine xf_lt (by assumption) (by first | exact x_177_4 | exact x_3_0 | exact x_3_1 | exact x_ms _ (by omega)) (fun _ _ => ?_) | with_reducible refine xf_lts (by assumption) (fun _ _ => ?_) | with_reducible refine xf_ltq (by assumption) (by omega) (fun _ _ => ?_) | with_reducible refine pf_b1 (fun _ => ?_) | with_reducible refine xf_ltv (fun _ => ?_)
set_option maxHeartbeats 4000000 in
theorem fxl_MarkReader_readWords_2 {X : Nat → Nat → Prop} {S0 : SS} (x_177_4 : X 177 4) (x_177_5 : X 177 5) (x_3_0 : X 3 0) (x_3_1 : X 3 1) (x_ms : ∀ j, j < 40 → X (14 + 4 * j + 2) 1) (j1 : Nat) (hj_j1 : j1 < 40)  : ∀ (n : Nat) (S : SS) (v2_ : Int), FX X S0 S → pc (f_MarkReader_readWords_2 j1 n S v2_) (fun u => FX X S0 u.2) := by
  intro n
  induction n with
  | zero => intro S v2_ h r e; exact absurd e (by simp [f_MarkReader_readWords_2])
  | succ n ih =>
    intro S v2_ h
    show pc (f_MarkReader_readWords_2_b j1 (f_MarkReader_readWords_2 j1 n) S v2_) _
    unfold f_MarkReader_readWords_2_b
    repeat' first | with_reducible exact ih _ _ (by assumption) | with_reducible unfold f_MarkReader_readWords_47 | with_reducible unfold f_MarkReader_readWords_53 | with_reducible exact pc_some (by assumption) | with_reducible exact pc_none | with_reducible refine pc_chk (fun _ => ?_) | with_reducible refine pc_if (fun _ => ?_) (fun _ => ?_) | with_reducible refine pc_on ?_ (fun _ _ => ?_) | with_reducible refine pc_b2 (fx_MarkReader_refuse (x_3_0 := x_3_0) (x_3_1 := x_3_1) _ _ (by assumption)) (fun _ _ _ => ?_) | with_reducible refine pc_b2 (fx_MarkReader_readWord (x_177_4 := x_177_4) (x_3_0 := x_3_0) (x_3_1 := x_3_1) (x_ms := x_ms) _ _ (by omega) (by assumption)) (fun _ _ _ => ?_) | with_reducible refine pc_b1 (fx_MarkReader_skipBlanks (x_177_4 := x_177_4) _ (by assumption)) (fun _ _ => ?_) | with_reducible refine xf_lt (by assumption) (by first | exact x_177_4 | exact x_177_5 | exact x_3_0 | exact x_3_1 | exact x_ms _ (by omega)) (fun _ _ => ?_) | with_reducible refine xf_lts (by assumption) (fun _ _ => ?_) | with_reducible refine xf_ltq (by assumption) (by omega) (fun _ _ => ?_) | with_reducible refine pf_b1 (fun _ => ?_) | with_reducible refine xf_ltv (fun _ => ?_)
set_option maxHeartbeats 4000000 in
theorem fx_MarkReader_readWords {X : Nat → Nat → Prop} {S0 : SS} (x_177_4 : X 177 4) (x_177_5 : X 177 5) (x_3_0 : X 3 0) (x_3_1 : X 3 1) (x_ms : ∀ j, j < 40 → X (14 + 4 * j + 2) 1) : ∀ (S : SS) (j1 : Nat), j1 < 40 → FX X S0 S → pc (f_MarkReader_readWords S j1) (fun u => FX X S0 u.2) := by
  intro S j1 hj0 h
  unfold f_MarkReader_readWords
  repeat' first | with_reducible exact fxl_MarkReader_readWords_2 (x_177_4 := x_177_4) (x_177_5 := x_177_5) (x_3_0 := x_3_0) (x_3_1 := x_3_1) (x_ms := x_ms) _ (by assumption) FU _ _ (by assumption) | with_reducible unfold f_MarkReader_readWords_47 | with_reducible unfold f_MarkReader_readWords_53 | with_reducible exact pc_some (by assumption) | with_reducible exact pc_none | with_reducible refine pc_chk (fun _ => ?_) | with_reducible refine pc_if (fun _ => ?_) (fun _ => ?_) | with_reducible refine pc_on ?_ (fun _ _ => ?_) | with_reducible refine pc_b2 (fx_MarkReader_refuse (x_3_0 := x_3_0) (x_3_1 := x_3_1) _ _ (by assumption)) (fun _ _ _ => ?_) | with_reducible refine pc_b2 (fx_MarkReader_readWord (x_177_4 := x_177_4) (x_3_0 := x_3_0) (x_3_1 := x_3_1) (x_ms := x_ms) _ _ (by omega) (by assumption)) (fun _ _ _ => ?_) | with_reducible refine pc_b1 (fx_MarkReader_skipBlanks (x_177_4 := x_177_4) _ (by assumption)) (fun _ _ => ?_) | with_reducible refine xf_lt (by assumption) (by first | exact x_177_4 | exact x_177_5 | exact x_3_0 | exact x_3_1 | exact x_ms _ (by omega)) (fun _ _ => ?_) | with_reducible refine xf_lts (by assumption) (fun _ _ => ?_) | with_reducible refine xf_ltq (by assumption) (by omega) (fun _ _ => ?_) | with_reducible refine pf_b1 (fun _ => ?_) | with_reducible refine xf_ltv (fun _ => ?_)
set_option maxHeartbeats 4000000 in
theorem fx_MarkReader_readLine {X : Nat → Nat → Prop} {S0 : SS} (x_m_2 : ∀ j, j < 40 → X (14 + 4 * j) 2) (x_m_3 : ∀ j, j < 40 → X (14 + 4 * j) 3) (x_m_7 : ∀ j, j < 40 → X (14 + 4 * j) 7) (x_3_0 : X 3 0) (x_3_1 : X 3 1) (x_177_4 : X 177 4) (x_177_5 : X 177 5) (x_ms : ∀ j, j < 40 → X (14 + 4 * j + 2) 1) (x_177_6 : X 177 6) (x_mn : ∀ j k, j < 40 → X (14 + 4 * j + 1) k) (x_m_6 : ∀ j, j < 40 → X (14 + 4 * j) 6) (x_m_5 : ∀ j, j < 40 → X (14 + 4 * j) 5) (x_m_4 : ∀ j, j < 40 → X (14 + 4 * j) 4) (x_m_8 : ∀ j, j < 40 → X (14 + 4 * j) 8) (x_m_9 : ∀ j, j < 40 → X (14 + 4 * j) 9) (x_m_10 : ∀ j, j < 40 → X (14 + 4 * j) 10) (x_m_11 : ∀ j, j < 40 → X (14 + 4 * j) 11) (x_m_12 : ∀ j, j < 40 → X (14 + 4 * j) 12) : ∀ (S : SS) , FX X S0 S → pc (f_MarkReader_readLine S ) (fun u => FX X S0 u.2) := by
  intro S h
  unfold f_MarkReader_readLine
  repeat' first | with_reducible unfold f_MarkReader_readLine_92 | with_reducible unfold f_MarkReader_readLine_132 | with_reducible unfold f_MarkReader_readLine_98 | with_reducible unfold f_MarkReader_readLine_61 | with_reducible exact pc_some (by assumption) | with_reducible exact pc_none | with_reducible refine pc_chk (fun _ => ?_) | with_reducible refine pc_if (fun _ => ?_) (fun _ => ?_) | with_reducible refine pc_on ?_ (fun _ _ => ?_) | with_reducible refine pc_b2 (fx_MarkReader_refuse (x_3_0 := x_3_0) (x_3_1 := x_3_1) _ _ (by assumption)) (fun _ _ _ => ?_) | with_reducible refine pc_b2 (fx_MarkReader_readWords (x_177_4 := x_177_4) (x_177_5 := x_177_5) (x_3_0 := x_3_0) (x_3_1 := x_3_1) (x_ms := x_ms) _ _ (by omega) (by assumption)) (fun _ _ _ => ?_) | with_reducible refine pc_b2 (fx_MarkReader_readNumbers (x_3_0 := x_3_0) (x_3_1 := x_3_1) (x_177_4 := x_177_4) (x_177_5 := x_177_5) (x_177_6 := x_177_6) (x_mn := x_mn) _ _ (by omega) (by assumption)) (fun _ _ _ => ?_) | with_reducible refine pc_b1 (fx_Mark_place (x_m_6 := x_m_6) (x_m_5 := x_m_5) (x_m_4 := x_m_4) _ _ (by omega) (by assumption)) (fun _ _ => ?_) | with_reducible refine pc_b1 (fx_MarkReader_readToken (x_177_4 := x_177_4) (x_177_5 := x_177_5) (x_177_6 := x_177_6) _ (by assumption)) (fun _ _ => ?_) | with_reducible refine pc_b2 (fx_Pile_blank (x_m_2 := x_m_2) (x_m_3 := x_m_3) (x_m_7 := x_m_7) (x_m_8 := x_m_8) (x_m_9 := x_m_9) (x_m_10 := x_m_10) (x_m_11 := x_m_11) (x_m_12 := x_m_12) (x_mn := x_mn) (x_ms := x_ms) _ (by assumption)) (fun _ _ _ => ?_) | with_reducible refine xf_lt (by assumption) (by first | exact x_m_2 _ (by omega) | exact x_m_3 _ (by omega) | exact x_m_7 _ (by omega) | exact x_3_0 | exact x_3_1 | exact x_177_4 | exact x_177_5 | exact x_ms _ (by omega) | exact x_177_6 | exact x_mn _ _ (by omega) | exact x_m_6 _ (by omega) | exact x_m_5 _ (by omega) | exact x_m_4 _ (by omega) | exact x_m_8 _ (by omega) | exact x_m_9 _ (by omega) | exact x_m_10 _ (by omega) | exact x_m_11 _ (by omega) | exact x_m_12 _ (by omega)) (fun _ _ => ?_) | with_reducible refine xf_lts (by assumption) (fun _ _ => ?_) | with_reducible refine xf_ltq (by assumption) (by omega) (fun _ _ => ?_) | with_reducible refine pf_b1 (fun _ => ?_) | with_reducible refine xf_ltv (fun _ => ?_)
set_option maxHeartbeats 4000000 in
theorem fxl_MarkReader_readMarks_44 {X : Nat → Nat → Prop} {S0 : SS} (x_10_4 : X 10 4) (x_177_3 : X 177 3) (x_177_4 : X 177 4) (x_177_5 : X 177 5) (x_177_6 : X 177 6) (x_m_2 : ∀ j, j < 40 → X (14 + 4 * j) 2) (x_m_3 : ∀ j, j < 40 → X (14 + 4 * j) 3) (x_m_7 : ∀ j, j < 40 → X (14 + 4 * j) 7) (x_3_0 : X 3 0) (x_3_1 : X 3 1) (x_ms : ∀ j, j < 40 → X (14 + 4 * j + 2) 1) (x_mn : ∀ j k, j < 40 → X (14 + 4 * j + 1) k) (x_m_6 : ∀ j, j < 40 → X (14 + 4 * j) 6) (x_m_5 : ∀ j, j < 40 → X (14 + 4 * j) 5) (x_m_4 : ∀ j, j < 40 → X (14 + 4 * j) 4) (x_m_8 : ∀ j, j < 40 → X (14 + 4 * j) 8) (x_m_9 : ∀ j, j < 40 → X (14 + 4 * j) 9) (x_m_10 : ∀ j, j < 40 → X (14 + 4 * j) 10) (x_m_11 : ∀ j, j < 40 → X (14 + 4 * j) 11) (x_m_12 : ∀ j, j < 40 → X (14 + 4 * j) 12) (v3 : Int)  : ∀ (n : Nat) (S : SS) (v5_ : Int), FX X S0 S → pc (f_MarkReader_readMarks_44 v3 n S v5_) (fun u => FX X S0 u.2) := by
  intro n
  induction n with
  | zero => intro S v5_ h r e; exact absurd e (by simp [f_MarkReader_readMarks_44])
  | succ n ih =>
    intro S v5_ h
    show pc (f_MarkReader_readMarks_44_b v3 (f_MarkReader_readMarks_44 v3 n) S v5_) _
    unfold f_MarkReader_readMarks_44_b
    repeat' first | with_reducible exact ih _ _ (by assumption) | with_reducible exact pc_some (by assumption) | with_reducible exact pc_none | with_reducible refine pc_chk (fun _ => ?_) | with_reducible refine pc_if (fun _ => ?_) (fun _ => ?_) | with_reducible refine pc_on ?_ (fun _ _ => ?_) | with_reducible refine pc_b1 (fx_MarkReader_readToken (x_177_4 := x_177_4) (x_177_5 := x_177_5) (x_177_6 := x_177_6) _ (by assumption)) (fun _ _ => ?_) | with_reducible refine pc_b2 (fx_MarkReader_readLine (x_m_2 := x_m_2) (x_m_3 := x_m_3) (x_m_7 := x_m_7) (x_3_0 := x_3_0) (x_3_1 := x_3_1) (x_177_4 := x_177_4) (x_177_5 := x_177_5) (x_ms := x_ms) (x_177_6 := x_177_6) (x_mn := x_mn) (x_m_6 := x_m_6) (x_m_5 := x_m_5) (x_m_4 := x_m_4) (x_m_8 := x_m_8) (x_m_9 := x_m_9) (x_m_10 := x_m_10) (x_m_11 := x_m_11) (x_m_12 := x_m_12) _ (by assumption)) (fun _ _ _ => ?_) | with_reducible refine xf_let (fx_Fault_clear (x_3_0 := x_3_0) (x_3_1 := x_3_1) _ (by assumption)) (fun _ _ => ?_) | with_reducible refine xf_lt (by assumption) (by first | exact x_10_4 | exact x_177_3 | exact x_177_4 | exact x_177_5 | exact x_177_6 | exact x_m_2 _ (by omega) | exact x_m_3 _ (by omega) | exact x_m_7 _ (by omega) | exact x_3_0 | exact x_3_1 | exact x_ms _ (by omega) | exact x_mn _ _ (by omega) | exact x_m_6 _ (by omega) | exact x_m_5 _ (by omega) | exact x_m_4 _ (by omega) | exact x_m_8 _ (by omega) | exact x_m_9 _ (by omega) | exact x_m_10 _ (by omega) | exact x_m_11 _ (by omega) | exact x_m_12 _ (by omega)) (fun _ _ => ?_) | with_reducible refine xf_lts (by assumption) (fun _ _ => ?_) | with_reducible refine xf_ltq (by assumption) (by omega) (fun _ _ => ?_) | with_reducible refine pf_b1 (fun _ => ?_) | with_reducible refine xf_ltv (fun _ => ?_)
set_option maxHeartbeats 4000000 in
theorem fx_MarkReader_readMarks {X : Nat → Nat → Prop} {S0 : SS} (x_10_4 : X 10 4) (x_177_3 : X 177 3) (x_177_4 : X 177 4) (x_177_5 : X 177 5) (x_177_6 : X 177 6) (x_m_2 : ∀ j, j < 40 → X (14 + 4 * j) 2) (x_m_3 : ∀ j, j < 40 → X (14 + 4 * j) 3) (x_m_7 : ∀ j, j < 40 → X (14 + 4 * j) 7) (x_3_0 : X 3 0) (x_3_1 : X 3 1) (x_ms : ∀ j, j < 40 → X (14 + 4 * j + 2) 1) (x_mn : ∀ j k, j < 40 → X (14 + 4 * j + 1) k) (x_m_6 : ∀ j, j < 40 → X (14 + 4 * j) 6) (x_m_5 : ∀ j, j < 40 → X (14 + 4 * j) 5) (x_m_4 : ∀ j, j < 40 → X (14 + 4 * j) 4) (x_m_8 : ∀ j, j < 40 → X (14 + 4 * j) 8) (x_m_9 : ∀ j, j < 40 → X (14 + 4 * j) 9) (x_m_10 : ∀ j, j < 40 → X (14 + 4 * j) 10) (x_m_11 : ∀ j, j < 40 → X (14 + 4 * j) 11) (x_m_12 : ∀ j, j < 40 → X (14 + 4 * j) 12) : ∀ (S : SS) (v3 : Int), FX X S0 S → pc (f_MarkReader_readMarks S v3) (fun u => FX X S0 u.2) := by
  intro S v3 h
  unfold f_MarkReader_readMarks
  repeat' first | with_reducible exact fxl_MarkReader_readMarks_44 (x_10_4 := x_10_4) (x_177_3 := x_177_3) (x_177_4 := x_177_4) (x_177_5 := x_177_5) (x_177_6 := x_177_6) (x_m_2 := x_m_2) (x_m_3 := x_m_3) (x_m_7 := x_m_7) (x_3_0 := x_3_0) (x_3_1 := x_3_1) (x_ms := x_ms) (x_mn := x_mn) (x_m_6 := x_m_6) (x_m_5 := x_m_5) (x_m_4 := x_m_4) (x_m_8 := x_m_8) (x_m_9 := x_m_9) (x_m_10 := x_m_10) (x_m_11 := x_m_11) (x_m_12 := x_m_12) _ FU _ _ (by assumption) | with_reducible exact pc_some (by assumption) | with_reducible exact pc_none | with_reducible refine pc_chk (fun _ => ?_) | with_reducible refine pc_if (fun _ => ?_) (fun _ => ?_) | with_reducible refine pc_on ?_ (fun _ _ => ?_) | with_reducible refine pc_b1 (fx_MarkReader_readToken (x_177_4 := x_177_4) (x_177_5 := x_177_5) (x_177_6 := x_177_6) _ (by assumption)) (fun _ _ => ?_) | with_reducible refine pc_b2 (fx_MarkReader_readLine (x_m_2 := x_m_2) (x_m_3 := x_m_3) (x_m_7 := x_m_7) (x_3_0 := x_3_0) (x_3_1 := x_3_1) (x_177_4 := x_177_4) (x_177_5 := x_177_5) (x_ms := x_ms) (x_177_6 := x_177_6) (x_mn := x_mn) (x_m_6 := x_m_6) (x_m_5 := x_m_5) (x_m_4 := x_m_4) (x_m_8 := x_m_8) (x_m_9 := x_m_9) (x_m_10 := x_m_10) (x_m_11 := x_m_11) (x_m_12 := x_m_12) _ (by assumption)) (fun _ _ _ => ?_) | with_reducible refine xf_let (fx_Fault_clear (x_3_0 := x_3_0) (x_3_1 := x_3_1) _ (by assumption)) (fun _ _ => ?_) | with_reducible refine xf_lt (by assumption) (by first | exact x_10_4 | exact x_177_3 | exact x_177_4 | exact x_177_5 | exact x_177_6 | exact x_m_2 _ (by omega) | exact x_m_3 _ (by omega) | exact x_m_7 _ (by omega) | exact x_3_0 | exact x_3_1 | exact x_ms _ (by omega) | exact x_mn _ _ (by omega) | exact x_m_6 _ (by omega) | exact x_m_5 _ (by omega) | exact x_m_4 _ (by omega) | exact x_m_8 _ (by omega) | exact x_m_9 _ (by omega) | exact x_m_10 _ (by omega) | exact x_m_11 _ (by omega) | exact x_m_12 _ (by omega)) (fun _ _ => ?_) | with_reducible refine xf_lts (by assumption) (fun _ _ => ?_) | with_reducible refine xf_ltq (by assumption) (by omega) (fun _ _ => ?_) | with_reducible refine pf_b1 (fun _ => ?_) | with_reducible refine xf_ltv (fun _ => ?_)
set_option maxHeartbeats 4000000 in
theorem fx_MP_second {X : Nat → Nat → Prop} {S0 : SS} (x_1_1 : X 1 1) (x_3_0 : X 3 0) (x_3_1 : X 3 1) (x_175_1 : X 175 1) (x_6_1 : X 6 1) : ∀ (S : SS) , FX X S0 S → pc (f_MP_second S ) (fun u => FX X S0 u.2) := by
  intro S h
  unfold f_MP_second
  repeat' first | with_reducible exact pc_some (by assumption) | with_reducible exact pc_none | with_reducible refine pc_chk (fun _ => ?_) | with_reducible refine pc_if (fun _ => ?_) (fun _ => ?_) | with_reducible refine pc_on ?_ (fun _ _ => ?_) | with_reducible refine pc_b2 (fx_SheetReader_readProof (x_3_0 := x_3_0) (x_3_1 := x_3_1) (x_175_1 := x_175_1) _ _ (by assumption)) (fun _ _ _ => ?_) | with_reducible refine pc_b1 (fx_Sheet_copyFrom (x_q0 := (by first | exact x_1_1 | exact x_3_0 | exact x_3_1 | exact x_175_1 | exact x_6_1)) _ _ (by assumption)) (fun _ _ => ?_) | with_reducible refine xf_lt (by assumption) (by first | exact x_1_1 | exact x_3_0 | exact x_3_1 | exact x_175_1 | exact x_6_1) (fun _ _ => ?_) | with_reducible refine xf_lts (by assumption) (fun _ _ => ?_) | with_reducible refine xf_ltq (by assumption) (by omega) (fun _ _ => ?_) | with_reducible refine pf_b1 (fun _ => ?_) | with_reducible refine xf_ltv (fun _ => ?_)
