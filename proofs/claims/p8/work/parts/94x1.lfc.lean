/-- all longs stay but of the rows X; the sheet that the setter sets into stays -/
def LX (X : Nat → Prop) (S0 S : SS) : Prop := (∀ r k, ¬ X r → gl S r k = gl S0 r k) ∧ gq S 178 4 = gq S0 178 4
theorem LX_refl (X : Nat → Prop) (S : SS) : LX X S S := ⟨fun _ _ _ => rfl, rfl⟩
theorem LX_si {X : Nat → Prop} {S0 S : SS} {r k : Nat} {v : Int} (h : LX X S0 S) : LX X S0 (si S r k v) := h
theorem LX_sl {X : Nat → Prop} {S0 S : SS} {r k : Nat} {v : Int64} (h : LX X S0 S) (hx : X r) : LX X S0 (sl S r k v) := ⟨fun r' k' a => by rw [gl_slN, if_neg (fun q => a (by rw [q.1]; exact hx))]; exact h.1 r' k' a, h.2⟩
theorem LX_sq {X : Nat → Prop} {S0 S : SS} {r k : Nat} {v : Option Nat} (h : LX X S0 S) (hx : ¬ (178 = r ∧ 4 = k)) : LX X S0 (sq S r k v) := ⟨h.1, by rw [gq_off hx]; exact h.2⟩
theorem xl_lt {β : Type} {X : Nat → Prop} {S0 S : SS} {r k : Nat} {v : Int} {g : SS → Option β} {P : β → Prop} (h : LX X S0 S) (hk : ∀ y, LX X S0 y → pc (g y) P) : pc (w_lt (si S r k v) g) P := hk _ (LX_si h)
theorem xl_lts {β : Type} {X : Nat → Prop} {S0 S : SS} {r k : Nat} {v : Int64} {g : SS → Option β} {P : β → Prop} (h : LX X S0 S) (hx : X r) (hk : ∀ y, LX X S0 y → pc (g y) P) : pc (w_lt (sl S r k v) g) P := hk _ (LX_sl h hx)
theorem xl_ltq {β : Type} {X : Nat → Prop} {S0 S : SS} {r k : Nat} {v : Option Nat} {g : SS → Option β} {P : β → Prop} (h : LX X S0 S) (hx : ¬ (178 = r ∧ 4 = k)) (hk : ∀ y, LX X S0 y → pc (g y) P) : pc (w_lt (sq S r k v) g) P := hk _ (LX_sq h hx)
theorem xl_let {β : Type} {X : Nat → Prop} {S0 x : SS} {g : SS → Option β} {P : β → Prop} (h : LX X S0 x) (hk : ∀ y, LX X S0 y → pc (g y) P) : pc (w_lt x g) P := hk _ h
theorem lx_Fault_clear {X : Nat → Prop} {S0 : SS} : ∀ S, LX X S0 S → LX X S0 (f_Fault_clear S) := fun S h => h
theorem lx_Sheet_clear {X : Nat → Prop} {S0 : SS} : ∀ S q0, LX X S0 S → LX X S0 (f_Sheet_clear S q0) := fun S q0 h => h
theorem lx_Pile_clear {X : Nat → Prop} {S0 : SS} : ∀ S, LX X S0 S → LX X S0 (f_Pile_clear S) := fun S h => h
theorem lx_Mark_voidByStet {X : Nat → Prop} {S0 : SS} : ∀ S j v, j < 40 → LX X S0 S → LX X S0 (f_Mark_voidByStet S j v) := by
  intro S j v hj h
  unfold f_Mark_voidByStet
  by_cases c : gi S (14 + 4 * j) 8 = 0
  · rw [if_pos c]; exact h
  · rw [if_neg c]; exact h
set_option maxHeartbeats 4000000 in
theorem lx_Fault_tellOf {X : Nat → Prop} {S0 : SS}  : ∀ (S : SS) (v1 : Int) (v2 : Int), LX X S0 S → pc (f_Fault_tellOf S v1 v2) (fun u => LX X S0 u.2) := by
  intro S v1 v2 h
  unfold f_Fault_tellOf
  repeat' first | with_reducible exact pc_some (by assumption) | with_reducible exact pc_none | with_reducible refine pc_chk (fun _ => ?_) | with_reducible refine pc_if (fun _ => ?_) (fun _ => ?_) | with_reducible refine pc_on ?_ (fun _ _ => ?_) | with_reducible refine xl_lt (by assumption) (fun _ _ => ?_) | with_reducible refine xl_ltq (by assumption) (by omega) (fun _ _ => ?_) | with_reducible refine pf_b1 (fun _ => ?_) | with_reducible refine xf_ltv (fun _ => ?_)
set_option maxHeartbeats 4000000 in
theorem lxl_Tape_addFour_3 {X : Nat → Prop} {S0 : SS}  (v1 : Int)  : ∀ (n : Nat) (S : SS) (v2_ : Int), LX X S0 S → pc (f_Tape_addFour_3 v1 n S v2_) (LX X S0) := by
  intro n
  induction n with
  | zero => intro S v2_ h r e; exact absurd e (by simp [f_Tape_addFour_3])
  | succ n ih =>
    intro S v2_ h
    show pc (f_Tape_addFour_3_b v1 (f_Tape_addFour_3 v1 n) S v2_) _
    unfold f_Tape_addFour_3_b
    repeat' first | with_reducible exact ih _ _ (by assumption) | with_reducible unfold f_Tape_addFour_49 | with_reducible exact pc_some (by assumption) | with_reducible exact pc_none | with_reducible refine pc_chk (fun _ => ?_) | with_reducible refine pc_if (fun _ => ?_) (fun _ => ?_) | with_reducible refine pc_on ?_ (fun _ _ => ?_) | with_reducible refine xl_lt (by assumption) (fun _ _ => ?_) | with_reducible refine xl_ltq (by assumption) (by omega) (fun _ _ => ?_) | with_reducible refine pf_b1 (fun _ => ?_) | with_reducible refine xf_ltv (fun _ => ?_)
set_option maxHeartbeats 4000000 in
theorem lx_Tape_addFour {X : Nat → Prop} {S0 : SS}  : ∀ (S : SS) (v1 : Int), LX X S0 S → pc (f_Tape_addFour S v1) (LX X S0) := by
  intro S v1 h
  unfold f_Tape_addFour
  repeat' first | with_reducible exact lxl_Tape_addFour_3  _ FU _ _ (by assumption) | with_reducible unfold f_Tape_addFour_49 | with_reducible exact pc_some (by assumption) | with_reducible exact pc_none | with_reducible refine pc_chk (fun _ => ?_) | with_reducible refine pc_if (fun _ => ?_) (fun _ => ?_) | with_reducible refine pc_on ?_ (fun _ _ => ?_) | with_reducible refine xl_lt (by assumption) (fun _ _ => ?_) | with_reducible refine xl_ltq (by assumption) (by omega) (fun _ _ => ?_) | with_reducible refine pf_b1 (fun _ => ?_) | with_reducible refine xf_ltv (fun _ => ?_)
set_option maxHeartbeats 4000000 in
theorem lx_Sheet_add {X : Nat → Prop} {S0 : SS}  {q0 : Nat} (x_q0 : X (q0 + 1)) : ∀ (S : SS) (w1 : Int64), LX X S0 S → pc (f_Sheet_add S q0 w1) (LX X S0) := by
  intro S w1 h
  unfold f_Sheet_add
  repeat' first | with_reducible exact pc_some (by assumption) | with_reducible exact pc_none | with_reducible refine pc_chk (fun _ => ?_) | with_reducible refine pc_if (fun _ => ?_) (fun _ => ?_) | with_reducible refine pc_on ?_ (fun _ _ => ?_) | with_reducible refine xl_lt (by assumption) (fun _ _ => ?_) | with_reducible refine xl_lts (by assumption) (by first | exact x_q0) (fun _ _ => ?_) | with_reducible refine xl_ltq (by assumption) (by omega) (fun _ _ => ?_) | with_reducible refine pf_b1 (fun _ => ?_) | with_reducible refine xf_ltv (fun _ => ?_)
set_option maxHeartbeats 4000000 in
theorem lxl_Sheet_addAll_2 {X : Nat → Prop} {S0 : SS}  {q0 : Nat} (x_q0 : X (q0 + 1)) (q1 : Nat)  : ∀ (n : Nat) (S : SS) (v2_ : Int), LX X S0 S → pc (f_Sheet_addAll_2 q0 q1 n S v2_) (LX X S0) := by
  intro n
  induction n with
  | zero => intro S v2_ h r e; exact absurd e (by simp [f_Sheet_addAll_2])
  | succ n ih =>
    intro S v2_ h
    show pc (f_Sheet_addAll_2_b q0 q1 (f_Sheet_addAll_2 q0 q1 n) S v2_) _
    unfold f_Sheet_addAll_2_b
    repeat' first | with_reducible exact ih _ _ (by assumption) | with_reducible exact pc_some (by assumption) | with_reducible exact pc_none | with_reducible refine pc_chk (fun _ => ?_) | with_reducible refine pc_if (fun _ => ?_) (fun _ => ?_) | with_reducible refine pc_on ?_ (fun _ _ => ?_) | with_reducible refine pc_b1 (lx_Sheet_add (x_q0 := (by first | exact x_q0)) _ _ (by assumption)) (fun _ _ => ?_) | with_reducible refine xl_lt (by assumption) (fun _ _ => ?_) | with_reducible refine xl_lts (by assumption) (by first | exact x_q0) (fun _ _ => ?_) | with_reducible refine xl_ltq (by assumption) (by omega) (fun _ _ => ?_) | with_reducible refine pf_b1 (fun _ => ?_) | with_reducible refine xf_ltv (fun _ => ?_)
set_option maxHeartbeats 4000000 in
theorem lx_Sheet_addAll {X : Nat → Prop} {S0 : SS}  {q0 : Nat} (x_q0 : X (q0 + 1)) : ∀ (S : SS) (q1 : Nat), LX X S0 S → pc (f_Sheet_addAll S q0 q1) (LX X S0) := by
  intro S q1 h
  unfold f_Sheet_addAll
  repeat' first | with_reducible exact lxl_Sheet_addAll_2 (x_q0 := x_q0) _ FU _ _ (by assumption) | with_reducible exact pc_some (by assumption) | with_reducible exact pc_none | with_reducible refine pc_chk (fun _ => ?_) | with_reducible refine pc_if (fun _ => ?_) (fun _ => ?_) | with_reducible refine pc_on ?_ (fun _ _ => ?_) | with_reducible refine pc_b1 (lx_Sheet_add (x_q0 := (by first | exact x_q0)) _ _ (by assumption)) (fun _ _ => ?_) | with_reducible refine xl_lt (by assumption) (fun _ _ => ?_) | with_reducible refine xl_lts (by assumption) (by first | exact x_q0) (fun _ _ => ?_) | with_reducible refine xl_ltq (by assumption) (by omega) (fun _ _ => ?_) | with_reducible refine pf_b1 (fun _ => ?_) | with_reducible refine xf_ltv (fun _ => ?_)
set_option maxHeartbeats 4000000 in
theorem lx_Sheet_copyFrom {X : Nat → Prop} {S0 : SS}  {q0 : Nat} (x_q0 : X (q0 + 1)) : ∀ (S : SS) (q1 : Nat), LX X S0 S → pc (f_Sheet_copyFrom S q0 q1) (LX X S0) := by
  intro S q1 h
  unfold f_Sheet_copyFrom
  repeat' first | with_reducible exact pc_some (by assumption) | with_reducible exact pc_none | with_reducible refine pc_chk (fun _ => ?_) | with_reducible refine pc_if (fun _ => ?_) (fun _ => ?_) | with_reducible refine pc_on ?_ (fun _ _ => ?_) | with_reducible refine xl_let (lx_Sheet_clear  _ _ (by assumption)) (fun _ _ => ?_) | with_reducible refine pc_b1 (lx_Sheet_addAll (x_q0 := (by first | exact x_q0)) _ _ (by assumption)) (fun _ _ => ?_) | with_reducible refine xl_lt (by assumption) (fun _ _ => ?_) | with_reducible refine xl_lts (by assumption) (by first | exact x_q0) (fun _ _ => ?_) | with_reducible refine xl_ltq (by assumption) (by omega) (fun _ _ => ?_) | with_reducible refine pf_b1 (fun _ => ?_) | with_reducible refine xf_ltv (fun _ => ?_)
set_option maxHeartbeats 4000000 in
theorem lx_Bill_setPrice {X : Nat → Prop} {S0 : SS}  : ∀ (S : SS) (v1 : Int) (v2 : Int), LX X S0 S → pc (f_Bill_setPrice S v1 v2) (fun u => LX X S0 u.2) := by
  intro S v1 v2 h
  unfold f_Bill_setPrice
  repeat' first | with_reducible exact pc_some (by assumption) | with_reducible exact pc_none | with_reducible refine pc_chk (fun _ => ?_) | with_reducible refine pc_if (fun _ => ?_) (fun _ => ?_) | with_reducible refine pc_on ?_ (fun _ _ => ?_) | with_reducible refine xl_lt (by assumption) (fun _ _ => ?_) | with_reducible refine xl_ltq (by assumption) (by omega) (fun _ _ => ?_) | with_reducible refine pf_b1 (fun _ => ?_) | with_reducible refine xf_ltv (fun _ => ?_)
set_option maxHeartbeats 4000000 in
theorem lxl_Pile_accept_30 {X : Nat → Prop} {S0 : SS}    : ∀ (n : Nat) (S : SS) (v1_ : Int) (v2_ : Int), LX X S0 S → pc (f_Pile_accept_30  n S v1_ v2_) (fun u => LX X S0 u.2) := by
  intro n
  induction n with
  | zero => intro S v1_ v2_ h r e; exact absurd e (by simp [f_Pile_accept_30])
  | succ n ih =>
    intro S v1_ v2_ h
    show pc (f_Pile_accept_30_b (f_Pile_accept_30 n) S v1_ v2_) _
    unfold f_Pile_accept_30_b
    repeat' first | with_reducible exact ih _ _ _ (by assumption) | with_reducible unfold f_Pile_accept_81 | with_reducible exact pc_some (by assumption) | with_reducible exact pc_none | with_reducible refine pc_chk (fun _ => ?_) | with_reducible refine pc_if (fun _ => ?_) (fun _ => ?_) | with_reducible refine pc_on ?_ (fun _ _ => ?_) | with_reducible refine xl_let (lx_Mark_voidByStet  _ _ _ (by omega) (by assumption)) (fun _ _ => ?_) | with_reducible refine xl_lt (by assumption) (fun _ _ => ?_) | with_reducible refine xl_ltq (by assumption) (by omega) (fun _ _ => ?_) | with_reducible refine pf_b1 (fun _ => ?_) | with_reducible refine xf_ltv (fun _ => ?_)
set_option maxHeartbeats 4000000 in
theorem lx_Pile_accept {X : Nat → Prop} {S0 : SS}  : ∀ (S : SS) , LX X S0 S → pc (f_Pile_accept S ) (fun u => LX X S0 u.2) := by
  intro S h
  unfold f_Pile_accept
  repeat' first | with_reducible exact lxl_Pile_accept_30  FU _ _ _ (by assumption) | with_reducible unfold f_Pile_accept_81 | with_reducible exact pc_some (by assumption) | with_reducible exact pc_none | with_reducible refine pc_chk (fun _ => ?_) | with_reducible refine pc_if (fun _ => ?_) (fun _ => ?_) | with_reducible refine pc_on ?_ (fun _ _ => ?_) | with_reducible refine xl_let (lx_Mark_voidByStet  _ _ _ (by omega) (by assumption)) (fun _ _ => ?_) | with_reducible refine xl_lt (by assumption) (fun _ _ => ?_) | with_reducible refine xl_ltq (by assumption) (by omega) (fun _ _ => ?_) | with_reducible refine pf_b1 (fun _ => ?_) | with_reducible refine xf_ltv (fun _ => ?_)
set_option maxHeartbeats 4000000 in
theorem lx_Setter_mind {X : Nat → Prop} {S0 : SS}  : ∀ (S : SS) (v1 : Int) (v2 : Int), LX X S0 S → pc (f_Setter_mind S v1 v2) (LX X S0) := by
  intro S v1 v2 h
  unfold f_Setter_mind
  repeat' first | with_reducible exact pc_some (by assumption) | with_reducible exact pc_none | with_reducible refine pc_chk (fun _ => ?_) | with_reducible refine pc_if (fun _ => ?_) (fun _ => ?_) | with_reducible refine pc_on ?_ (fun _ _ => ?_) | with_reducible refine xl_lt (by assumption) (fun _ _ => ?_) | with_reducible refine xl_ltq (by assumption) (by omega) (fun _ _ => ?_) | with_reducible refine pf_b1 (fun _ => ?_) | with_reducible refine xf_ltv (fun _ => ?_)
set_option maxHeartbeats 4000000 in
theorem lxl_Setter_takeDone_7 {X : Nat → Prop} {S0 : SS}  (v2 : Int)  : ∀ (n : Nat) (S : SS) (v3_ : Int), LX X S0 S → pc (f_Setter_takeDone_7 v2 n S v3_) (LX X S0) := by
  intro n
  induction n with
  | zero => intro S v3_ h r e; exact absurd e (by simp [f_Setter_takeDone_7])
  | succ n ih =>
    intro S v3_ h
    show pc (f_Setter_takeDone_7_b v2 (f_Setter_takeDone_7 v2 n) S v3_) _
    unfold f_Setter_takeDone_7_b
    repeat' first | with_reducible exact ih _ _ (by assumption) | with_reducible unfold f_Setter_takeDone_101 | with_reducible unfold f_Setter_takeDone_35 | with_reducible unfold f_Setter_takeDone_34 | with_reducible exact pc_some (by assumption) | with_reducible exact pc_none | with_reducible refine pc_chk (fun _ => ?_) | with_reducible refine pc_if (fun _ => ?_) (fun _ => ?_) | with_reducible refine pc_on ?_ (fun _ _ => ?_) | with_reducible refine xl_lt (by assumption) (fun _ _ => ?_) | with_reducible refine xl_ltq (by assumption) (by omega) (fun _ _ => ?_) | with_reducible refine pf_b1 (fun _ => ?_) | with_reducible refine xf_ltv (fun _ => ?_)
set_option maxHeartbeats 4000000 in
theorem lx_Setter_takeDone {X : Nat → Prop} {S0 : SS}  : ∀ (S : SS) (v2 : Int), LX X S0 S → pc (f_Setter_takeDone S v2) (LX X S0) := by
  intro S v2 h
  unfold f_Setter_takeDone
  repeat' first | with_reducible exact lxl_Setter_takeDone_7  _ FU _ _ (by assumption) | with_reducible unfold f_Setter_takeDone_101 | with_reducible unfold f_Setter_takeDone_35 | with_reducible unfold f_Setter_takeDone_34 | with_reducible exact pc_some (by assumption) | with_reducible exact pc_none | with_reducible refine pc_chk (fun _ => ?_) | with_reducible refine pc_if (fun _ => ?_) (fun _ => ?_) | with_reducible refine pc_on ?_ (fun _ _ => ?_) | with_reducible refine xl_lt (by assumption) (fun _ _ => ?_) | with_reducible refine xl_ltq (by assumption) (by omega) (fun _ _ => ?_) | with_reducible refine pf_b1 (fun _ => ?_) | with_reducible refine xf_ltv (fun _ => ?_)
set_option maxHeartbeats 4000000 in
theorem lxl_Ruler_fillRow_101 {X : Nat → Prop} {S0 : SS}  (v1 : Int) (w2 : Int64) (q3 : Nat) (v4 : Int) (v5 : Int)  : ∀ (n : Nat) (S : SS) (v8_ : Int) (v9_ : Int) (v10_ : Int) (v11_ : Int), LX X S0 S → pc (f_Ruler_fillRow_101 v1 w2 q3 v4 v5 n S v8_ v9_ v10_ v11_) (fun u => LX X S0 u.2) := by
  intro n
  induction n with
  | zero => intro S v8_ v9_ v10_ v11_ h r e; exact absurd e (by simp [f_Ruler_fillRow_101])
  | succ n ih =>
    intro S v8_ v9_ v10_ v11_ h
    show pc (f_Ruler_fillRow_101_b v1 w2 q3 v4 v5 (f_Ruler_fillRow_101 v1 w2 q3 v4 v5 n) S v8_ v9_ v10_ v11_) _
    unfold f_Ruler_fillRow_101_b
    repeat' first | with_reducible exact ih _ _ _ _ _ (by assumption) | with_reducible unfold f_Ruler_fillRow_174 | with_reducible unfold f_Ruler_fillRow_85 | with_reducible exact pc_some (by assumption) | with_reducible exact pc_none | with_reducible refine pc_chk (fun _ => ?_) | with_reducible refine pc_if (fun _ => ?_) (fun _ => ?_) | with_reducible refine pc_on ?_ (fun _ _ => ?_) | with_reducible refine xl_lt (by assumption) (fun _ _ => ?_) | with_reducible refine xl_ltq (by assumption) (by omega) (fun _ _ => ?_) | with_reducible refine pf_b1 (fun _ => ?_) | with_reducible refine xf_ltv (fun _ => ?_)
set_option maxHeartbeats 4000000 in
theorem lx_Ruler_fillRow {X : Nat → Prop} {S0 : SS}  : ∀ (S : SS) (v1 : Int) (w2 : Int64) (q3 : Nat) (v4 : Int) (v5 : Int), LX X S0 S → pc (f_Ruler_fillRow S v1 w2 q3 v4 v5) (fun u => LX X S0 u.2) := by
  intro S v1 w2 q3 v4 v5 h
  unfold f_Ruler_fillRow
  repeat' first | with_reducible exact lxl_Ruler_fillRow_101  _ _ _ _ _ FU _ _ _ _ _ (by assumption) | with_reducible unfold f_Ruler_fillRow_174 | with_reducible unfold f_Ruler_fillRow_85 | with_reducible exact pc_some (by assumption) | with_reducible exact pc_none | with_reducible refine pc_chk (fun _ => ?_) | with_reducible refine pc_if (fun _ => ?_) (fun _ => ?_) | with_reducible refine pc_on ?_ (fun _ _ => ?_) | with_reducible refine xl_lt (by assumption) (fun _ _ => ?_) | with_reducible refine xl_ltq (by assumption) (by omega) (fun _ _ => ?_) | with_reducible refine pf_b1 (fun _ => ?_) | with_reducible refine xf_ltv (fun _ => ?_)
set_option maxHeartbeats 4000000 in
theorem lxl_Ruler_measure_85 {X : Nat → Prop} {S0 : SS}  (q1 : Nat) (v2 : Int) (q3 : Nat) (v4 : Int) (v5 : Int)  : ∀ (n : Nat) (S : SS) (v6_ : Int) (v7_ : Int) (v8_ : Int) (v9_ : Int), LX X S0 S → pc (f_Ruler_measure_85 q1 v2 q3 v4 v5 n S v6_ v7_ v8_ v9_) (fun u => LX X S0 u.2) := by
  intro n
  induction n with
  | zero => intro S v6_ v7_ v8_ v9_ h r e; exact absurd e (by simp [f_Ruler_measure_85])
  | succ n ih =>
    intro S v6_ v7_ v8_ v9_ h
    show pc (f_Ruler_measure_85_b q1 v2 q3 v4 v5 (f_Ruler_measure_85 q1 v2 q3 v4 v5 n) S v6_ v7_ v8_ v9_) _
    unfold f_Ruler_measure_85_b
    repeat' first | with_reducible exact ih _ _ _ _ _ (by assumption) | with_reducible exact pc_some (by assumption) | with_reducible exact pc_none | with_reducible refine pc_chk (fun _ => ?_) | with_reducible refine pc_if (fun _ => ?_) (fun _ => ?_) | with_reducible refine pc_on ?_ (fun _ _ => ?_) | with_reducible refine pc_b2 (lx_Ruler_fillRow  _ _ _ _ _ _ (by assumption)) (fun _ _ _ => ?_) | with_reducible refine xl_lt (by assumption) (fun _ _ => ?_) | with_reducible refine xl_ltq (by assumption) (by omega) (fun _ _ => ?_) | with_reducible refine pf_b1 (fun _ => ?_) | with_reducible refine xf_ltv (fun _ => ?_)
set_option maxHeartbeats 4000000 in
theorem lxl_Ruler_measure_60 {X : Nat → Prop} {S0 : SS}  (q1 : Nat) (v2 : Int) (q3 : Nat) (v4 : Int) (v5 : Int)  : ∀ (n : Nat) (S : SS) (v6_ : Int) (v7_ : Int) (v8_ : Int) (v9_ : Int), LX X S0 S → pc (f_Ruler_measure_60 q1 v2 q3 v4 v5 n S v6_ v7_ v8_ v9_) (fun u => LX X S0 u.2) := by
  intro n
  induction n with
  | zero => intro S v6_ v7_ v8_ v9_ h r e; exact absurd e (by simp [f_Ruler_measure_60])
  | succ n ih =>
    intro S v6_ v7_ v8_ v9_ h
    show pc (f_Ruler_measure_60_b q1 v2 q3 v4 v5 (f_Ruler_measure_60 q1 v2 q3 v4 v5 n) S v6_ v7_ v8_ v9_) _
    unfold f_Ruler_measure_60_b
    repeat' first | with_reducible exact ih _ _ _ _ _ (by assumption) | with_reducible exact lxl_Ruler_measure_85  _ _ _ _ _ FU _ _ _ _ _ (by assumption) | with_reducible exact pc_some (by assumption) | with_reducible exact pc_none | with_reducible refine pc_chk (fun _ => ?_) | with_reducible refine pc_if (fun _ => ?_) (fun _ => ?_) | with_reducible refine pc_on ?_ (fun _ _ => ?_) | with_reducible refine pc_b2 (lx_Ruler_fillRow  _ _ _ _ _ _ (by assumption)) (fun _ _ _ => ?_) | with_reducible refine xl_lt (by assumption) (fun _ _ => ?_) | with_reducible refine xl_ltq (by assumption) (by omega) (fun _ _ => ?_) | with_reducible refine pf_b1 (fun _ => ?_) | with_reducible refine xf_ltv (fun _ => ?_)
set_option maxHeartbeats 4000000 in
theorem lx_Ruler_measure {X : Nat → Prop} {S0 : SS}  : ∀ (S : SS) (q1 : Nat) (v2 : Int) (q3 : Nat) (v4 : Int) (v5 : Int), LX X S0 S → pc (f_Ruler_measure S q1 v2 q3 v4 v5) (fun u => LX X S0 u.2) := by
  intro S q1 v2 q3 v4 v5 h
  unfold f_Ruler_measure
  repeat' first | with_reducible exact lxl_Ruler_measure_85  _ _ _ _ _ FU _ _ _ _ _ (by assumption) | with_reducible exact lxl_Ruler_measure_60  _ _ _ _ _ FU _ _ _ _ _ (by assumption) | with_reducible exact pc_some (by assumption) | with_reducible exact pc_none | with_reducible refine pc_chk (fun _ => ?_) | with_reducible refine pc_if (fun _ => ?_) (fun _ => ?_) | with_reducible refine pc_on ?_ (fun _ _ => ?_) | with_reducible refine pc_b2 (lx_Ruler_fillRow  _ _ _ _ _ _ (by assumption)) (fun _ _ _ => ?_) | with_reducible refine xl_lt (by assumption) (fun _ _ => ?_) | with_reducible refine xl_ltq (by assumption) (by omega) (fun _ _ => ?_) | with_reducible refine pf_b1 (fun _ => ?_) | with_reducible refine xf_ltv (fun _ => ?_)
set_option maxHeartbeats 4000000 in
theorem lxl_Holding_listMissed_7 {X : Nat → Prop} {S0 : SS}    : ∀ (n : Nat) (S : SS) (v2_ : Int), LX X S0 S → pc (f_Holding_listMissed_7  n S v2_) (LX X S0) := by
  intro n
  induction n with
  | zero => intro S v2_ h r e; exact absurd e (by simp [f_Holding_listMissed_7])
  | succ n ih =>
    intro S v2_ h
    show pc (f_Holding_listMissed_7_b (f_Holding_listMissed_7 n) S v2_) _
    unfold f_Holding_listMissed_7_b
    repeat' first | with_reducible exact ih _ _ (by assumption) | with_reducible unfold f_Holding_listMissed_61 | with_reducible exact pc_some (by assumption) | with_reducible exact pc_none | with_reducible refine pc_chk (fun _ => ?_) | with_reducible refine pc_if (fun _ => ?_) (fun _ => ?_) | with_reducible refine pc_on ?_ (fun _ _ => ?_) | with_reducible refine xl_lt (by assumption) (fun _ _ => ?_) | with_reducible refine xl_ltq (by assumption) (by omega) (fun _ _ => ?_) | with_reducible refine pf_b1 (fun _ => ?_) | with_reducible refine xf_ltv (fun _ => ?_)
set_option maxHeartbeats 4000000 in
theorem lx_Holding_listMissed {X : Nat → Prop} {S0 : SS}  : ∀ (S : SS) , LX X S0 S → pc (f_Holding_listMissed S ) (LX X S0) := by
  intro S h
  unfold f_Holding_listMissed
  repeat' first | with_reducible exact lxl_Holding_listMissed_7  FU _ _ (by assumption) | with_reducible unfold f_Holding_listMissed_61 | with_reducible exact pc_some (by assumption) | with_reducible exact pc_none | with_reducible refine pc_chk (fun _ => ?_) | with_reducible refine pc_if (fun _ => ?_) (fun _ => ?_) | with_reducible refine pc_on ?_ (fun _ _ => ?_) | with_reducible refine xl_lt (by assumption) (fun _ _ => ?_) | with_reducible refine xl_ltq (by assumption) (by omega) (fun _ _ => ?_) | with_reducible refine pf_b1 (fun _ => ?_) | with_reducible refine xf_ltv (fun _ => ?_)
set_option maxHeartbeats 4000000 in
theorem lx_Holding_note {X : Nat → Prop} {S0 : SS}  : ∀ (S : SS) (v1 : Int) (v2 : Int) (v3 : Int), LX X S0 S → pc (f_Holding_note S v1 v2 v3) (LX X S0) := by
  intro S v1 v2 v3 h
  unfold f_Holding_note
  repeat' first | with_reducible exact pc_some (by assumption) | with_reducible exact pc_none | with_reducible refine pc_chk (fun _ => ?_) | with_reducible refine pc_if (fun _ => ?_) (fun _ => ?_) | with_reducible refine pc_on ?_ (fun _ _ => ?_) | with_reducible refine xl_lt (by assumption) (fun _ _ => ?_) | with_reducible refine xl_ltq (by assumption) (by omega) (fun _ _ => ?_) | with_reducible refine pf_b1 (fun _ => ?_) | with_reducible refine xf_ltv (fun _ => ?_)
set_option maxHeartbeats 4000000 in
theorem lxl_Holding_listChanges_33 {X : Nat → Prop} {S0 : SS}  (q1 : Nat)  : ∀ (n : Nat) (S : SS) (v3_ : Int) (v4_ : Int) (v5_ : Int) (v6_ : Int) (v7_ : Int), LX X S0 S → pc (f_Holding_listChanges_33 q1 n S v3_ v4_ v5_ v6_ v7_) (LX X S0) := by
  intro n
  induction n with
  | zero => intro S v3_ v4_ v5_ v6_ v7_ h r e; exact absurd e (by simp [f_Holding_listChanges_33])
  | succ n ih =>
    intro S v3_ v4_ v5_ v6_ v7_ h
    show pc (f_Holding_listChanges_33_b q1 (f_Holding_listChanges_33 q1 n) S v3_ v4_ v5_ v6_ v7_) _
    unfold f_Holding_listChanges_33_b
    repeat' first | with_reducible exact ih _ _ _ _ _ _ (by assumption) | with_reducible unfold f_Holding_listChanges_224 | with_reducible unfold f_Holding_listChanges_213 | with_reducible unfold f_Holding_listChanges_167 | with_reducible unfold f_Holding_listChanges_119 | with_reducible unfold f_Holding_listChanges_85 | with_reducible unfold f_Holding_listChanges_84 | with_reducible unfold f_Holding_listChanges_60 | with_reducible exact pc_some (by assumption) | with_reducible exact pc_none | with_reducible refine pc_chk (fun _ => ?_) | with_reducible refine pc_if (fun _ => ?_) (fun _ => ?_) | with_reducible refine pc_on ?_ (fun _ _ => ?_) | with_reducible refine pc_b1 (lx_Holding_note  _ _ _ _ (by assumption)) (fun _ _ => ?_) | with_reducible refine pc_b2 (lx_Ruler_measure  _ _ _ _ _ _ (by assumption)) (fun _ _ _ => ?_) | with_reducible refine xl_lt (by assumption) (fun _ _ => ?_) | with_reducible refine xl_ltq (by assumption) (by omega) (fun _ _ => ?_) | with_reducible refine pf_b1 (fun _ => ?_) | with_reducible refine xf_ltv (fun _ => ?_)
set_option maxHeartbeats 4000000 in
theorem lx_Holding_listChanges {X : Nat → Prop} {S0 : SS}  : ∀ (S : SS) (q1 : Nat), LX X S0 S → pc (f_Holding_listChanges S q1) (LX X S0) := by
  intro S q1 h
  unfold f_Holding_listChanges
  repeat' first | with_reducible exact lxl_Holding_listChanges_33  _ FU _ _ _ _ _ _ (by assumption) | with_reducible unfold f_Holding_listChanges_224 | with_reducible unfold f_Holding_listChanges_213 | with_reducible unfold f_Holding_listChanges_167 | with_reducible unfold f_Holding_listChanges_119 | with_reducible unfold f_Holding_listChanges_85 | with_reducible unfold f_Holding_listChanges_84 | with_reducible unfold f_Holding_listChanges_60 | with_reducible exact pc_some (by assumption) | with_reducible exact pc_none | with_reducible refine pc_chk (fun _ => ?_) | with_reducible refine pc_if (fun _ => ?_) (fun _ => ?_) | with_reducible refine pc_on ?_ (fun _ _ => ?_) | with_reducible refine pc_b1 (lx_Holding_note  _ _ _ _ (by assumption)) (fun _ _ => ?_) | with_reducible refine pc_b2 (lx_Ruler_measure  _ _ _ _ _ _ (by assumption)) (fun _ _ _ => ?_) | with_reducible refine xl_lt (by assumption) (fun _ _ => ?_) | with_reducible refine xl_ltq (by assumption) (by omega) (fun _ _ => ?_) | with_reducible refine pf_b1 (fun _ => ?_) | with_reducible refine xf_ltv (fun _ => ?_)
set_option maxHeartbeats 4000000 in
theorem lx_SheetReader_addWord {X : Nat → Prop} {S0 : SS} (x_176 : X 176) : ∀ (S : SS) (w1 : Int64) (v2 : Int), LX X S0 S → pc (f_SheetReader_addWord S w1 v2) (LX X S0) := by
  intro S w1 v2 h
  unfold f_SheetReader_addWord
  repeat' first | with_reducible exact pc_some (by assumption) | with_reducible exact pc_none | with_reducible refine pc_chk (fun _ => ?_) | with_reducible refine pc_if (fun _ => ?_) (fun _ => ?_) | with_reducible refine pc_on ?_ (fun _ _ => ?_) | with_reducible refine pc_b1 (lx_Sheet_add (x_q0 := (by first | exact x_176)) _ _ (by assumption)) (fun _ _ => ?_) | with_reducible refine xl_lt (by assumption) (fun _ _ => ?_) | with_reducible refine xl_lts (by assumption) (by first | exact x_176) (fun _ _ => ?_) | with_reducible refine xl_ltq (by assumption) (by omega) (fun _ _ => ?_) | with_reducible refine pf_b1 (fun _ => ?_) | with_reducible refine xf_ltv (fun _ => ?_)
set_option maxHeartbeats 4000000 in
theorem lx_MP_feed {X : Nat → Prop} {S0 : SS}  : ∀ (S : SS) (v1 : Int) (v2 : Int) (v3 : Int) (v4 : Int) (v5 : Int), LX X S0 S → pc (f_MP_feed S v1 v2 v3 v4 v5) (fun u => LX X S0 u.2) := by
  intro S v1 v2 v3 v4 v5 h
  unfold f_MP_feed
  repeat' first | with_reducible exact pc_some (by assumption) | with_reducible exact pc_none | with_reducible refine pc_chk (fun _ => ?_) | with_reducible refine pc_if (fun _ => ?_) (fun _ => ?_) | with_reducible refine pc_on ?_ (fun _ _ => ?_) | with_reducible refine pc_b1 (lx_Tape_addFour  _ _ (by assumption)) (fun _ _ => ?_) | with_reducible refine xl_lt (by assumption) (fun _ _ => ?_) | with_reducible refine xl_ltq (by assumption) (by omega) (fun _ _ => ?_) | with_reducible refine pf_b1 (fun _ => ?_) | with_reducible refine xf_ltv (fun _ => ?_)
set_option maxHeartbeats 4000000 in
theorem lx_MP_end {X : Nat → Prop} {S0 : SS}  : ∀ (S : SS) (v1 : Int), LX X S0 S → pc (f_MP_end S v1) (fun u => LX X S0 u.2) := by
  intro S v1 h
  unfold f_MP_end
  repeat' first | with_reducible exact pc_some (by assumption) | with_reducible exact pc_none | with_reducible refine pc_chk (fun _ => ?_) | with_reducible refine pc_if (fun _ => ?_) (fun _ => ?_) | with_reducible refine pc_on ?_ (fun _ _ => ?_) | with_reducible refine xl_lt (by assumption) (fun _ _ => ?_) | with_reducible refine xl_ltq (by assumption) (by omega) (fun _ _ => ?_) | with_reducible refine pf_b1 (fun _ => ?_) | with_reducible refine xf_ltv (fun _ => ?_)
set_option maxHeartbeats 4000000 in
theorem lx_MP_costs {X : Nat → Prop} {S0 : SS}  : ∀ (S : SS) (v1 : Int) (v2 : Int), LX X S0 S → pc (f_MP_costs S v1 v2) (fun u => LX X S0 u.2) := by
  intro S v1 v2 h
  unfold f_MP_costs
  repeat' first | with_reducible exact pc_some (by assumption) | with_reducible exact pc_none | with_reducible refine pc_chk (fun _ => ?_) | with_reducible refine pc_if (fun _ => ?_) (fun _ => ?_) | with_reducible refine pc_on ?_ (fun _ _ => ?_) | with_reducible refine xl_lt (by assumption) (fun _ _ => ?_) | with_reducible refine xl_ltq (by assumption) (by omega) (fun _ _ => ?_) | with_reducible refine pf_b1 (fun _ => ?_) | with_reducible refine xf_ltv (fun _ => ?_)
set_option maxHeartbeats 4000000 in
theorem lx_MP_distance {X : Nat → Prop} {S0 : SS}  : ∀ (S : SS) (v1 : Int) (v2 : Int), LX X S0 S → pc (f_MP_distance S v1 v2) (fun u => LX X S0 u.2) := by
  intro S v1 v2 h
  unfold f_MP_distance
  repeat' first | with_reducible exact pc_some (by assumption) | with_reducible exact pc_none | with_reducible refine pc_chk (fun _ => ?_) | with_reducible refine pc_if (fun _ => ?_) (fun _ => ?_) | with_reducible refine pc_on ?_ (fun _ _ => ?_) | with_reducible refine pc_b2 (lx_Ruler_measure  _ _ _ _ _ _ (by assumption)) (fun _ _ _ => ?_) | with_reducible refine xl_lt (by assumption) (fun _ _ => ?_) | with_reducible refine xl_ltq (by assumption) (by omega) (fun _ _ => ?_) | with_reducible refine pf_b1 (fun _ => ?_) | with_reducible refine xf_ltv (fun _ => ?_)
set_option maxHeartbeats 4000000 in
theorem lx_MP_error {X : Nat → Prop} {S0 : SS}  : ∀ (S : SS) (v1 : Int) (v2 : Int), LX X S0 S → pc (f_MP_error S v1 v2) (fun u => LX X S0 u.2) := by
  intro S v1 v2 h
  unfold f_MP_error
  repeat' first | with_reducible exact pc_some (by assumption) | with_reducible exact pc_none | with_reducible refine pc_chk (fun _ => ?_) | with_reducible refine pc_if (fun _ => ?_) (fun _ => ?_) | with_reducible refine pc_on ?_ (fun _ _ => ?_) | with_reducible refine xl_lt (by assumption) (fun _ _ => ?_) | with_reducible refine xl_ltq (by assumption) (by omega) (fun _ _ => ?_) | with_reducible refine pf_b1 (fun _ => ?_) | with_reducible refine xf_ltv (fun _ => ?_)
set_option maxHeartbeats 4000000 in
theorem lx_MP_price {X : Nat → Prop} {S0 : SS}  : ∀ (S : SS) (v1 : Int) (v2 : Int), LX X S0 S → pc (f_MP_price S v1 v2) (fun u => LX X S0 u.2) := by
  intro S v1 v2 h
  unfold f_MP_price
  repeat' first | with_reducible exact pc_some (by assumption) | with_reducible exact pc_none | with_reducible refine pc_chk (fun _ => ?_) | with_reducible refine pc_if (fun _ => ?_) (fun _ => ?_) | with_reducible refine pc_on ?_ (fun _ _ => ?_) | with_reducible refine pc_b2 (lx_Bill_setPrice  _ _ _ (by assumption)) (fun _ _ _ => ?_) | with_reducible refine xl_lt (by assumption) (fun _ _ => ?_) | with_reducible refine xl_ltq (by assumption) (by omega) (fun _ _ => ?_) | with_reducible refine pf_b1 (fun _ => ?_) | with_reducible refine xf_ltv (fun _ => ?_)
set_option maxHeartbeats 4000000 in
theorem lxl_SheetReader_readProof_20 {X : Nat → Prop} {S0 : SS} (x_176 : X 176) (v2 : Int)  : ∀ (n : Nat) (S : SS) (w4_ : Int64) (v6_ : Int) (v7_ : Int), LX X S0 S → pc (f_SheetReader_readProof_20 v2 n S w4_ v6_ v7_) (fun u => LX X S0 u.2) := by
  intro n
  induction n with
  | zero => intro S w4_ v6_ v7_ h r e; exact absurd e (by simp [f_SheetReader_readProof_20])
  | succ n ih =>
    intro S w4_ v6_ v7_ h
    show pc (f_SheetReader_readProof_20_b v2 (f_SheetReader_readProof_20 v2 n) S w4_ v6_ v7_) _
    unfold f_SheetReader_readProof_20_b
    repeat' first | with_reducible exact ih _ _ _ _ (by assumption) | with_reducible unfold f_SheetReader_readProof_77 | with_reducible unfold f_SheetReader_readProof_123 | with_reducible unfold f_SheetReader_readProof_109 | with_reducible exact pc_some (by assumption) | with_reducible exact pc_none | with_reducible refine pc_chk (fun _ => ?_) | with_reducible refine pc_if (fun _ => ?_) (fun _ => ?_) | with_reducible refine pc_on ?_ (fun _ _ => ?_) | with_reducible refine pc_b2 (lx_Fault_tellOf  _ _ _ (by assumption)) (fun _ _ _ => ?_) | with_reducible refine pc_b1 (lx_SheetReader_addWord (x_176 := x_176) _ _ _ (by assumption)) (fun _ _ => ?_) | with_reducible refine xl_let (lx_Sheet_clear  _ _ (by assumption)) (fun _ _ => ?_) | with_reducible refine xl_let (lx_Fault_clear  _ (by assumption)) (fun _ _ => ?_) | with_reducible refine xl_lt (by assumption) (fun _ _ => ?_) | with_reducible refine xl_lts (by assumption) (by first | exact x_176) (fun _ _ => ?_) | with_reducible refine xl_ltq (by assumption) (by omega) (fun _ _ => ?_) | with_reducible refine pf_b1 (fun _ => ?_) | with_reducible refine xf_ltv (fun _ => ?_)
set_option maxHeartbeats 4000000 in
theorem lx_SheetReader_readProof {X : Nat → Prop} {S0 : SS} (x_176 : X 176) : ∀ (S : SS) (v2 : Int), LX X S0 S → pc (f_SheetReader_readProof S v2) (fun u => LX X S0 u.2) := by
  intro S v2 h
  unfold f_SheetReader_readProof
  repeat' first | with_reducible exact lxl_SheetReader_readProof_20 (x_176 := x_176) _ FU _ _ _ _ (by assumption) | with_reducible unfold f_SheetReader_readProof_77 | with_reducible unfold f_SheetReader_readProof_123 | with_reducible unfold f_SheetReader_readProof_109 | with_reducible exact pc_some (by assumption) | with_reducible exact pc_none | with_reducible refine pc_chk (fun _ => ?_) | with_reducible refine pc_if (fun _ => ?_) (fun _ => ?_) | with_reducible refine pc_on ?_ (fun _ _ => ?_) | with_reducible refine pc_b2 (lx_Fault_tellOf  _ _ _ (by assumption)) (fun _ _ _ => ?_) | with_reducible refine pc_b1 (lx_SheetReader_addWord (x_176 := x_176) _ _ _ (by assumption)) (fun _ _ => ?_) | with_reducible refine xl_let (lx_Sheet_clear  _ _ (by assumption)) (fun _ _ => ?_) | with_reducible refine xl_let (lx_Fault_clear  _ (by assumption)) (fun _ _ => ?_) | with_reducible refine xl_lt (by assumption) (fun _ _ => ?_) | with_reducible refine xl_lts (by assumption) (by first | exact x_176) (fun _ _ => ?_) | with_reducible refine xl_ltq (by assumption) (by omega) (fun _ _ => ?_) | with_reducible refine pf_b1 (fun _ => ?_) | with_reducible refine xf_ltv (fun _ => ?_)
theorem LX_in {X : Nat → Prop} {S0 S : SS} (h : LX X S0 S) : gq S0 178 4 = gq S 178 4 := h.2.symm
theorem lxl_setGap {X : Nat → Prop} {S0 : SS} (x_into : ∀ q, gq S0 178 4 = some q → X (q + 1)) (rk : SS → Int → Int → Int → Option SS) (hrk : ∀ S a b c, LX X S0 S → pc (rk S a b c) (LX X S0)) (v1 v2 : Int) : ∀ (n : Nat) (S : SS) (v3_ : Int), LX X S0 S → pc (f_Setter_setGap_2 rk v1 v2 n S v3_) (LX X S0) := by
  intro n
  induction n with
  | zero => intro S v3_ h r e; exact absurd e (by simp [f_Setter_setGap_2])
  | succ n ih =>
    intro S v3_ h
    show pc (f_Setter_setGap_2_b rk v1 v2 (f_Setter_setGap_2 rk v1 v2 n) S v3_) _
    unfold f_Setter_setGap_2_b
    repeat' first | with_reducible exact ih _ _ (by assumption) | unfold f_Setter_setGap_95 | with_reducible exact pc_some (by assumption) | with_reducible exact pc_none | with_reducible refine pc_chk (fun _ => ?_) | with_reducible refine pc_if (fun _ => ?_) (fun _ => ?_) | with_reducible refine pc_on ?_ (fun _ _ => ?_) | with_reducible refine pc_b1 (lx_Setter_mind _ _ _ (by assumption)) (fun _ _ => ?_) | with_reducible refine pc_b1 (hrk _ _ _ _ (by assumption)) (fun _ _ => ?_) | with_reducible refine pc_b1 (lx_Sheet_addAll (x_q0 := x_into _ ((LX_in (by assumption)).trans (by assumption))) _ _ (by assumption)) (fun _ _ => ?_) | with_reducible refine pf_b1 (fun _ => ?_)
theorem lx_setPiece {X : Nat → Prop} {S0 : SS} (x_into : ∀ q, gq S0 178 4 = some q → X (q + 1)) (rk : SS → Int → Int → Int → Option SS) (hrk : ∀ S a b c, LX X S0 S → pc (rk S a b c) (LX X S0)) (v1 v2 : Int) (S : SS) (h : LX X S0 S) : pc (f_Setter_setPiece rk S v1 v2) (fun u => LX X S0 u.2) := by
  unfold f_Setter_setPiece
  repeat' first | unfold f_Setter_setPiece_58 | with_reducible exact pc_some (by assumption) | with_reducible exact pc_none | with_reducible refine pc_chk (fun _ => ?_) | with_reducible refine pc_if (fun _ => ?_) (fun _ => ?_) | with_reducible refine pc_on ?_ (fun _ _ => ?_) | with_reducible refine pc_b1 (lx_Setter_mind _ _ _ (by assumption)) (fun _ _ => ?_) | with_reducible refine pc_b1 (hrk _ _ _ _ (by assumption)) (fun _ _ => ?_) | with_reducible refine pc_b1 (lx_Sheet_addAll (x_q0 := x_into _ ((LX_in (by assumption)).trans (by assumption))) _ _ (by assumption)) (fun _ _ => ?_) | with_reducible refine pc_b1 (lx_Sheet_add (x_q0 := x_into _ ((LX_in (by assumption)).trans (by assumption))) _ _ (by assumption)) (fun _ _ => ?_) | with_reducible refine pf_b1 (fun _ => ?_)
theorem lxl_setRowB {X : Nat → Prop} {S0 : SS} (x_into : ∀ q, gq S0 178 4 = some q → X (q + 1)) (rk : SS → Int → Int → Int → Option SS) (hrk : ∀ S a b c, LX X S0 S → pc (rk S a b c) (LX X S0)) (v1 v2 v3 : Int) : ∀ (n : Nat) (S : SS) (v4_ v5_ : Int), LX X S0 S → pc (f_Setter_setRowB_13 rk v1 v2 v3 n S v4_ v5_) (LX X S0) := by
  intro n
  induction n with
  | zero => intro S v4_ v5_ h r e; exact absurd e (by simp [f_Setter_setRowB_13])
  | succ n ih =>
    intro S v4_ v5_ h
    show pc (f_Setter_setRowB_13_b rk v1 v2 v3 (f_Setter_setRowB_13 rk v1 v2 v3 n) S v4_ v5_) _
    unfold f_Setter_setRowB_13_b f_Setter_setGap
    repeat' first | with_reducible exact ih _ _ _ (by assumption) | unfold f_Setter_setRowB_42 | unfold f_Setter_setRowB_51 | with_reducible exact pc_some (by assumption) | with_reducible refine pc_chk (fun _ => ?_) | with_reducible refine pc_if (fun _ => ?_) (fun _ => ?_) | with_reducible refine pc_b1 (lxl_setGap x_into rk hrk _ _ FU _ _ (by assumption)) (fun _ _ => ?_) | with_reducible refine pc_b2 (lx_setPiece x_into rk hrk _ _ _ (by assumption)) (fun _ _ _ => ?_)
theorem lxl_setRow {X : Nat → Prop} {S0 : SS} (x_into : ∀ q, gq S0 178 4 = some q → X (q + 1)) : ∀ (n : Nat) (S : SS) (a b c : Int), LX X S0 S → pc (f_Setter_setRow n S a b c) (LX X S0) := by
  intro n
  induction n with
  | zero => intro S a b c h r e; exact absurd e (by simp [f_Setter_setRow])
  | succ n ih =>
    intro S a b c h
    show pc (f_Setter_setRowB (f_Setter_setRow n) S a b c) _
    unfold f_Setter_setRowB
    exact pc_if (fun _ => lxl_setRowB x_into _ ih _ _ _ FU S _ _ h) (fun _ => pc_some h)
/-- longs alone, for what changes the setter's sheets -/
def LY (X : Nat → Prop) (S0 S : SS) : Prop := ∀ r k, ¬ X r → gl S r k = gl S0 r k
theorem LY_refl (X : Nat → Prop) (S : SS) : LY X S S := fun _ _ _ => rfl
theorem LY_LX {X : Nat → Prop} {S0 S S1 : SS} (h : LY X S0 S) (h1 : LX X S S1) : LY X S0 S1 := fun r k a => (h1.1 r k a).trans (h r k a)
theorem ly_make {X : Nat → Prop} {S0 : SS} {q2 : Nat} (x_q2 : X (q2 + 1)) (S : SS) (q1 : Nat) (h : LY X S0 S) : pc (f_Setter_make S q1 q2) (LY X S0) := by
  unfold f_Setter_make f_Setter_make_44 f_Setter_setGap
  refine pc_lt (fun S1 e1 => pc_lt (fun S2 e2 => ?_))
  have g2 : gq S2 178 4 = some q2 := by rw [e2, gq_at]
  have f2 : LY X S0 S2 := by rw [e2, e1]; exact h
  rw [g2]
  have into : ∀ q, gq S2 178 4 = some q → X (q + 1) := by
    intro q e; rw [g2] at e; cases e; exact x_q2
  show pc (w_chk (shOk q2) _) _
  refine pc_chk (fun _ => xl_let (S0 := S2) (X := X) (lx_Sheet_clear S2 q2 (LX_refl X S2)) (fun S4 h4 => pc_on pc_none (fun q6 _ => pc_chk (fun _ => ?_))))
  have hr := lxl_setRow (S0 := S2) into 43
  have hg := fun v1 v2 => lxl_setGap (S0 := S2) into (f_Setter_setRow 43) hr v1 v2 FU
  refine pc_if (fun _ => pc_b1 (hg _ _ _ _ h4) (fun S5 h5 => pc_some (LY_LX f2 h5))) (fun _ => pc_b1 (hg _ _ _ _ h4) (fun S8 h8 => pc_chk (fun _ => pc_b1 (hr _ _ _ _ h8) (fun S11 h11 => pc_b1 (hg _ _ _ _ h11) (fun S12 h12 => pc_some (LY_LX f2 h12))))))
theorem ly_lt {β : Type} {X : Nat → Prop} {S0 S : SS} {r k : Nat} {v : Int} {g : SS → Option β} {P : β → Prop} (h : LY X S0 S) (hk : ∀ y, LY X S0 y → pc (g y) P) : pc (w_lt (si S r k v) g) P := hk _ h
abbrev X185 (r : Nat) : Prop := r = 185
theorem ly_weigh (S0 : SS) : ∀ (n : Nat) (S : SS) (v6 v7 v8 v9 : Int), LY X185 S0 S → pc (f_Holding_weigh_23 4 6 n S v6 v7 v8 v9) (fun u => LY X185 S0 u.2) := by
  intro n
  induction n with
  | zero => intro S v6 v7 v8 v9 h r e; exact absurd e (by simp [f_Holding_weigh_23])
  | succ n ih =>
    intro S v6 v7 v8 v9 h
    have td : ∀ S' v, LY X185 S0 S' → pc (f_Setter_takeDone S' v) (LY X185 S0) := fun S' v h' => pc_mono (lx_Setter_takeDone (X := X185) (S0 := S') S' v (LX_refl X185 S')) (fun _ h1 => LY_LX h' h1)
    have mk : ∀ S', LY X185 S0 S' → pc (f_Setter_make S' 4 184) (LY X185 S0) := fun S' h' => ly_make (X := X185) (q2 := 184) (show (184 : Nat) + 1 = 185 from rfl) S' 4 h'
    have ms : ∀ S' a c d e f, LY X185 S0 S' → pc (f_Ruler_measure S' a c d e f) (fun u => LY X185 S0 u.2) := fun S' a c d e f h' => pc_mono (lx_Ruler_measure (X := X185) (S0 := S') S' a c d e f (LX_refl X185 S')) (fun _ h1 => LY_LX h' h1)
    have lm : ∀ S', LY X185 S0 S' → pc (f_Holding_listMissed S') (LY X185 S0) := fun S' h' => pc_mono (lx_Holding_listMissed (X := X185) (S0 := S') S' (LX_refl X185 S')) (fun _ h1 => LY_LX h' h1)
    have lc : ∀ S' q, LY X185 S0 S' → pc (f_Holding_listChanges S' q) (LY X185 S0) := fun S' q h' => pc_mono (lx_Holding_listChanges (X := X185) (S0 := S') S' q (LX_refl X185 S')) (fun _ h1 => LY_LX h' h1)
    show pc (f_Holding_weigh_23_b 4 6 (f_Holding_weigh_23 4 6 n) S v6 v7 v8 v9) _
    unfold f_Holding_weigh_23_b
    repeat' first | with_reducible exact ih _ _ _ _ _ (by assumption) | unfold f_Holding_weigh_160 | unfold f_Holding_weigh_140 | with_reducible exact pc_some (by assumption) | with_reducible refine pc_chk (fun _ => ?_) | with_reducible refine pc_if (fun _ => ?_) (fun _ => ?_) | with_reducible refine pc_b1 (td _ _ (by assumption)) (fun _ _ => ?_) | with_reducible refine pc_b1 (mk _ (by assumption)) (fun _ _ => ?_) | with_reducible refine pc_b2 (ms _ _ _ _ _ _ (by assumption)) (fun _ _ _ => ?_) | with_reducible refine pc_b1 (lm _ (by assumption)) (fun _ _ => ?_) | with_reducible refine pc_b1 (lc _ _ (by assumption)) (fun _ _ => ?_) | with_reducible refine ly_lt (by assumption) (fun _ _ => ?_) | with_reducible refine pf_b1 (fun _ => ?_)
theorem ly_hold (S : SS) : pc (f_MP_hold S) (fun u => LY X185 S u.2) := by
  unfold f_MP_hold f_Holding_weigh
  exact pc_if (fun _ => pc_b2 (ly_weigh S FU S _ _ _ _ (LY_refl _ S)) (fun _ _ h => pc_some h)) (fun _ => pc_some (LY_refl _ S))
