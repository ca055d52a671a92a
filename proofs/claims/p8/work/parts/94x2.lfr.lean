set_option maxHeartbeats 4000000 in
theorem lxl_M_lay_3 {X : Nat → Prop} {S0 : SS}  (v1 : Int)  : ∀ (n : Nat) (S : SS) (v2_ : Int), LX X S0 S → pc (f_M_lay_3 v1 n S v2_) (LX X S0) := by
  intro n
  induction n with
  | zero => intro S v2_ h r e; exact absurd e (by simp [f_M_lay_3])
  | succ n ih =>
    intro S v2_ h
    show pc (f_M_lay_3_b v1 (f_M_lay_3 v1 n) S v2_) _
    unfold f_M_lay_3_b
    repeat' first | with_reducible exact ih _ _ (by assumption) | with_reducible exact pc_some (by assumption) | with_reducible exact pc_none | with_reducible refine pc_chk (fun _ => ?_) | with_reducible refine pc_if (fun _ => ?_) (fun _ => ?_) | with_reducible refine pc_on ?_ (fun _ _ => ?_) | with_reducible refine xl_lt (by assumption) (fun _ _ => ?_) | with_reducible refine xl_ltq (by assumption) (by omega) (fun _ _ => ?_) | with_reducible refine pf_b1 (fun _ => ?_) | with_reducible refine xf_ltv (fun _ => ?_)
set_option maxHeartbeats 4000000 in
theorem lx_M_lay {X : Nat → Prop} {S0 : SS}  : ∀ (S : SS) (v1 : Int), LX X S0 S → pc (f_M_lay S v1) (LX X S0) := by
  intro S v1 h
  unfold f_M_lay
  repeat' first | with_reducible exact lxl_M_lay_3  _ FU _ _ (by assumption) | with_reducible exact pc_some (by assumption) | with_reducible exact pc_none | with_reducible refine pc_chk (fun _ => ?_) | with_reducible refine pc_if (fun _ => ?_) (fun _ => ?_) | with_reducible refine pc_on ?_ (fun _ _ => ?_) | with_reducible refine xl_lt (by assumption) (fun _ _ => ?_) | with_reducible refine xl_ltq (by assumption) (by omega) (fun _ _ => ?_) | with_reducible refine pf_b1 (fun _ => ?_) | with_reducible refine xf_ltv (fun _ => ?_)
set_option maxHeartbeats 4000000 in
theorem lx_M_feed {X : Nat → Prop} {S0 : SS}  : ∀ (S : SS) (v1 : Int) (v2 : Int) (v3 : Int) (v4 : Int) (v5 : Int), LX X S0 S → pc (f_M_feed S v1 v2 v3 v4 v5) (fun u => LX X S0 u.2) := by
  intro S v1 v2 v3 v4 v5 h
  unfold f_M_feed
  repeat' first | with_reducible exact pc_some (by assumption) | with_reducible exact pc_none | with_reducible refine pc_chk (fun _ => ?_) | with_reducible refine pc_if (fun _ => ?_) (fun _ => ?_) | with_reducible refine pc_on ?_ (fun _ _ => ?_) | with_reducible refine pc_b1 (lx_M_lay  _ _ (by assumption)) (fun _ _ => ?_) | with_reducible refine xl_lt (by assumption) (fun _ _ => ?_) | with_reducible refine xl_ltq (by assumption) (by omega) (fun _ _ => ?_) | with_reducible refine pf_b1 (fun _ => ?_) | with_reducible refine xf_ltv (fun _ => ?_)
set_option maxHeartbeats 4000000 in
theorem lx_M_end {X : Nat → Prop} {S0 : SS}  : ∀ (S : SS) (v1 : Int), LX X S0 S → pc (f_M_end S v1) (fun u => LX X S0 u.2) := by
  intro S v1 h
  unfold f_M_end
  repeat' first | with_reducible exact pc_some (by assumption) | with_reducible exact pc_none | with_reducible refine pc_chk (fun _ => ?_) | with_reducible refine pc_if (fun _ => ?_) (fun _ => ?_) | with_reducible refine pc_on ?_ (fun _ _ => ?_) | with_reducible refine xl_lt (by assumption) (fun _ _ => ?_) | with_reducible refine xl_ltq (by assumption) (by omega) (fun _ _ => ?_) | with_reducible refine pf_b1 (fun _ => ?_) | with_reducible refine xf_ltv (fun _ => ?_)
set_option maxHeartbeats 4000000 in
theorem lxl_M_judgeOne_2 {X : Nat → Prop} {S0 : SS}  (v1 : Int)  : ∀ (n : Nat) (S : SS) (v2_ : Int), LX X S0 S → pc (f_M_judgeOne_2 v1 n S v2_) (LX X S0) := by
  intro n
  induction n with
  | zero => intro S v2_ h r e; exact absurd e (by simp [f_M_judgeOne_2])
  | succ n ih =>
    intro S v2_ h
    show pc (f_M_judgeOne_2_b v1 (f_M_judgeOne_2 v1 n) S v2_) _
    unfold f_M_judgeOne_2_b
    repeat' first | with_reducible exact ih _ _ (by assumption) | with_reducible unfold f_M_judgeOne_45 | with_reducible unfold f_M_judgeOne_51 | with_reducible exact pc_some (by assumption) | with_reducible exact pc_none | with_reducible refine pc_chk (fun _ => ?_) | with_reducible refine pc_if (fun _ => ?_) (fun _ => ?_) | with_reducible refine pc_on ?_ (fun _ _ => ?_) | with_reducible refine xl_lt (by assumption) (fun _ _ => ?_) | with_reducible refine xl_ltq (by assumption) (by omega) (fun _ _ => ?_) | with_reducible refine pf_b1 (fun _ => ?_) | with_reducible refine xf_ltv (fun _ => ?_)
set_option maxHeartbeats 4000000 in
theorem lx_M_judgeOne {X : Nat → Prop} {S0 : SS}  : ∀ (S : SS) (v1 : Int), LX X S0 S → pc (f_M_judgeOne S v1) (LX X S0) := by
  intro S v1 h
  unfold f_M_judgeOne
  repeat' first | with_reducible exact lxl_M_judgeOne_2  _ FU _ _ (by assumption) | with_reducible unfold f_M_judgeOne_45 | with_reducible unfold f_M_judgeOne_51 | with_reducible exact pc_some (by assumption) | with_reducible exact pc_none | with_reducible refine pc_chk (fun _ => ?_) | with_reducible refine pc_if (fun _ => ?_) (fun _ => ?_) | with_reducible refine pc_on ?_ (fun _ _ => ?_) | with_reducible refine xl_lt (by assumption) (fun _ _ => ?_) | with_reducible refine xl_ltq (by assumption) (by omega) (fun _ _ => ?_) | with_reducible refine pf_b1 (fun _ => ?_) | with_reducible refine xf_ltv (fun _ => ?_)
set_option maxHeartbeats 4000000 in
theorem lxl_M_judge_24 {X : Nat → Prop} {S0 : SS}    (kf2_ : SS → Int → Option SS) (hkf2_ : ∀ S a0, LX X S0 S → pc (kf2_ S a0) (LX X S0)): ∀ (n : Nat) (S : SS) (v1_ : Int) (v2_ : Int), LX X S0 S → pc (f_M_judge_24 kf2_ n S v1_ v2_) (LX X S0) := by
  intro n
  induction n with
  | zero => intro S v1_ v2_ h r e; exact absurd e (by simp [f_M_judge_24])
  | succ n ih =>
    intro S v1_ v2_ h
    show pc (f_M_judge_24_b kf2_ (f_M_judge_24 kf2_ n) S v1_ v2_) _
    unfold f_M_judge_24_b
    repeat' first | with_reducible exact ih _ _ _ (by assumption) | with_reducible exact hkf2_ _ _ (by assumption) | with_reducible unfold f_M_judge_56 | with_reducible unfold f_M_judge_137 | with_reducible unfold f_M_judge_110 | with_reducible unfold f_M_judge_136 | with_reducible unfold f_M_judge_114 | with_reducible unfold f_M_judge_192 | with_reducible exact pc_some (by assumption) | with_reducible exact pc_none | with_reducible refine pc_chk (fun _ => ?_) | with_reducible refine pc_if (fun _ => ?_) (fun _ => ?_) | with_reducible refine pc_on ?_ (fun _ _ => ?_) | with_reducible refine pc_b1 (lx_M_judgeOne  _ _ (by assumption)) (fun _ _ => ?_) | with_reducible refine xl_lt (by assumption) (fun _ _ => ?_) | with_reducible refine xl_ltq (by assumption) (by omega) (fun _ _ => ?_) | with_reducible refine pf_b1 (fun _ => ?_) | with_reducible refine xf_ltv (fun _ => ?_)
set_option maxHeartbeats 4000000 in
theorem lxl_M_judge_154 {X : Nat → Prop} {S0 : SS}    (kf146_ : SS → Int → Option SS) (hkf146_ : ∀ S a0, LX X S0 S → pc (kf146_ S a0) (LX X S0)): ∀ (n : Nat) (S : SS) (v1_ : Int) (v2_ : Int), LX X S0 S → pc (f_M_judge_154 kf146_ n S v1_ v2_) (LX X S0) := by
  intro n
  induction n with
  | zero => intro S v1_ v2_ h r e; exact absurd e (by simp [f_M_judge_154])
  | succ n ih =>
    intro S v1_ v2_ h
    show pc (f_M_judge_154_b kf146_ (f_M_judge_154 kf146_ n) S v1_ v2_) _
    unfold f_M_judge_154_b
    repeat' first | with_reducible exact ih _ _ _ (by assumption) | with_reducible exact hkf146_ _ _ (by assumption) | with_reducible exact lxl_M_judge_24  _ (fun _ _  h => ih _ _ h) FU _ _ _ (by assumption) | with_reducible unfold f_M_judge_56 | with_reducible unfold f_M_judge_137 | with_reducible unfold f_M_judge_110 | with_reducible unfold f_M_judge_136 | with_reducible unfold f_M_judge_114 | with_reducible unfold f_M_judge_192 | with_reducible exact pc_some (by assumption) | with_reducible exact pc_none | with_reducible refine pc_chk (fun _ => ?_) | with_reducible refine pc_if (fun _ => ?_) (fun _ => ?_) | with_reducible refine pc_on ?_ (fun _ _ => ?_) | with_reducible refine pc_b1 (lx_M_judgeOne  _ _ (by assumption)) (fun _ _ => ?_) | with_reducible refine xl_lt (by assumption) (fun _ _ => ?_) | with_reducible refine xl_ltq (by assumption) (by omega) (fun _ _ => ?_) | with_reducible refine pf_b1 (fun _ => ?_) | with_reducible refine xf_ltv (fun _ => ?_)
set_option maxHeartbeats 4000000 in
theorem lxl_M_judge_146 {X : Nat → Prop} {S0 : SS}    : ∀ (n : Nat) (S : SS) (v1_ : Int), LX X S0 S → pc (f_M_judge_146  n S v1_) (LX X S0) := by
  intro n
  induction n with
  | zero => intro S v1_ h r e; exact absurd e (by simp [f_M_judge_146])
  | succ n ih =>
    intro S v1_ h
    show pc (f_M_judge_146_b (f_M_judge_146 n) S v1_) _
    unfold f_M_judge_146_b
    repeat' first | with_reducible exact ih _ _ (by assumption) | with_reducible exact lxl_M_judge_24  _ (fun _ _  h => ih _ _ h) FU _ _ _ (by assumption) | with_reducible exact lxl_M_judge_154  _ (fun _ _  h => ih _ _ h) FU _ _ _ (by assumption) | with_reducible unfold f_M_judge_56 | with_reducible unfold f_M_judge_137 | with_reducible unfold f_M_judge_110 | with_reducible unfold f_M_judge_136 | with_reducible unfold f_M_judge_114 | with_reducible unfold f_M_judge_192 | with_reducible exact pc_some (by assumption) | with_reducible exact pc_none | with_reducible refine pc_chk (fun _ => ?_) | with_reducible refine pc_if (fun _ => ?_) (fun _ => ?_) | with_reducible refine pc_on ?_ (fun _ _ => ?_) | with_reducible refine pc_b1 (lx_M_judgeOne  _ _ (by assumption)) (fun _ _ => ?_) | with_reducible refine xl_lt (by assumption) (fun _ _ => ?_) | with_reducible refine xl_ltq (by assumption) (by omega) (fun _ _ => ?_) | with_reducible refine pf_b1 (fun _ => ?_) | with_reducible refine xf_ltv (fun _ => ?_)
set_option maxHeartbeats 4000000 in
theorem lxl_M_judge_2 {X : Nat → Prop} {S0 : SS}    : ∀ (n : Nat) (S : SS) (v1_ : Int), LX X S0 S → pc (f_M_judge_2  n S v1_) (LX X S0) := by
  intro n
  induction n with
  | zero => intro S v1_ h r e; exact absurd e (by simp [f_M_judge_2])
  | succ n ih =>
    intro S v1_ h
    show pc (f_M_judge_2_b (f_M_judge_2 n) S v1_) _
    unfold f_M_judge_2_b
    repeat' first | with_reducible exact ih _ _ (by assumption) | with_reducible exact lxl_M_judge_24  _ (fun _ _  h => ih _ _ h) FU _ _ _ (by assumption) | with_reducible exact lxl_M_judge_154  _ (fun _ _  h => ih _ _ h) FU _ _ _ (by assumption) | with_reducible exact lxl_M_judge_146  FU _ _ (by assumption) | with_reducible unfold f_M_judge_56 | with_reducible unfold f_M_judge_137 | with_reducible unfold f_M_judge_110 | with_reducible unfold f_M_judge_136 | with_reducible unfold f_M_judge_114 | with_reducible unfold f_M_judge_192 | with_reducible exact pc_some (by assumption) | with_reducible exact pc_none | with_reducible refine pc_chk (fun _ => ?_) | with_reducible refine pc_if (fun _ => ?_) (fun _ => ?_) | with_reducible refine pc_on ?_ (fun _ _ => ?_) | with_reducible refine pc_b1 (lx_M_judgeOne  _ _ (by assumption)) (fun _ _ => ?_) | with_reducible refine xl_lt (by assumption) (fun _ _ => ?_) | with_reducible refine xl_ltq (by assumption) (by omega) (fun _ _ => ?_) | with_reducible refine pf_b1 (fun _ => ?_) | with_reducible refine xf_ltv (fun _ => ?_)
set_option maxHeartbeats 4000000 in
theorem lx_M_judge {X : Nat → Prop} {S0 : SS}  : ∀ (S : SS) , LX X S0 S → pc (f_M_judge S ) (LX X S0) := by
  intro S h
  unfold f_M_judge
  repeat' first | with_reducible exact lxl_M_judge_146  FU _ _ (by assumption) | with_reducible exact lxl_M_judge_2  FU _ _ (by assumption) | with_reducible unfold f_M_judge_56 | with_reducible unfold f_M_judge_137 | with_reducible unfold f_M_judge_110 | with_reducible unfold f_M_judge_136 | with_reducible unfold f_M_judge_114 | with_reducible unfold f_M_judge_192 | with_reducible exact pc_some (by assumption) | with_reducible exact pc_none | with_reducible refine pc_chk (fun _ => ?_) | with_reducible refine pc_if (fun _ => ?_) (fun _ => ?_) | with_reducible refine pc_on ?_ (fun _ _ => ?_) | with_reducible refine pc_b1 (lx_M_judgeOne  _ _ (by assumption)) (fun _ _ => ?_) | with_reducible refine xl_lt (by assumption) (fun _ _ => ?_) | with_reducible refine xl_ltq (by assumption) (by omega) (fun _ _ => ?_) | with_reducible refine pf_b1 (fun _ => ?_) | with_reducible refine xf_ltv (fun _ => ?_)
set_option maxHeartbeats 4000000 in
theorem lx_M_mark {X : Nat → Prop} {S0 : SS}  : ∀ (S : SS) (v1 : Int) (v2 : Int), LX X S0 S → pc (f_M_mark S v1 v2) (fun u => LX X S0 u.2) := by
  intro S v1 v2 h
  unfold f_M_mark
  repeat' first | with_reducible exact pc_some (by assumption) | with_reducible exact pc_none | with_reducible refine pc_chk (fun _ => ?_) | with_reducible refine pc_if (fun _ => ?_) (fun _ => ?_) | with_reducible refine pc_on ?_ (fun _ _ => ?_) | with_reducible refine pc_b1 (lx_M_judge  _ (by assumption)) (fun _ _ => ?_) | with_reducible refine xl_lt (by assumption) (fun _ _ => ?_) | with_reducible refine xl_ltq (by assumption) (by omega) (fun _ _ => ?_) | with_reducible refine pf_b1 (fun _ => ?_) | with_reducible refine xf_ltv (fun _ => ?_)
set_option maxHeartbeats 4000000 in
theorem lx_M_answer {X : Nat → Prop} {S0 : SS}  : ∀ (S : SS) (v1 : Int) (v2 : Int), LX X S0 S → pc (f_M_answer S v1 v2) (fun u => LX X S0 u.2) := by
  intro S v1 v2 h
  unfold f_M_answer
  repeat' first | with_reducible unfold f_M_answer_42 | with_reducible exact pc_some (by assumption) | with_reducible exact pc_none | with_reducible refine pc_chk (fun _ => ?_) | with_reducible refine pc_if (fun _ => ?_) (fun _ => ?_) | with_reducible refine pc_on ?_ (fun _ _ => ?_) | with_reducible refine pc_b1 (lx_M_judge  _ (by assumption)) (fun _ _ => ?_) | with_reducible refine xl_lt (by assumption) (fun _ _ => ?_) | with_reducible refine xl_ltq (by assumption) (by omega) (fun _ _ => ?_) | with_reducible refine pf_b1 (fun _ => ?_) | with_reducible refine xf_ltv (fun _ => ?_)
set_option maxHeartbeats 4000000 in
theorem lx_M_rank {X : Nat → Prop} {S0 : SS}  : ∀ (S : SS) (v1 : Int) (v2 : Int), LX X S0 S → pc (f_M_rank S v1 v2) (fun u => LX X S0 u.2) := by
  intro S v1 v2 h
  unfold f_M_rank
  repeat' first | with_reducible exact pc_some (by assumption) | with_reducible exact pc_none | with_reducible refine pc_chk (fun _ => ?_) | with_reducible refine pc_if (fun _ => ?_) (fun _ => ?_) | with_reducible refine pc_on ?_ (fun _ _ => ?_) | with_reducible refine xl_lt (by assumption) (fun _ _ => ?_) | with_reducible refine xl_ltq (by assumption) (by omega) (fun _ _ => ?_) | with_reducible refine pf_b1 (fun _ => ?_) | with_reducible refine xf_ltv (fun _ => ?_)
set_option maxHeartbeats 4000000 in
theorem lxl_M_use_8 {X : Nat → Prop} {S0 : SS}  (v1 : Int)  : ∀ (n : Nat) (S : SS) (v2_ : Int) (v3_ : Int), LX X S0 S → pc (f_M_use_8 v1 n S v2_ v3_) (LX X S0) := by
  intro n
  induction n with
  | zero => intro S v2_ v3_ h r e; exact absurd e (by simp [f_M_use_8])
  | succ n ih =>
    intro S v2_ v3_ h
    show pc (f_M_use_8_b v1 (f_M_use_8 v1 n) S v2_ v3_) _
    unfold f_M_use_8_b
    repeat' first | with_reducible exact ih _ _ _ (by assumption) | with_reducible unfold f_M_use_73 | with_reducible unfold f_M_use_70 | with_reducible unfold f_M_use_35 | with_reducible exact pc_some (by assumption) | with_reducible exact pc_none | with_reducible refine pc_chk (fun _ => ?_) | with_reducible refine pc_if (fun _ => ?_) (fun _ => ?_) | with_reducible refine pc_on ?_ (fun _ _ => ?_) | with_reducible refine pc_b1 (lx_M_judge  _ (by assumption)) (fun _ _ => ?_) | with_reducible refine xl_lt (by assumption) (fun _ _ => ?_) | with_reducible refine xl_ltq (by assumption) (by omega) (fun _ _ => ?_) | with_reducible refine pf_b1 (fun _ => ?_) | with_reducible refine xf_ltv (fun _ => ?_)
set_option maxHeartbeats 4000000 in
theorem lx_M_use {X : Nat → Prop} {S0 : SS}  : ∀ (S : SS) (v1 : Int), LX X S0 S → pc (f_M_use S v1) (LX X S0) := by
  intro S v1 h
  unfold f_M_use
  repeat' first | with_reducible exact lxl_M_use_8  _ FU _ _ _ (by assumption) | with_reducible unfold f_M_use_73 | with_reducible unfold f_M_use_70 | with_reducible unfold f_M_use_35 | with_reducible exact pc_some (by assumption) | with_reducible exact pc_none | with_reducible refine pc_chk (fun _ => ?_) | with_reducible refine pc_if (fun _ => ?_) (fun _ => ?_) | with_reducible refine pc_on ?_ (fun _ _ => ?_) | with_reducible refine pc_b1 (lx_M_judge  _ (by assumption)) (fun _ _ => ?_) | with_reducible refine xl_lt (by assumption) (fun _ _ => ?_) | with_reducible refine xl_ltq (by assumption) (by omega) (fun _ _ => ?_) | with_reducible refine pf_b1 (fun _ => ?_) | with_reducible refine xf_ltv (fun _ => ?_)
set_option maxHeartbeats 4000000 in
theorem lx_M_put {X : Nat → Prop} {S0 : SS} (x_195 : X 195) : ∀ (S : SS) (w1 : Int64), LX X S0 S → pc (f_M_put S w1) (LX X S0) := by
  intro S w1 h
  unfold f_M_put
  repeat' first | with_reducible exact pc_some (by assumption) | with_reducible exact pc_none | with_reducible refine pc_chk (fun _ => ?_) | with_reducible refine pc_if (fun _ => ?_) (fun _ => ?_) | with_reducible refine pc_on ?_ (fun _ _ => ?_) | with_reducible refine xl_lt (by assumption) (fun _ _ => ?_) | with_reducible refine xl_lts (by assumption) (by first | exact x_195) (fun _ _ => ?_) | with_reducible refine xl_ltq (by assumption) (by omega) (fun _ _ => ?_) | with_reducible refine pf_b1 (fun _ => ?_) | with_reducible refine xf_ltv (fun _ => ?_)
set_option maxHeartbeats 4000000 in
theorem lxl_M_putWords_2 {X : Nat → Prop} {S0 : SS} (x_195 : X 195) (v1 : Int)  : ∀ (n : Nat) (S : SS) (v2_ : Int), LX X S0 S → pc (f_M_putWords_2 v1 n S v2_) (LX X S0) := by
  intro n
  induction n with
  | zero => intro S v2_ h r e; exact absurd e (by simp [f_M_putWords_2])
  | succ n ih =>
    intro S v2_ h
    show pc (f_M_putWords_2_b v1 (f_M_putWords_2 v1 n) S v2_) _
    unfold f_M_putWords_2_b
    repeat' first | with_reducible exact ih _ _ (by assumption) | with_reducible exact pc_some (by assumption) | with_reducible exact pc_none | with_reducible refine pc_chk (fun _ => ?_) | with_reducible refine pc_if (fun _ => ?_) (fun _ => ?_) | with_reducible refine pc_on ?_ (fun _ _ => ?_) | with_reducible refine pc_b1 (lx_M_put (x_195 := x_195) _ _ (by assumption)) (fun _ _ => ?_) | with_reducible refine xl_lt (by assumption) (fun _ _ => ?_) | with_reducible refine xl_lts (by assumption) (by first | exact x_195) (fun _ _ => ?_) | with_reducible refine xl_ltq (by assumption) (by omega) (fun _ _ => ?_) | with_reducible refine pf_b1 (fun _ => ?_) | with_reducible refine xf_ltv (fun _ => ?_)
set_option maxHeartbeats 4000000 in
theorem lx_M_putWords {X : Nat → Prop} {S0 : SS} (x_195 : X 195) : ∀ (S : SS) (v1 : Int), LX X S0 S → pc (f_M_putWords S v1) (LX X S0) := by
  intro S v1 h
  unfold f_M_putWords
  repeat' first | with_reducible exact lxl_M_putWords_2 (x_195 := x_195) _ FU _ _ (by assumption) | with_reducible exact pc_some (by assumption) | with_reducible exact pc_none | with_reducible refine pc_chk (fun _ => ?_) | with_reducible refine pc_if (fun _ => ?_) (fun _ => ?_) | with_reducible refine pc_on ?_ (fun _ _ => ?_) | with_reducible refine pc_b1 (lx_M_put (x_195 := x_195) _ _ (by assumption)) (fun _ _ => ?_) | with_reducible refine xl_lt (by assumption) (fun _ _ => ?_) | with_reducible refine xl_lts (by assumption) (by first | exact x_195) (fun _ _ => ?_) | with_reducible refine xl_ltq (by assumption) (by omega) (fun _ _ => ?_) | with_reducible refine pf_b1 (fun _ => ?_) | with_reducible refine xf_ltv (fun _ => ?_)
set_option maxHeartbeats 4000000 in
theorem lxl_M_layWord_13 {X : Nat → Prop} {S0 : SS} (x_195 : X 195) (v1 : Int) (v2 : Int)  : ∀ (n : Nat) (S : SS) (v3_ : Int), LX X S0 S → pc (f_M_layWord_13 v1 v2 n S v3_) (LX X S0) := by
  intro n
  induction n with
  | zero => intro S v3_ h r e; exact absurd e (by simp [f_M_layWord_13])
  | succ n ih =>
    intro S v3_ h
    show pc (f_M_layWord_13_b v1 v2 (f_M_layWord_13 v1 v2 n) S v3_) _
    unfold f_M_layWord_13_b
    repeat' first | with_reducible exact ih _ _ (by assumption) | with_reducible unfold f_M_layWord_100 | with_reducible unfold f_M_layWord_49 | with_reducible exact pc_some (by assumption) | with_reducible exact pc_none | with_reducible refine pc_chk (fun _ => ?_) | with_reducible refine pc_if (fun _ => ?_) (fun _ => ?_) | with_reducible refine pc_on ?_ (fun _ _ => ?_) | with_reducible refine pc_b1 (lx_M_putWords (x_195 := x_195) _ _ (by assumption)) (fun _ _ => ?_) | with_reducible refine pc_b1 (lx_M_put (x_195 := x_195) _ _ (by assumption)) (fun _ _ => ?_) | with_reducible refine xl_lt (by assumption) (fun _ _ => ?_) | with_reducible refine xl_lts (by assumption) (by first | exact x_195) (fun _ _ => ?_) | with_reducible refine xl_ltq (by assumption) (by omega) (fun _ _ => ?_) | with_reducible refine pf_b1 (fun _ => ?_) | with_reducible refine xf_ltv (fun _ => ?_)
set_option maxHeartbeats 4000000 in
theorem lx_M_layWord {X : Nat → Prop} {S0 : SS} (x_195 : X 195) : ∀ (S : SS) (v1 : Int) (v2 : Int), LX X S0 S → pc (f_M_layWord S v1 v2) (LX X S0) := by
  intro S v1 v2 h
  unfold f_M_layWord
  repeat' first | with_reducible exact lxl_M_layWord_13 (x_195 := x_195) _ _ FU _ _ (by assumption) | with_reducible unfold f_M_layWord_100 | with_reducible unfold f_M_layWord_49 | with_reducible exact pc_some (by assumption) | with_reducible exact pc_none | with_reducible refine pc_chk (fun _ => ?_) | with_reducible refine pc_if (fun _ => ?_) (fun _ => ?_) | with_reducible refine pc_on ?_ (fun _ _ => ?_) | with_reducible refine pc_b1 (lx_M_putWords (x_195 := x_195) _ _ (by assumption)) (fun _ _ => ?_) | with_reducible refine pc_b1 (lx_M_put (x_195 := x_195) _ _ (by assumption)) (fun _ _ => ?_) | with_reducible refine xl_lt (by assumption) (fun _ _ => ?_) | with_reducible refine xl_lts (by assumption) (by first | exact x_195) (fun _ _ => ?_) | with_reducible refine xl_ltq (by assumption) (by omega) (fun _ _ => ?_) | with_reducible refine pf_b1 (fun _ => ?_) | with_reducible refine xf_ltv (fun _ => ?_)
theorem lxl_M_layGap {X : Nat → Prop} {S0 : SS} (x_195 : X 195) (rk : SS → Int → Int → Int → Option SS) (hrk : ∀ S a b c, LX X S0 S → pc (rk S a b c) (LX X S0)) (v1 : Int) : ∀ (n : Nat) (S : SS) (v2_ : Int), LX X S0 S → pc (f_M_layGap_2 rk v1 n S v2_) (LX X S0) := by
  intro n
  induction n with
  | zero => intro S v2_ h r e; exact absurd e (by simp [f_M_layGap_2])
  | succ n ih =>
    intro S v2_ h
    show pc (f_M_layGap_2_b rk v1 (f_M_layGap_2 rk v1 n) S v2_) _
    unfold f_M_layGap_2_b
    repeat' first | with_reducible exact ih _ _ (by assumption) | unfold f_M_layGap_66 | with_reducible exact pc_some (by assumption) | with_reducible refine pc_chk (fun _ => ?_) | with_reducible refine pc_if (fun _ => ?_) (fun _ => ?_) | with_reducible refine pc_b1 (hrk _ _ _ _ (by assumption)) (fun _ _ => ?_) | with_reducible refine pc_b1 (lx_M_putWords x_195 _ _ (by assumption)) (fun _ _ => ?_) | with_reducible refine pf_b1 (fun _ => ?_)
theorem lxl_M_layRowB {X : Nat → Prop} {S0 : SS} (x_195 : X 195) (rk : SS → Int → Int → Int → Option SS) (hrk : ∀ S a b c, LX X S0 S → pc (rk S a b c) (LX X S0)) (v1 v2 v3 : Int) : ∀ (n : Nat) (S : SS) (v4_ : Int), LX X S0 S → pc (f_M_layRowB_3 rk v1 v2 v3 n S v4_) (LX X S0) := by
  intro n
  induction n with
  | zero => intro S v4_ h r e; exact absurd e (by simp [f_M_layRowB_3])
  | succ n ih =>
    intro S v4_ h
    show pc (f_M_layRowB_3_b rk v1 v2 v3 (f_M_layRowB_3 rk v1 v2 v3 n) S v4_) _
    unfold f_M_layRowB_3_b f_M_layGap
    repeat' first | with_reducible exact ih _ _ (by assumption) | unfold f_M_layRowB_32 | with_reducible exact pc_some (by assumption) | with_reducible refine pc_chk (fun _ => ?_) | with_reducible refine pc_if (fun _ => ?_) (fun _ => ?_) | with_reducible refine pc_b1 (hrk _ _ _ _ (by assumption)) (fun _ _ => ?_) | with_reducible refine pc_b1 (lxl_M_layGap x_195 rk hrk _ FU _ _ (by assumption)) (fun _ _ => ?_) | with_reducible refine pc_b1 (lx_M_layWord x_195 _ _ _ (by assumption)) (fun _ _ => ?_) | with_reducible refine pf_b1 (fun _ => ?_)
theorem lxl_M_layRow {X : Nat → Prop} {S0 : SS} (x_195 : X 195) : ∀ (n : Nat) (S : SS) (a b c : Int), LX X S0 S → pc (f_M_layRow n S a b c) (LX X S0) := by
  intro n
  induction n with
  | zero => intro S a b c h r e; exact absurd e (by simp [f_M_layRow])
  | succ n ih =>
    intro S a b c h
    show pc (f_M_layRowB (f_M_layRow n) S a b c) _
    unfold f_M_layRowB
    exact lxl_M_layRowB x_195 _ ih _ _ _ FU S _ h
theorem lx_M_make {X : Nat → Prop} {S0 : SS} (x_195 : X 195) : ∀ (S : SS) (v1 : Int), LX X S0 S → pc (f_M_make S v1) (LX X S0) := by
  intro S v1 h
  unfold f_M_make f_M_layGap
  have hr := lxl_M_layRow (S0 := S0) x_195 43
  have hg := fun v => lxl_M_layGap (S0 := S0) x_195 (f_M_layRow 43) hr v FU
  exact pc_b1 (lx_M_use S v1 h) (fun S1 h1 => xl_lt h1 (fun S3 h3 => pc_if (fun _ => pc_b1 (hg _ _ _ h3) (fun S14 h14 => pc_some h14)) (fun _ => pc_b1 (hg _ _ _ h3) (fun S5 h5 => pc_chk (fun _ => pc_b1 (hr _ _ _ _ h5) (fun S9 h9 => pc_b1 (hg _ _ _ h9) (fun S12 h12 => pc_some h12)))))))
set_option maxHeartbeats 4000000 in
theorem lx_M_wordsOf {X : Nat → Prop} {S0 : SS} (x_195 : X 195) : ∀ (S : SS) (v1 : Int), LX X S0 S → pc (f_M_wordsOf S v1) (fun u => LX X S0 u.2) := by
  intro S v1 h
  unfold f_M_wordsOf
  repeat' first | with_reducible unfold f_M_wordsOf_10 | with_reducible exact pc_some (by assumption) | with_reducible exact pc_none | with_reducible refine pc_chk (fun _ => ?_) | with_reducible refine pc_if (fun _ => ?_) (fun _ => ?_) | with_reducible refine pc_on ?_ (fun _ _ => ?_) | with_reducible refine pc_b1 (lx_M_make (x_195 := x_195) _ _ (by assumption)) (fun _ _ => ?_) | with_reducible refine xl_lt (by assumption) (fun _ _ => ?_) | with_reducible refine xl_lts (by assumption) (by first | exact x_195) (fun _ _ => ?_) | with_reducible refine xl_ltq (by assumption) (by omega) (fun _ _ => ?_) | with_reducible refine pf_b1 (fun _ => ?_) | with_reducible refine xf_ltv (fun _ => ?_)
set_option maxHeartbeats 4000000 in
theorem lx_M_word {X : Nat → Prop} {S0 : SS} (x_195 : X 195) : ∀ (S : SS) (v1 : Int) (v2 : Int), LX X S0 S → pc (f_M_word S v1 v2) (fun u => LX X S0 u.2) := by
  intro S v1 v2 h
  unfold f_M_word
  repeat' first | with_reducible exact pc_some (by assumption) | with_reducible exact pc_none | with_reducible refine pc_chk (fun _ => ?_) | with_reducible refine pc_if (fun _ => ?_) (fun _ => ?_) | with_reducible refine pc_on ?_ (fun _ _ => ?_) | with_reducible refine pc_b2 (lx_M_wordsOf (x_195 := x_195) _ _ (by assumption)) (fun _ _ _ => ?_) | with_reducible refine xl_lt (by assumption) (fun _ _ => ?_) | with_reducible refine xl_lts (by assumption) (by first | exact x_195) (fun _ _ => ?_) | with_reducible refine xl_ltq (by assumption) (by omega) (fun _ _ => ?_) | with_reducible refine pf_b1 (fun _ => ?_) | with_reducible refine xf_ltv (fun _ => ?_)
set_option maxHeartbeats 4000000 in
theorem lxl_M_apart_12 {X : Nat → Prop} {S0 : SS}  (v1 : Int) (v2 : Int) (v3 : Int) (v4 : Int)  (kf3_ : SS → Int → Option (Int × SS)) (hkf3_ : ∀ S a0, LX X S0 S → pc (kf3_ S a0) (fun u => LX X S0 u.2)): ∀ (n : Nat) (S : SS) (v5_ : Int) (v6_ : Int), LX X S0 S → pc (f_M_apart_12 v1 v2 v3 v4 kf3_ n S v5_ v6_) (fun u => LX X S0 u.2) := by
  intro n
  induction n with
  | zero => intro S v5_ v6_ h r e; exact absurd e (by simp [f_M_apart_12])
  | succ n ih =>
    intro S v5_ v6_ h
    show pc (f_M_apart_12_b v1 v2 v3 v4 kf3_ (f_M_apart_12 v1 v2 v3 v4 kf3_ n) S v5_ v6_) _
    unfold f_M_apart_12_b
    repeat' first | with_reducible exact ih _ _ _ (by assumption) | with_reducible exact hkf3_ _ _ (by assumption) | with_reducible unfold f_M_apart_140 | with_reducible unfold f_M_apart_85 | with_reducible unfold f_M_apart_84 | with_reducible exact pc_some (by assumption) | with_reducible exact pc_none | with_reducible refine pc_chk (fun _ => ?_) | with_reducible refine pc_if (fun _ => ?_) (fun _ => ?_) | with_reducible refine pc_on ?_ (fun _ _ => ?_) | with_reducible refine xl_lt (by assumption) (fun _ _ => ?_) | with_reducible refine xl_ltq (by assumption) (by omega) (fun _ _ => ?_) | with_reducible refine pf_b1 (fun _ => ?_) | with_reducible refine xf_ltv (fun _ => ?_)
set_option maxHeartbeats 4000000 in
theorem lxl_M_apart_3 {X : Nat → Prop} {S0 : SS}  (v1 : Int) (v2 : Int) (v3 : Int) (v4 : Int)  : ∀ (n : Nat) (S : SS) (v5_ : Int), LX X S0 S → pc (f_M_apart_3 v1 v2 v3 v4 n S v5_) (fun u => LX X S0 u.2) := by
  intro n
  induction n with
  | zero => intro S v5_ h r e; exact absurd e (by simp [f_M_apart_3])
  | succ n ih =>
    intro S v5_ h
    show pc (f_M_apart_3_b v1 v2 v3 v4 (f_M_apart_3 v1 v2 v3 v4 n) S v5_) _
    unfold f_M_apart_3_b
    repeat' first | with_reducible exact ih _ _ (by assumption) | with_reducible exact lxl_M_apart_12  _ _ _ _ _ (fun _ _  h => ih _ _ h) FU _ _ _ (by assumption) | with_reducible unfold f_M_apart_140 | with_reducible unfold f_M_apart_85 | with_reducible unfold f_M_apart_84 | with_reducible exact pc_some (by assumption) | with_reducible exact pc_none | with_reducible refine pc_chk (fun _ => ?_) | with_reducible refine pc_if (fun _ => ?_) (fun _ => ?_) | with_reducible refine pc_on ?_ (fun _ _ => ?_) | with_reducible refine xl_lt (by assumption) (fun _ _ => ?_) | with_reducible refine xl_ltq (by assumption) (by omega) (fun _ _ => ?_) | with_reducible refine pf_b1 (fun _ => ?_) | with_reducible refine xf_ltv (fun _ => ?_)
set_option maxHeartbeats 4000000 in
theorem lx_M_apart {X : Nat → Prop} {S0 : SS}  : ∀ (S : SS) (v1 : Int) (v2 : Int) (v3 : Int) (v4 : Int), LX X S0 S → pc (f_M_apart S v1 v2 v3 v4) (fun u => LX X S0 u.2) := by
  intro S v1 v2 v3 v4 h
  unfold f_M_apart
  repeat' first | with_reducible exact lxl_M_apart_3  _ _ _ _ FU _ _ (by assumption) | with_reducible unfold f_M_apart_140 | with_reducible unfold f_M_apart_85 | with_reducible unfold f_M_apart_84 | with_reducible exact pc_some (by assumption) | with_reducible exact pc_none | with_reducible refine pc_chk (fun _ => ?_) | with_reducible refine pc_if (fun _ => ?_) (fun _ => ?_) | with_reducible refine pc_on ?_ (fun _ _ => ?_) | with_reducible refine xl_lt (by assumption) (fun _ _ => ?_) | with_reducible refine xl_ltq (by assumption) (by omega) (fun _ _ => ?_) | with_reducible refine pf_b1 (fun _ => ?_) | with_reducible refine xf_ltv (fun _ => ?_)
set_option maxHeartbeats 4000000 in
theorem lx_M_distance {X : Nat → Prop} {S0 : SS} (x_195 : X 195) : ∀ (S : SS) (v1 : Int) (v2 : Int), LX X S0 S → pc (f_M_distance S v1 v2) (fun u => LX X S0 u.2) := by
  intro S v1 v2 h
  unfold f_M_distance
  repeat' first | with_reducible exact pc_some (by assumption) | with_reducible exact pc_none | with_reducible refine pc_chk (fun _ => ?_) | with_reducible refine pc_if (fun _ => ?_) (fun _ => ?_) | with_reducible refine pc_on ?_ (fun _ _ => ?_) | with_reducible refine pc_b2 (lx_M_wordsOf (x_195 := x_195) _ _ (by assumption)) (fun _ _ _ => ?_) | with_reducible refine pc_b2 (lx_M_apart  _ _ _ _ _ (by assumption)) (fun _ _ _ => ?_) | with_reducible refine xl_lt (by assumption) (fun _ _ => ?_) | with_reducible refine xl_lts (by assumption) (by first | exact x_195) (fun _ _ => ?_) | with_reducible refine xl_ltq (by assumption) (by omega) (fun _ _ => ?_) | with_reducible refine pf_b1 (fun _ => ?_) | with_reducible refine xf_ltv (fun _ => ?_)
set_option maxHeartbeats 4000000 in
theorem lx_M_costs {X : Nat → Prop} {S0 : SS}  : ∀ (S : SS) (v1 : Int) (v2 : Int), LX X S0 S → pc (f_M_costs S v1 v2) (fun u => LX X S0 u.2) := by
  intro S v1 v2 h
  unfold f_M_costs
  repeat' first | with_reducible exact pc_some (by assumption) | with_reducible exact pc_none | with_reducible refine pc_chk (fun _ => ?_) | with_reducible refine pc_if (fun _ => ?_) (fun _ => ?_) | with_reducible refine pc_on ?_ (fun _ _ => ?_) | with_reducible refine xl_lt (by assumption) (fun _ _ => ?_) | with_reducible refine xl_ltq (by assumption) (by omega) (fun _ _ => ?_) | with_reducible refine pf_b1 (fun _ => ?_) | with_reducible refine xf_ltv (fun _ => ?_)
set_option maxHeartbeats 4000000 in
theorem lxl_M_trace_24 {X : Nat → Prop} {S0 : SS}    : ∀ (n : Nat) (S : SS) (v1_ : Int) (v2_ : Int) (v3_ : Int), LX X S0 S → pc (f_M_trace_24  n S v1_ v2_ v3_) (LX X S0) := by
  intro n
  induction n with
  | zero => intro S v1_ v2_ v3_ h r e; exact absurd e (by simp [f_M_trace_24])
  | succ n ih =>
    intro S v1_ v2_ v3_ h
    show pc (f_M_trace_24_b (f_M_trace_24 n) S v1_ v2_ v3_) _
    unfold f_M_trace_24_b
    repeat' first | with_reducible exact ih _ _ _ _ (by assumption) | with_reducible unfold f_M_trace_258 | with_reducible unfold f_M_trace_245 | with_reducible unfold f_M_trace_240 | with_reducible unfold f_M_trace_195 | with_reducible unfold f_M_trace_166 | with_reducible unfold f_M_trace_165 | with_reducible unfold f_M_trace_128 | with_reducible unfold f_M_trace_127 | with_reducible unfold f_M_trace_87 | with_reducible exact pc_some (by assumption) | with_reducible exact pc_none | with_reducible refine pc_chk (fun _ => ?_) | with_reducible refine pc_if (fun _ => ?_) (fun _ => ?_) | with_reducible refine pc_on ?_ (fun _ _ => ?_) | with_reducible refine pc_b2 (lx_M_apart  _ _ _ _ _ (by assumption)) (fun _ _ _ => ?_) | with_reducible refine xl_lt (by assumption) (fun _ _ => ?_) | with_reducible refine xl_ltq (by assumption) (by omega) (fun _ _ => ?_) | with_reducible refine pf_b1 (fun _ => ?_) | with_reducible refine xf_ltv (fun _ => ?_)
set_option maxHeartbeats 4000000 in
theorem lx_M_trace {X : Nat → Prop} {S0 : SS}  : ∀ (S : SS) , LX X S0 S → pc (f_M_trace S ) (LX X S0) := by
  intro S h
  unfold f_M_trace
  repeat' first | with_reducible exact lxl_M_trace_24  FU _ _ _ _ (by assumption) | with_reducible unfold f_M_trace_258 | with_reducible unfold f_M_trace_245 | with_reducible unfold f_M_trace_240 | with_reducible unfold f_M_trace_195 | with_reducible unfold f_M_trace_166 | with_reducible unfold f_M_trace_165 | with_reducible unfold f_M_trace_128 | with_reducible unfold f_M_trace_127 | with_reducible unfold f_M_trace_87 | with_reducible exact pc_some (by assumption) | with_reducible exact pc_none | with_reducible refine pc_chk (fun _ => ?_) | with_reducible refine pc_if (fun _ => ?_) (fun _ => ?_) | with_reducible refine pc_on ?_ (fun _ _ => ?_) | with_reducible refine pc_b2 (lx_M_apart  _ _ _ _ _ (by assumption)) (fun _ _ _ => ?_) | with_reducible refine xl_lt (by assumption) (fun _ _ => ?_) | with_reducible refine xl_ltq (by assumption) (by omega) (fun _ _ => ?_) | with_reducible refine pf_b1 (fun _ => ?_) | with_reducible refine xf_ltv (fun _ => ?_)
set_option maxHeartbeats 4000000 in
theorem lxl_M_hold_182 {X : Nat → Prop} {S0 : SS} (x_195 : X 195)   : ∀ (n : Nat) (S : SS) (v2_ : Int) (v3_ : Int) (v4_ : Int) (v5_ : Int), LX X S0 S → pc (f_M_hold_182  n S v2_ v3_ v4_ v5_) (fun u => LX X S0 u.2) := by
  intro n
  induction n with
  | zero => intro S v2_ v3_ v4_ v5_ h r e; exact absurd e (by simp [f_M_hold_182])
  | succ n ih =>
    intro S v2_ v3_ v4_ v5_ h
    show pc (f_M_hold_182_b (f_M_hold_182 n) S v2_ v3_ v4_ v5_) _
    unfold f_M_hold_182_b
    repeat' first | with_reducible exact ih _ _ _ _ _ (by assumption) | with_reducible unfold f_M_hold_31 | with_reducible unfold f_M_hold_155 | with_reducible unfold f_M_hold_139 | with_reducible unfold f_M_hold_134 | with_reducible unfold f_M_hold_138 | with_reducible unfold f_M_hold_238 | with_reducible unfold f_M_hold_235 | with_reducible exact pc_some (by assumption) | with_reducible exact pc_none | with_reducible refine pc_chk (fun _ => ?_) | with_reducible refine pc_if (fun _ => ?_) (fun _ => ?_) | with_reducible refine pc_on ?_ (fun _ _ => ?_) | with_reducible refine pc_b1 (lx_M_make (x_195 := x_195) _ _ (by assumption)) (fun _ _ => ?_) | with_reducible refine pc_b1 (lx_M_trace  _ (by assumption)) (fun _ _ => ?_) | with_reducible refine pc_b2 (lx_M_apart  _ _ _ _ _ (by assumption)) (fun _ _ _ => ?_) | with_reducible refine pc_b1 (lx_M_judge  _ (by assumption)) (fun _ _ => ?_) | with_reducible refine xl_lt (by assumption) (fun _ _ => ?_) | with_reducible refine xl_lts (by assumption) (by first | exact x_195) (fun _ _ => ?_) | with_reducible refine xl_ltq (by assumption) (by omega) (fun _ _ => ?_) | with_reducible refine pf_b1 (fun _ => ?_) | with_reducible refine xf_ltv (fun _ => ?_)
set_option maxHeartbeats 4000000 in
theorem lxl_M_hold_55 {X : Nat → Prop} {S0 : SS} (x_195 : X 195)   : ∀ (n : Nat) (S : SS) (v1_ : Int) (v2_ : Int) (v3_ : Int) (v4_ : Int), LX X S0 S → pc (f_M_hold_55  n S v1_ v2_ v3_ v4_) (fun u => LX X S0 u.2) := by
  intro n
  induction n with
  | zero => intro S v1_ v2_ v3_ v4_ h r e; exact absurd e (by simp [f_M_hold_55])
  | succ n ih =>
    intro S v1_ v2_ v3_ v4_ h
    show pc (f_M_hold_55_b (f_M_hold_55 n) S v1_ v2_ v3_ v4_) _
    unfold f_M_hold_55_b
    repeat' first | with_reducible exact ih _ _ _ _ _ (by assumption) | with_reducible exact lxl_M_hold_182 (x_195 := x_195) FU _ _ _ _ _ (by assumption) | with_reducible unfold f_M_hold_31 | with_reducible unfold f_M_hold_155 | with_reducible unfold f_M_hold_139 | with_reducible unfold f_M_hold_134 | with_reducible unfold f_M_hold_138 | with_reducible unfold f_M_hold_238 | with_reducible unfold f_M_hold_235 | with_reducible exact pc_some (by assumption) | with_reducible exact pc_none | with_reducible refine pc_chk (fun _ => ?_) | with_reducible refine pc_if (fun _ => ?_) (fun _ => ?_) | with_reducible refine pc_on ?_ (fun _ _ => ?_) | with_reducible refine pc_b1 (lx_M_make (x_195 := x_195) _ _ (by assumption)) (fun _ _ => ?_) | with_reducible refine pc_b1 (lx_M_trace  _ (by assumption)) (fun _ _ => ?_) | with_reducible refine pc_b2 (lx_M_apart  _ _ _ _ _ (by assumption)) (fun _ _ _ => ?_) | with_reducible refine pc_b1 (lx_M_judge  _ (by assumption)) (fun _ _ => ?_) | with_reducible refine xl_lt (by assumption) (fun _ _ => ?_) | with_reducible refine xl_lts (by assumption) (by first | exact x_195) (fun _ _ => ?_) | with_reducible refine xl_ltq (by assumption) (by omega) (fun _ _ => ?_) | with_reducible refine pf_b1 (fun _ => ?_) | with_reducible refine xf_ltv (fun _ => ?_)
set_option maxHeartbeats 4000000 in
theorem lxl_M_hold_8 {X : Nat → Prop} {S0 : SS} (x_195 : X 195)   : ∀ (n : Nat) (S : SS) (v1_ : Int) (v2_ : Int), LX X S0 S → pc (f_M_hold_8  n S v1_ v2_) (fun u => LX X S0 u.2) := by
  intro n
  induction n with
  | zero => intro S v1_ v2_ h r e; exact absurd e (by simp [f_M_hold_8])
  | succ n ih =>
    intro S v1_ v2_ h
    show pc (f_M_hold_8_b (f_M_hold_8 n) S v1_ v2_) _
    unfold f_M_hold_8_b
    repeat' first | with_reducible exact ih _ _ _ (by assumption) | with_reducible exact lxl_M_hold_182 (x_195 := x_195) FU _ _ _ _ _ (by assumption) | with_reducible exact lxl_M_hold_55 (x_195 := x_195) FU _ _ _ _ _ (by assumption) | with_reducible unfold f_M_hold_31 | with_reducible unfold f_M_hold_155 | with_reducible unfold f_M_hold_139 | with_reducible unfold f_M_hold_134 | with_reducible unfold f_M_hold_138 | with_reducible unfold f_M_hold_238 | with_reducible unfold f_M_hold_235 | with_reducible exact pc_some (by assumption) | with_reducible exact pc_none | with_reducible refine pc_chk (fun _ => ?_) | with_reducible refine pc_if (fun _ => ?_) (fun _ => ?_) | with_reducible refine pc_on ?_ (fun _ _ => ?_) | with_reducible refine pc_b1 (lx_M_make (x_195 := x_195) _ _ (by assumption)) (fun _ _ => ?_) | with_reducible refine pc_b1 (lx_M_trace  _ (by assumption)) (fun _ _ => ?_) | with_reducible refine pc_b2 (lx_M_apart  _ _ _ _ _ (by assumption)) (fun _ _ _ => ?_) | with_reducible refine pc_b1 (lx_M_judge  _ (by assumption)) (fun _ _ => ?_) | with_reducible refine xl_lt (by assumption) (fun _ _ => ?_) | with_reducible refine xl_lts (by assumption) (by first | exact x_195) (fun _ _ => ?_) | with_reducible refine xl_ltq (by assumption) (by omega) (fun _ _ => ?_) | with_reducible refine pf_b1 (fun _ => ?_) | with_reducible refine xf_ltv (fun _ => ?_)
set_option maxHeartbeats 4000000 in
theorem lx_M_hold {X : Nat → Prop} {S0 : SS} (x_195 : X 195) : ∀ (S : SS) , LX X S0 S → pc (f_M_hold S ) (fun u => LX X S0 u.2) := by
  intro S h
  unfold f_M_hold
  repeat' first | with_reducible exact lxl_M_hold_182 (x_195 := x_195) FU _ _ _ _ _ (by assumption) | with_reducible exact lxl_M_hold_55 (x_195 := x_195) FU _ _ _ _ _ (by assumption) | with_reducible exact lxl_M_hold_8 (x_195 := x_195) FU _ _ _ (by assumption) | with_reducible unfold f_M_hold_31 | with_reducible unfold f_M_hold_155 | with_reducible unfold f_M_hold_139 | with_reducible unfold f_M_hold_134 | with_reducible unfold f_M_hold_138 | with_reducible unfold f_M_hold_238 | with_reducible unfold f_M_hold_235 | with_reducible exact pc_some (by assumption) | with_reducible exact pc_none | with_reducible refine pc_chk (fun _ => ?_) | with_reducible refine pc_if (fun _ => ?_) (fun _ => ?_) | with_reducible refine pc_on ?_ (fun _ _ => ?_) | with_reducible refine pc_b1 (lx_M_make (x_195 := x_195) _ _ (by assumption)) (fun _ _ => ?_) | with_reducible refine pc_b1 (lx_M_trace  _ (by assumption)) (fun _ _ => ?_) | with_reducible refine pc_b2 (lx_M_apart  _ _ _ _ _ (by assumption)) (fun _ _ _ => ?_) | with_reducible refine pc_b1 (lx_M_judge  _ (by assumption)) (fun _ _ => ?_) | with_reducible refine xl_lt (by assumption) (fun _ _ => ?_) | with_reducible refine xl_lts (by assumption) (by first | exact x_195) (fun _ _ => ?_) | with_reducible refine xl_ltq (by assumption) (by omega) (fun _ _ => ?_) | with_reducible refine pf_b1 (fun _ => ?_) | with_reducible refine xf_ltv (fun _ => ?_)
set_option maxHeartbeats 4000000 in
theorem lx_M_error {X : Nat → Prop} {S0 : SS}  : ∀ (S : SS) (v1 : Int) (v2 : Int), LX X S0 S → pc (f_M_error S v1 v2) (fun u => LX X S0 u.2) := by
  intro S v1 v2 h
  unfold f_M_error
  repeat' first | with_reducible exact pc_some (by assumption) | with_reducible exact pc_none | with_reducible refine pc_chk (fun _ => ?_) | with_reducible refine pc_if (fun _ => ?_) (fun _ => ?_) | with_reducible refine pc_on ?_ (fun _ _ => ?_) | with_reducible refine xl_lt (by assumption) (fun _ _ => ?_) | with_reducible refine xl_ltq (by assumption) (by omega) (fun _ _ => ?_) | with_reducible refine pf_b1 (fun _ => ?_) | with_reducible refine xf_ltv (fun _ => ?_)
set_option maxHeartbeats 4000000 in
theorem lx_M_price {X : Nat → Prop} {S0 : SS}  : ∀ (S : SS) (v1 : Int) (v2 : Int), LX X S0 S → pc (f_M_price S v1 v2) (fun u => LX X S0 u.2) := by
  intro S v1 v2 h
  unfold f_M_price
  repeat' first | with_reducible exact pc_some (by assumption) | with_reducible exact pc_none | with_reducible refine pc_chk (fun _ => ?_) | with_reducible refine pc_if (fun _ => ?_) (fun _ => ?_) | with_reducible refine pc_on ?_ (fun _ _ => ?_) | with_reducible refine xl_lt (by assumption) (fun _ _ => ?_) | with_reducible refine xl_ltq (by assumption) (by omega) (fun _ _ => ?_) | with_reducible refine pf_b1 (fun _ => ?_) | with_reducible refine xf_ltv (fun _ => ?_)
set_option maxHeartbeats 4000000 in
theorem lxl_M_pays_21 {X : Nat → Prop} {S0 : SS}  (v1 : Int)  : ∀ (n : Nat) (S : SS) (v2_ : Int) (v3_ : Int), LX X S0 S → pc (f_M_pays_21 v1 n S v2_ v3_) (fun u => LX X S0 u.2) := by
  intro n
  induction n with
  | zero => intro S v2_ v3_ h r e; exact absurd e (by simp [f_M_pays_21])
  | succ n ih =>
    intro S v2_ v3_ h
    show pc (f_M_pays_21_b v1 (f_M_pays_21 v1 n) S v2_ v3_) _
    unfold f_M_pays_21_b
    repeat' first | with_reducible exact ih _ _ _ (by assumption) | with_reducible unfold f_M_pays_91 | with_reducible unfold f_M_pays_90 | with_reducible unfold f_M_pays_73 | with_reducible unfold f_M_pays_63 | with_reducible unfold f_M_pays_58 | with_reducible exact pc_some (by assumption) | with_reducible exact pc_none | with_reducible refine pc_chk (fun _ => ?_) | with_reducible refine pc_if (fun _ => ?_) (fun _ => ?_) | with_reducible refine pc_on ?_ (fun _ _ => ?_) | with_reducible refine pc_b1 (lx_M_judge  _ (by assumption)) (fun _ _ => ?_) | with_reducible refine xl_lt (by assumption) (fun _ _ => ?_) | with_reducible refine xl_ltq (by assumption) (by omega) (fun _ _ => ?_) | with_reducible refine pf_b1 (fun _ => ?_) | with_reducible refine xf_ltv (fun _ => ?_)
set_option maxHeartbeats 4000000 in
theorem lx_M_pays {X : Nat → Prop} {S0 : SS}  : ∀ (S : SS) (v1 : Int), LX X S0 S → pc (f_M_pays S v1) (fun u => LX X S0 u.2) := by
  intro S v1 h
  unfold f_M_pays
  repeat' first | with_reducible exact lxl_M_pays_21  _ FU _ _ _ (by assumption) | with_reducible unfold f_M_pays_91 | with_reducible unfold f_M_pays_90 | with_reducible unfold f_M_pays_73 | with_reducible unfold f_M_pays_63 | with_reducible unfold f_M_pays_58 | with_reducible exact pc_some (by assumption) | with_reducible exact pc_none | with_reducible refine pc_chk (fun _ => ?_) | with_reducible refine pc_if (fun _ => ?_) (fun _ => ?_) | with_reducible refine pc_on ?_ (fun _ _ => ?_) | with_reducible refine pc_b1 (lx_M_judge  _ (by assumption)) (fun _ _ => ?_) | with_reducible refine xl_lt (by assumption) (fun _ _ => ?_) | with_reducible refine xl_ltq (by assumption) (by omega) (fun _ _ => ?_) | with_reducible refine pf_b1 (fun _ => ?_) | with_reducible refine xf_ltv (fun _ => ?_)
set_option maxHeartbeats 4000000 in
theorem lxl_M_count_87 {X : Nat → Prop} {S0 : SS} (x_195 : X 195) (v1 : Int)  : ∀ (n : Nat) (S : SS) (v2_ : Int) (v3_ : Int), LX X S0 S → pc (f_M_count_87 v1 n S v2_ v3_) (fun u => LX X S0 u.2) := by
  intro n
  induction n with
  | zero => intro S v2_ v3_ h r e; exact absurd e (by simp [f_M_count_87])
  | succ n ih =>
    intro S v2_ v3_ h
    show pc (f_M_count_87_b v1 (f_M_count_87 v1 n) S v2_ v3_) _
    unfold f_M_count_87_b
    repeat' first | with_reducible exact ih _ _ _ (by assumption) | with_reducible unfold f_M_count_136 | with_reducible exact pc_some (by assumption) | with_reducible exact pc_none | with_reducible refine pc_chk (fun _ => ?_) | with_reducible refine pc_if (fun _ => ?_) (fun _ => ?_) | with_reducible refine pc_on ?_ (fun _ _ => ?_) | with_reducible refine pc_b1 (lx_M_judge  _ (by assumption)) (fun _ _ => ?_) | with_reducible refine pc_b2 (lx_M_wordsOf (x_195 := x_195) _ _ (by assumption)) (fun _ _ _ => ?_) | with_reducible refine xl_lt (by assumption) (fun _ _ => ?_) | with_reducible refine xl_lts (by assumption) (by first | exact x_195) (fun _ _ => ?_) | with_reducible refine xl_ltq (by assumption) (by omega) (fun _ _ => ?_) | with_reducible refine pf_b1 (fun _ => ?_) | with_reducible refine xf_ltv (fun _ => ?_)
set_option maxHeartbeats 4000000 in
theorem lx_M_count {X : Nat → Prop} {S0 : SS} (x_195 : X 195) : ∀ (S : SS) (v1 : Int), LX X S0 S → pc (f_M_count S v1) (fun u => LX X S0 u.2) := by
  intro S v1 h
  unfold f_M_count
  repeat' first | with_reducible exact lxl_M_count_87 (x_195 := x_195) _ FU _ _ _ (by assumption) | with_reducible unfold f_M_count_136 | with_reducible exact pc_some (by assumption) | with_reducible exact pc_none | with_reducible refine pc_chk (fun _ => ?_) | with_reducible refine pc_if (fun _ => ?_) (fun _ => ?_) | with_reducible refine pc_on ?_ (fun _ _ => ?_) | with_reducible refine pc_b1 (lx_M_judge  _ (by assumption)) (fun _ _ => ?_) | with_reducible refine pc_b2 (lx_M_wordsOf (x_195 := x_195) _ _ (by assumption)) (fun _ _ _ => ?_) | with_reducible refine xl_lt (by assumption) (fun _ _ => ?_) | with_reducible refine xl_lts (by assumption) (by first | exact x_195) (fun _ _ => ?_) | with_reducible refine xl_ltq (by assumption) (by omega) (fun _ _ => ?_) | with_reducible refine pf_b1 (fun _ => ?_) | with_reducible refine xf_ltv (fun _ => ?_)
