theorem w_ltX {α β : Type} {x : α} {k : α → Option β} {r : β} (h : w_lt x k = some r) : k x = some r := h
/-- longs and references stay -/
theorem lq_lt {β : Type} {P : β → Prop} {S0 S : SS} {r k : Nat} {v : Int} {kf : SS → Option β} (h : S.2 = S0.2) (hk : ∀ S', S'.2 = S0.2 → pc (kf S') P) : pc (w_lt (si S r k v) kf) P := hk _ h
theorem lq_skip (S0 : SS) : ∀ (n : Nat) (S : SS) (i : Int), S.2 = S0.2 → pc (f_MarkReader_skipBlanks_5 n S i) (fun S1 => S1.2 = S0.2) := by
  intro n
  induction n with
  | zero => intro S i _ r e; exact absurd e (by simp [f_MarkReader_skipBlanks_5])
  | succ n ih =>
    intro S i h
    show pc (f_MarkReader_skipBlanks_5_b (f_MarkReader_skipBlanks_5 n) S i) _
    unfold f_MarkReader_skipBlanks_5_b
    exact pc_chk (fun _ => pc_if (fun _ => pc_some h) (fun _ => pc_chk (fun _ => pf_b1 (fun _ => pc_if (fun _ => pc_some h) (fun _ => pc_chk (fun _ => lq_lt h (fun S6 h6 => pc_chk (fun _ => ih S6 _ h6))))))))
theorem lq_run (S0 : SS) : ∀ (n : Nat) (S : SS) (i : Int), S.2 = S0.2 → pc (f_MarkReader_readToken_67 n S i) (fun S1 => S1.2 = S0.2) := by
  intro n
  induction n with
  | zero => intro S i _ r e; exact absurd e (by simp [f_MarkReader_readToken_67])
  | succ n ih =>
    intro S i h
    show pc (f_MarkReader_readToken_67_b (f_MarkReader_readToken_67 n) S i) _
    unfold f_MarkReader_readToken_67_b
    exact pc_chk (fun _ => pc_if (fun _ => pc_some h) (fun _ => pc_chk (fun _ => pf_b1 (fun _ => pc_if (fun _ => pc_chk (fun _ => lq_lt h (fun S6 h6 => pc_chk (fun _ => ih S6 _ h6)))) (fun _ => pc_some h)))))
theorem lq_token (S : SS) : pc (f_MarkReader_readToken S) (fun S1 => S1.2 = S.2) := by
  have E : ∀ S', S'.2 = S.2 → pc (f_MarkReader_readToken_54 S') (fun S1 => S1.2 = S.2) := fun S' h => by
    unfold f_MarkReader_readToken_54
    exact pc_if (fun _ => pc_some h) (fun _ => lq_run S FU S' _ h)
  unfold f_MarkReader_readToken f_MarkReader_skipBlanks
  exact pc_b1 (lq_skip S FU S _ rfl) (fun S1 h1 => lq_lt h1 (fun S4 h4 => pc_chk (fun _ => pf_b1 (fun _ => lq_lt h4 (fun S9 h9 => pc_chk (fun _ => pc_if (fun _ => E S9 h9) (fun _ => pc_chk (fun _ => lq_lt h9 (fun S14 h14 => E S14 h14)))))))))
theorem lq_81 (S0 : SS) : ∀ (n : Nat) (S : SS), S.2 = S0.2 → pc (f_M_scan_81 n S) (fun S1 => S1.2 = S0.2) := by
  intro n
  induction n with
  | zero => intro S _ r e; exact absurd e (by simp [f_M_scan_81])
  | succ n ih =>
    intro S h
    show pc (f_M_scan_81_b (f_M_scan_81 n) S) _
    unfold f_M_scan_81_b
    exact pf_b1 (fun _ => pc_if (fun _ => lq_lt h (fun S5 h5 => pc_some h5)) (fun _ => pc_chk (fun _ => lq_lt h (fun S8 h8 => ih S8 h8))))
theorem lq_128 (S0 : SS) : ∀ (n : Nat) (S : SS), S.2 = S0.2 → pc (f_M_scan_128 n S) (fun S1 => S1.2 = S0.2) := by
  intro n
  induction n with
  | zero => intro S _ r e; exact absurd e (by simp [f_M_scan_128])
  | succ n ih =>
    intro S h
    show pc (f_M_scan_128_b (f_M_scan_128 n) S) _
    unfold f_M_scan_128_b f_M_scan_178 f_M_scan_210
    repeat' first | with_reducible exact ih _ (by assumption) | with_reducible exact pc_some (by assumption) | with_reducible refine pc_chk (fun _ => ?_) | with_reducible refine pc_if (fun _ => ?_) (fun _ => ?_) | with_reducible refine lq_lt (by assumption) (fun _ _ => ?_) | with_reducible refine pf_b1 (fun _ => ?_)
theorem lq_38 (S0 S : SS) (h : S.2 = S0.2) : pc (f_M_scan_38 S) (fun S1 => S1.2 = S0.2) := by
  unfold f_M_scan_38 f_M_scan_235 f_M_scan_240
  repeat' first | with_reducible exact lq_81 S0 _ _ (by assumption) | with_reducible exact lq_128 S0 _ _ (by assumption) | with_reducible exact pc_some (by assumption) | with_reducible refine pc_chk (fun _ => ?_) | with_reducible refine pc_if (fun _ => ?_) (fun _ => ?_) | with_reducible refine lq_lt (by assumption) (fun _ _ => ?_) | with_reducible refine pf_b1 (fun _ => ?_)
theorem lq_scan0 (S0 : SS) : ∀ (n : Nat) (S : SS), S.2 = S0.2 → pc (f_M_scan_0 n S) (fun S1 => S1.2 = S0.2) := by
  intro n
  induction n with
  | zero => intro S _ r e; exact absurd e (by simp [f_M_scan_0])
  | succ n ih =>
    intro S h
    show pc (f_M_scan_0_b (f_M_scan_0 n) S) _
    unfold f_M_scan_0_b
    exact pc_if (fun _ => lq_38 S0 S h) (fun _ => pf_b1 (fun _ => pc_if (fun _ => lq_38 S0 S h) (fun _ => pc_chk (fun _ => lq_lt h (fun S8 h8 => ih S8 h8)))))
theorem lq_scan (T : SS) : pc (f_M_scan T) (fun T1 => T1.2 = T.2) := lq_scan0 T FU T rfl
theorem gl_2 {S S1 : SS} (h : S1.2 = S.2) (r k : Nat) : gl S1 r k = gl S r k := by unfold gl; rw [h]
