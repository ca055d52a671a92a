theorem xl_wr {β : Type} {X : Nat → Prop} {S0 S : SS} {a c : Int} {g : SS → Option β} {P : β → Prop} (h : LX X S0 S) (hk : ∀ y, LX X S0 y → pc (g y) P) : pc (w_lt (f_M_wrong S a c) g) P := hk _ h
theorem lxl_M_readProof {X : Nat → Prop} {S0 : SS} (x_198 : X 198) (v1 : Int) : ∀ (n : Nat) (S : SS) (v2 v3 v4 : Int), LX X S0 S → pc (f_M_readProof_7 v1 n S v2 v3 v4) (fun u => LX X S0 u.2) := by
  intro n
  induction n with
  | zero => intro S v2 v3 v4 h r e; exact absurd e (by simp [f_M_readProof_7])
  | succ n ih =>
    intro S v2 v3 v4 h
    show pc (f_M_readProof_7_b v1 (f_M_readProof_7 v1 n) S v2 v3 v4) _
    unfold f_M_readProof_7_b f_M_readProof_86 f_M_readProof_112 f_M_readProof_51
    repeat' first | with_reducible exact ih _ _ _ _ (by assumption) | with_reducible exact pc_some (by assumption) | with_reducible refine pc_chk (fun _ => ?_) | with_reducible refine pc_if (fun _ => ?_) (fun _ => ?_) | with_reducible refine xl_wr (by assumption) (fun _ _ => ?_) | with_reducible refine xl_lts (by assumption) x_198 (fun _ _ => ?_) | with_reducible refine pf_b1 (fun _ => ?_)
abbrev X198 (r : Nat) : Prop := r = 198
theorem lx_rp {T T1 : SS} {most : Int} {o : Option Int} (h : f_M_readProof (f_M_begin T) most = some (o, T1)) : LX X198 T T1 := lxl_M_readProof (X := X198) (S0 := T) rfl most FU (f_M_begin T) 0 0 0 (LX_refl _ T) _ h
/-- THE RELATION of the texts: RM, all words, THE TEXT -/
def RT (S T : SS) : Prop := RM S T ∧ WF S T ∧ WS S T ∧ WM S T ∧ HL (gl S 9) (gi S 8 1) (tx T 0)
theorem RT_mk {S T S1 T1 : SS} (hM : MX 0 T) (hN : NX T) (h : RT S T) (hr : RM S1 T1) (cs : ∀ r k, r = 5 ∨ r = 7 ∨ r = 9 ∨ (14 ≤ r ∧ r < 174) → gl S1 r k = gl S r k) (c8 : gi S1 8 1 = gi S 8 1) (ts : ∀ r k, r = 193 ∨ r = 194 ∨ r = 206 → gl T1 r k = gl T r k) (ti : ∀ r k, (r = 192 ∧ (k = 3 ∨ k = 4 ∨ k = 27)) ∨ (199 ≤ r ∧ r ≤ 205) ∨ r = 207 ∨ r = 209 → gi T1 r k = gi T r k) : RT S1 T1 := by
  obtain ⟨_, h2, h3, h4, h5⟩ := h
  have b27 := mx_192_27 hM
  have en := ti 192 27 (by omega)
  refine ⟨hr, fun i hi => ?_, fun i hi => ?_, fun k hk j hj => ?_, ?_⟩
  · rw [ti 192 3 (by omega)] at hi
    rw [cs 5 i (by omega), ts 193 i (by omega)]; exact h2 i hi
  · rw [ti 192 4 (by omega)] at hi
    rw [cs 7 i (by omega), ts 194 i (by omega)]; exact h3 i hi
  · rw [en] at hk
    rw [ti 204 k (by omega)] at hj
    rw [cs (14 + 4 * k + 3) j (by omega), ts 206 _ (by omega)]; exact h4 k hk j hj
  · rw [tx_cg hM hN 0 en (ti 192 3 (by omega)) (mst_cg en (fun r k a => ti r k (by omega))) (fun r k a _ => ti r k (by omega)) (fun i _ => ts 193 i (by omega)) (fun k _ j _ => ts 206 _ (by omega))]
    exact HL_cg h5 c8 (fun i _ => cs 9 i (by omega))
theorem RT_set {S S1 T : SS} (hC : CX 0 S) (hM : MX 0 T) (hN : NX T) (hr : RM S1 T) (e : f_MP_settle S = some S1) (hf : WF S T) (hs : WS S T) (hm : WM S T) : RT S1 T := by
  have X := tx_settle hC hM hN hr e hf hm
  have b27 := mx_192_27 hM
  exact ⟨hr, fun i hi => (X.1 5 i (by decide)).trans (hf i hi), fun i hi => (X.1 7 i (by decide)).trans (hs i hi), fun k hk j hj => (X.1 (14 + 4 * k + 3) j (by omega)).trans (hm k hk j hj), X.2⟩
theorem RT_0 : RT SZ SZ := by
  refine ⟨RM_0, fun i hi => rfl, fun i hi => rfl, fun k hk => absurd hk ?_, ?_⟩
  · show ¬ (k : Int) < 0
    omega
  · have e : tx SZ 0 = [] := rfl
    rw [e]; exact HL_nil _
abbrev X195 (r : Nat) : Prop := r = 195
abbrev XNo (_ : Nat) : Prop := False
theorem RT_ref {S T T1 : SS} (hM : MX 0 T) (hN : NX T) (h : RT S T) (f2 : fr XH T T1) (l2 : LX X195 T T1) : RT S T1 := RT_mk hM hN h (RM_ref hM h.1 f2) (fun _ _ _ => rfl) rfl (fun r k a => l2.1 r k (by show ¬ r = 195; omega)) (fun r k p => f2 r k (by omega))
theorem RT_hold {S T S1 T1 : SS} {r t : Int} (hM : MX 0 T) (hN : NX T) (h : RT S T) (h1 : f_MP_hold S = some (r, S1)) (h2 : f_M_hold T = some (t, T1)) : RT S1 T1 := by
  have f1 := fs_hold S _ h1
  have f2 := fh_hold hM hN _ h2
  have l1 := ly_hold S _ h1
  have l2 := lx_M_hold (X := X195) (S0 := T) rfl T (LX_refl _ T) _ h2
  exact RT_mk hM hN h (RM_hold hM hN h.1 h1 h2) (fun r k a => l1 r k (by show ¬ r = 185; omega)) (f1 8 1 (by omega)) (fun r k a => l2.1 r k (by show ¬ r = 195; omega)) (fun r k p => f2 r k (by omega))
theorem RT_distance {S T S1 T1 : SS} {a1 a2 r t : Int} (hM : MX 0 T) (hN : NX T) (h : RT S T) (h1 : f_MP_distance S a1 a2 = some (r, S1)) (h2 : f_M_distance T a1 a2 = some (t, T1)) : RT S1 T1 := by
  have f1 := fx_MP_distance (X := fun r _ => r = 182) (S0 := S) (x_182 := fun k => rfl) S a1 a2 (FX_refl _ S) _ h1
  have f2 := fh_distance hM hN a1 a2 _ h2
  have l1 := lx_MP_distance (X := XNo) (S0 := S) S a1 a2 (LX_refl _ S) _ h1
  have l2 := lx_M_distance (X := X195) (S0 := T) rfl T a1 a2 (LX_refl _ T) _ h2
  exact RT_mk hM hN h (RM_distance hM hN h.1 h1 h2) (fun r k a => l1.1 r k (fun z => z)) (f1.1 8 1 (by omega)) (fun r k a => l2.1 r k (by show ¬ r = 195; omega)) (fun r k p => f2 r k (by omega))
theorem RT_feed {S T S1 T1 : SS} {a1 a2 a3 a4 a5 r t : Int} (hC : CX 0 S) (hM : MX 0 T) (hN : NX T) (h : RT S T) (h1 : f_MP_feed S a1 a2 a3 a4 a5 = some (r, S1)) (h2 : f_M_feed T a1 a2 a3 a4 a5 = some (t, T1)) : RT S1 T1 := by
  have f1 := fx_MP_feed (X := XCT) (S0 := S) (x_2 := fun k => .inl rfl) (x_1_1 := .inr ⟨rfl, rfl⟩) S a1 a2 a3 a4 a5 (FX_refl _ S) _ h1
  have f2 := fm_feed T a1 a2 a3 a4 a5 _ h2
  have l1 := lx_MP_feed (X := XNo) (S0 := S) S a1 a2 a3 a4 a5 (LX_refl _ S) _ h1
  have l2 := lx_M_feed (X := XNo) (S0 := T) T a1 a2 a3 a4 a5 (LX_refl _ T) _ h2
  exact RT_mk hM hN h (RM_feed hC hM h.1 h1 h2) (fun r k a => l1.1 r k (fun z => z)) (f1.1 8 1 (by omega)) (fun r k a => l2.1 r k (fun z => z)) (fun r k p => f2 r k (by omega))
theorem RT_end {S T S1 T1 : SS} {a1 r t : Int} (hM : MX 0 T) (hN : NX T) (h : RT S T) (h1 : f_MP_end S a1 = some (r, S1)) (h2 : f_M_end T a1 = some (t, T1)) : RT S1 T1 := by
  have f1 := fx_MP_end (X := XCT) (S0 := S) (x_1_1 := .inr ⟨rfl, rfl⟩) S a1 (FX_refl _ S) _ h1
  have f2 := fm_end T a1 _ h2
  have l1 := lx_MP_end (X := XNo) (S0 := S) S a1 (LX_refl _ S) _ h1
  have l2 := lx_M_end (X := XNo) (S0 := T) T a1 (LX_refl _ T) _ h2
  exact RT_mk hM hN h (RM_end hM h.1 h1 h2) (fun r k a => l1.1 r k (fun z => z)) (f1.1 8 1 (by omega)) (fun r k a => l2.1 r k (fun z => z)) (fun r k p => f2 r k (by omega))
theorem fm_price (T : SS) (a1 a2 : Int) : pc (f_M_price T a1 a2) (fun u => fr (fun r _ => r = 210) T u.2) := by
  unfold f_M_price
  exact pc_if (fun _ => pc_some (fr_refl _ T)) (fun _ => pc_if (fun _ => pc_some (fr_refl _ T)) (fun _ => pc_chk (fun _ => pc_chk (fun _ => pf_lt (fr_refl _ T) rfl (fun _ h => pc_some h)))))
theorem fm_costs (T : SS) (a1 a2 : Int) : pc (f_M_costs T a1 a2) (fun u => fr (fun r _ => r = 211) T u.2) := by
  unfold f_M_costs
  exact pc_if (fun _ => pc_some (fr_refl _ T)) (fun _ => pc_if (fun _ => pc_some (fr_refl _ T)) (fun _ => pc_chk (fun _ => pf_lt (fr_refl _ T) rfl (fun _ h => pc_chk (fun _ => pf_lt h rfl (fun _ h => pc_some h))))))
theorem fm_error8 (T : SS) (a1 a2 : Int) : pc (f_M_error T a1 a2) (fun u => fr (fun r _ => r = 208) T u.2) := by
  unfold f_M_error
  have h0 := fr_refl (fun r _ => r = 208) T
  exact pf_b1 (fun _ => pc_if (fun _ => pc_some h0) (fun _ => pc_chk (fun _ => pc_if (fun _ => pc_some h0) (fun _ => pc_chk (fun _ => pc_chk (fun _ => pc_chk (fun _ => pf_lt h0 rfl (fun _ h => pc_if (fun _ => pc_some h) (fun _ => pc_some h)))))))))
theorem RT_price {S T S1 T1 : SS} {a1 a2 r t : Int} (hM : MX 0 T) (hN : NX T) (h : RT S T) (h1 : f_MP_price S a1 a2 = some (r, S1)) (h2 : f_M_price T a1 a2 = some (t, T1)) : RT S1 T1 := by
  have f1 := fx_MP_price (X := fun r _ => r = 191) (S0 := S) (x_191 := fun k => rfl) S a1 a2 (FX_refl _ S) _ h1
  have f2 := fm_price T a1 a2 _ h2
  have l1 := lx_MP_price (X := XNo) (S0 := S) S a1 a2 (LX_refl _ S) _ h1
  have l2 := lx_M_price (X := XNo) (S0 := T) T a1 a2 (LX_refl _ T) _ h2
  exact RT_mk hM hN h (RM_price hM h.1 h1 h2) (fun r k a => l1.1 r k (fun z => z)) (f1.1 8 1 (by omega)) (fun r k a => l2.1 r k (fun z => z)) (fun r k p => f2 r k (by omega))
theorem RT_costs {S T S1 T1 : SS} {a1 a2 r t : Int} (hM : MX 0 T) (hN : NX T) (h : RT S T) (h1 : f_MP_costs S a1 a2 = some (r, S1)) (h2 : f_M_costs T a1 a2 = some (t, T1)) : RT S1 T1 := by
  have f1 := fx_MP_costs (X := fun r _ => r = 183) (S0 := S) (x_183_5 := rfl) (x_183_6 := rfl) S a1 a2 (FX_refl _ S) _ h1
  have f2 := fm_costs T a1 a2 _ h2
  have l1 := lx_MP_costs (X := XNo) (S0 := S) S a1 a2 (LX_refl _ S) _ h1
  have l2 := lx_M_costs (X := XNo) (S0 := T) T a1 a2 (LX_refl _ T) _ h2
  exact RT_mk hM hN h (RM_costs hM h.1 h1 h2) (fun r k a => l1.1 r k (fun z => z)) (f1.1 8 1 (by omega)) (fun r k a => l2.1 r k (fun z => z)) (fun r k p => f2 r k (by omega))
theorem RT_error {S T S1 T1 : SS} {a1 a2 r t : Int} (hC : CX 0 S) (hM : MX 0 T) (hN : NX T) (h : RT S T) (h1 : f_MP_error S a1 a2 = some (r, S1)) (h2 : f_M_error T a1 a2 = some (t, T1)) : RT S1 T1 := by
  have f1 := fx_MP_error (X := fun r k => 14 ≤ r ∧ r < 174 ∧ k = 9) (S0 := S) (x_m_9 := fun j hj => by omega) S a1 a2 (FX_refl _ S) _ h1
  have f2 := fm_error8 T a1 a2 _ h2
  have l1 := lx_MP_error (X := XNo) (S0 := S) S a1 a2 (LX_refl _ S) _ h1
  have l2 := lx_M_error (X := XNo) (S0 := T) T a1 a2 (LX_refl _ T) _ h2
  exact RT_mk hM hN h (RM_error hC hM h.1 h1 h2).1 (fun r k a => l1.1 r k (fun z => z)) (f1.1 8 1 (by omega)) (fun r k a => l2.1 r k (fun z => z)) (fun r k p => f2 r k (by omega))
theorem RT_rank {S T S1 T1 : SS} {a1 a2 r t : Int} (hC : CX 0 S) (hM : MX 0 T) (hN : NX T) (hM1 : MX 0 T1) (hN1 : NX T1) (h : RT S T) (h1 : f_MP_rank S a1 a2 = some (r, S1)) (h2 : f_M_rank T a1 a2 = some (t, T1)) : RT S1 T1 := by
  have hr := RM_rank hC hM hN h.1 h1 h2
  have i1 := in01 T a1 0 2
  have i2 := in01 T a2 0 9
  unfold f_MP_rank at h1
  unfold f_M_rank at h2
  by_cases c : 0 ≤ a1 ∧ a1 ≤ 2 ∧ 0 ≤ a2 ∧ a2 ≤ 9
  · rw [if_neg (by omega), if_neg (by omega), if_neg (by omega), if_pos (by omega)] at h1
    rw [if_neg (by omega), if_neg (by omega)] at h2
    obtain ⟨_, h2⟩ := w_chkE h2
    obtain ⟨_, h2⟩ := w_chkE h2
    have h2 := w_ltX h2
    cases h2
    obtain ⟨r1, er, h1⟩ := w_b1E h1
    obtain ⟨_, h1⟩ := w_chkE h1
    have h1 := w_ltX h1
    obtain ⟨S4, e4, h1⟩ := w_b1E h1
    cases h1
    have gT : ∀ r k, r ≠ 209 → gi (si T 209 a1.toNat a2) r k = gi T r k := fun r k a => gi_off (fun q => a q.1)
    refine RT_set (S := si S 12 a1.toNat a2) (cs_12 hC (by omega) (by omega)) hM1 hN1 hr e4 (fun i hi => ?_) (fun i hi => ?_) (fun k hk j hj => ?_)
    · rw [gT 192 3 (by omega)] at hi; exact h.2.1 i hi
    · rw [gT 192 4 (by omega)] at hi; exact h.2.2.1 i hi
    · rw [gT 192 27 (by omega)] at hk
      rw [gT 204 k (by omega)] at hj
      exact h.2.2.2.1 k hk j hj
  · have q2 : T1 = T := by
      by_cases d : 0 ≤ a1 ∧ a1 ≤ 2
      · rw [if_neg (by omega), if_pos (by omega)] at h2; cases h2; rfl
      · rw [if_pos (by omega)] at h2; cases h2; rfl
    have q1 : S1 = S := by
      by_cases d1 : a1 < 0
      · rw [if_pos d1] at h1; cases h1; rfl
      rw [if_neg d1] at h1
      by_cases d2 : 3 ≤ a1
      · rw [if_pos d2] at h1; cases h1; rfl
      rw [if_neg d2] at h1
      by_cases d3 : a2 < 0
      · rw [if_pos d3] at h1; cases h1; rfl
      rw [if_neg d3, if_neg (by omega)] at h1; cases h1; rfl
    rw [q1, q2]; exact h
