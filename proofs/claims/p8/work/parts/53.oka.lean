/-- text v has room for n words -/
def cpt (v n : Int) : Prop := 0 ≤ n ∧ n ≤ 320 ∧ (v = 0 → n ≤ 60) ∧ (v = 1 → n ≤ 150)
theorem ok_M_wordAt {b : Nat} (S : SS) (v1 v2 n : Int) (hC : MX b S) (hc : cpt v1 n) (h : 0 ≤ v2 ∧ v2 < n) : okk (f_M_wordAt S v1 v2) (fun _ => True) := by
  obtain ⟨_, h2, h3, h4⟩ := hc
  unfold f_M_wordAt
  refine ok_if (fun c => ?_) (fun c => ok_if (fun c2 => ?_) (fun c2 => ?_))
  · have := h3 c; exact ok_chk (by omega) (ok_some trivial)
  · have := h4 c2; exact ok_chk (by omega) (ok_some trivial)
  · exact ok_chk (by omega) (ok_some trivial)
/-- the table behind (x, y): what is laid already -/
def FT (S : SS) (n m x y : Int) : Prop := ∀ (i j : Int), 0 ≤ i → i ≤ n → 0 ≤ j → j ≤ m → (x < i ∨ (x = i ∧ y < j)) → 0 ≤ gi S 215 (321 * i + j).toNat ∧ gi S 215 (321 * i + j).toNat ≤ (n - i) + (m - j)
/-- all but the table stays -/
def FF (S S1 : SS) : Prop := ∀ r k, r ≠ 215 → gi S1 r k = gi S r k
theorem ft_set {S S1 : SS} {n m x y v : Int} (hF : FT S n m x y) (e : S1 = si S 215 (321 * x + y).toNat v) (hx : 0 ≤ x ∧ x ≤ n ∧ n ≤ 320) (hy : 0 ≤ y ∧ y ≤ m ∧ m ≤ 320) (hv : 0 ≤ v ∧ v ≤ (n - x) + (m - y)) : FT S1 n m x (y + (-1)) := by
  intro i j i0 i1 j0 j1 h
  rw [e, gi_si]
  by_cases q : 215 = 215 ∧ (321 * i + j).toNat = (321 * x + y).toNat
  · rw [if_pos q]
    have : i = x ∧ j = y := by omega
    rw [this.1, this.2]; exact hv
  · rw [if_neg q]
    exact hF i j i0 i1 j0 j1 (by omega)
theorem ok_apart140 {b : Nat} (v1 v2 v3 v4 : Int) (k3 : SS → Int → Option (Int × SS)) (k12 : SS → Int → Int → Option (Int × SS)) (S0 S : SS) (v5_ v6_ v7_ : Int) (P : Int × SS → Prop) (hC : MX b S) (hF : FT S v2 v4 v5_ v6_) (hG : FF S0 S) (h5 : 0 ≤ v5_ ∧ v5_ ≤ v2 ∧ v2 ≤ 320) (h6 : 0 ≤ v6_ ∧ v6_ ≤ v4 ∧ v4 ≤ 320) (hv : 0 ≤ v7_ ∧ v7_ ≤ (v2 - v5_) + (v4 - v6_)) (hk : ∀ S', MX b S' → FT S' v2 v4 v5_ (v6_ + (-1)) → FF S0 S' → okk (k12 S' v5_ (v6_ + (-1))) P) : okk (f_M_apart_140 v1 v2 v3 v4 k3 k12 S v5_ v6_ v7_) P := by
  unfold f_M_apart_140
  refine ok_b1 (ok_M_at S v5_ v6_ hC (by omega) (by omega)) (fun r hr => ok_chk (by omega) (ok_lt (fun S3 e => ok_chk (by omega) ?_)))
  have e : S3 = si S 215 (321 * v5_ + v6_).toNat v7_ := by rw [e, hr]
  refine hk S3 (by rw [e]; exact ms_215 hC (by omega) (by omega)) (ft_set hF e h5 h6 hv) (fun r k h => ?_)
  rw [gi_ne e (by omega)]; exact hG r k h
theorem ok_apart85 {b : Nat} (v1 v2 v3 v4 : Int) (k3 : SS → Int → Option (Int × SS)) (k12 : SS → Int → Int → Option (Int × SS)) (S0 S : SS) (v5_ v6_ vt0_ : Int) (P : Int × SS → Prop) (hC : MX b S) (hF : FT S v2 v4 v5_ v6_) (hG : FF S0 S) (h5 : 0 ≤ v5_ ∧ v5_ ≤ v2 ∧ v2 ≤ 320) (h6 : 0 ≤ v6_ ∧ v6_ ≤ v4 ∧ v4 ≤ 320) (hv : 0 ≤ vt0_ ∧ vt0_ ≤ (v2 - v5_) + (v4 - v6_)) (hk : ∀ S', MX b S' → FT S' v2 v4 v5_ (v6_ + (-1)) → FF S0 S' → okk (k12 S' v5_ (v6_ + (-1))) P) : okk (f_M_apart_85 v1 v2 v3 v4 k3 k12 S v5_ v6_ vt0_) P := by
  unfold f_M_apart_85
  refine ok_if (fun _ => ok_apart140 v1 v2 v3 v4 k3 k12 S0 S v5_ v6_ _ P hC hF hG h5 h6 hv hk) (fun c1 => ok_if (fun _ => ok_apart140 v1 v2 v3 v4 k3 k12 S0 S v5_ v6_ _ P hC hF hG h5 h6 hv hk) (fun c2 => ?_))
  refine ok_chk (by omega) (ok_b1 (ok_M_at S (v5_ + 1) v6_ hC (by omega) (by omega)) (fun r2 e2 => ok_chk (by omega) (ok_chk (by omega) (ok_b1 (ok_M_at S v5_ (v6_ + 1) hC (by omega) (by omega)) (fun r6 e6 => ok_chk (by omega) ?_)))))
  have a := hF (v5_ + 1) v6_ (by omega) (by omega) (by omega) (by omega) (by omega)
  have d := hF v5_ (v6_ + 1) (by omega) (by omega) (by omega) (by omega) (by omega)
  rw [← e2] at a
  rw [← e6] at d
  exact ok_chk (by omega) (ok_apart140 v1 v2 v3 v4 k3 k12 S0 S v5_ v6_ _ P hC hF hG h5 h6 (by omega) hk)
theorem okl_apart12 {b : Nat} (v1 v2 v3 v4 : Int) (k3 : SS → Int → Option (Int × SS)) (S0 : SS) (m : Int) (P : Int × SS → Prop) (hc1 : cpt v1 v2) (hc3 : cpt v3 v4) (h5 : 0 ≤ m ∧ m ≤ v2) (hk3 : ∀ S', MX b S' → FT S' v2 v4 m (-1) → FF S0 S' → okk (k3 S' (m + (-1))) P) : ∀ (n : Nat) (S : SS) (v6_ : Int), MX b S → FT S v2 v4 m v6_ → FF S0 S → (-1 ≤ v6_ ∧ v6_ ≤ v4) → v6_ + 1 < (n : Int) → okk (f_M_apart_12 v1 v2 v3 v4 k3 n S m v6_) P := by
  have b2 : v2 ≤ 320 := hc1.2.1
  have b4 : v4 ≤ 320 := hc3.2.1
  intro n
  induction n with
  | zero => intro S v6_ hC hF hG hi hm; exfalso; omega
  | succ n ih =>
    intro S v6_ hC hF hG hi hm
    have hm : v6_ + 1 < (n : Int) + 1 := by omega
    show okk (f_M_apart_12_b v1 v2 v3 v4 k3 (f_M_apart_12 v1 v2 v3 v4 k3 n) S m v6_) _
    unfold f_M_apart_12_b
    refine ok_if (fun c1 => ?_) (fun c1 => ?_)
    · rw [show v6_ = -1 by omega] at hF
      exact ok_chk (by omega) (hk3 S hC hF hG)
    have hk : ∀ S', MX b S' → FT S' v2 v4 m (v6_ + (-1)) → FF S0 S' → okk (f_M_apart_12 v1 v2 v3 v4 k3 n S' m (v6_ + (-1))) P := fun S' q1 q2 q3 => ih S' _ q1 q2 q3 (by omega) (by omega)
    refine ok_if (fun c2 => ok_chk (by omega) (ok_apart85 v1 v2 v3 v4 k3 _ S0 S m v6_ _ P hC hF hG (by omega) (by omega) (by omega) hk)) (fun c2 => ok_if (fun c3 => ok_chk (by omega) (ok_apart85 v1 v2 v3 v4 k3 _ S0 S m v6_ _ P hC hF hG (by omega) (by omega) (by omega) hk)) (fun c3 => ?_))
    refine ok_chk (by omega) (ok_chk (by omega) (ok_b1 (ok_M_at S (m + 1) (v6_ + 1) hC (by omega) (by omega)) (fun r4 e4 => ok_chk (by omega) (ok_b1 (ok_M_wordAt S v1 m v2 hC hc1 (by omega)) (fun w7 _ => ok_b1 (ok_M_wordAt S v3 v6_ v4 hC hc3 (by omega)) (fun w9 _ => ?_))))))
    have a := hF (m + 1) (v6_ + 1) (by omega) (by omega) (by omega) (by omega) (by omega)
    rw [← e4] at a
    refine ok_if (fun _ => ?_) (fun _ => ?_)
    · unfold f_M_apart_84
      exact ok_chk (by omega) (ok_apart85 v1 v2 v3 v4 k3 _ S0 S m v6_ _ P hC hF hG (by omega) (by omega) (by omega) hk)
    · unfold f_M_apart_84
      exact ok_chk (by omega) (ok_apart85 v1 v2 v3 v4 k3 _ S0 S m v6_ _ P hC hF hG (by omega) (by omega) (by omega) hk)
theorem okl_apart3 {b : Nat} (v1 v2 v3 v4 : Int) (S0 : SS) (hc1 : cpt v1 v2) (hc3 : cpt v3 v4) : ∀ (n : Nat) (S : SS) (v5_ : Int), MX b S → FT S v2 v4 v5_ v4 → FF S0 S → (-1 ≤ v5_ ∧ v5_ ≤ v2) → v5_ + 1 < (n : Int) → okk (f_M_apart_3 v1 v2 v3 v4 n S v5_) (fun u => MX b u.2 ∧ FF S0 u.2 ∧ 0 ≤ u.1 ∧ u.1 ≤ v2 + v4) := by
  have b2 : v2 ≤ 320 := hc1.2.1
  have b4 : v4 ≤ 320 := hc3.2.1
  have b2' : 0 ≤ v2 := hc1.1
  have b4' : 0 ≤ v4 := hc3.1
  intro n
  induction n with
  | zero => intro S v5_ hC hF hG hi hm; exfalso; omega
  | succ n ih =>
    intro S v5_ hC hF hG hi hm
    have hm : v5_ + 1 < (n : Int) + 1 := by omega
    show okk (f_M_apart_3_b v1 v2 v3 v4 (f_M_apart_3 v1 v2 v3 v4 n) S v5_) _
    unfold f_M_apart_3_b
    refine ok_if (fun c1 => ?_) (fun c1 => ?_)
    · have a := hF 0 0 (by omega) (by omega) (by omega) (by omega) (by omega)
      rw [show (321 * 0 + 0 : Int).toNat = 0 from rfl] at a
      exact ok_some ⟨hC, hG, by dsimp only; omega⟩
    · exact okl_apart12 v1 v2 v3 v4 _ S0 v5_ _ hc1 hc3 (by omega) (fun S' q1 q2 q3 => ih S' _ q1 (fun i j i0 i1 j0 j1 h => q2 i j i0 i1 j0 j1 (by omega)) q3 (by omega) (by omega)) FU S v4 hC hF hG (by omega) (by unfold FU; omega)
theorem ok_M_apart {b : Nat} (S : SS) (v1 v2 v3 v4 : Int) (hC : MX b S) (hc1 : cpt v1 v2) (hc3 : cpt v3 v4) : okk (f_M_apart S v1 v2 v3 v4) (fun u => MX b u.2 ∧ FF S u.2 ∧ 0 ≤ u.1 ∧ u.1 ≤ v2 + v4) := by
  have b2 : v2 ≤ 320 := hc1.2.1
  have b2' : 0 ≤ v2 := hc1.1
  unfold f_M_apart
  exact okl_apart3 v1 v2 v3 v4 S hc1 hc3 FU S v2 hC (fun i j i0 i1 j0 j1 h => by omega) (fun r k _ => rfl) (by omega) (by unfold FU; omega)
