/-- the numbers of a mark are what its kind asks -/
def m_val (S : SS) (k : Nat) : Prop :=
  ((gi S 199 k = 0 ∨ gi S 199 k = 2) ∧ 0 ≤ gi S 201 k ∧ gi S 201 k ≤ gi S 202 k ∧ gi S 202 k < gi S 192 3)
  ∨ (gi S 199 k = 1 ∧ 0 ≤ gi S 201 k ∧ gi S 201 k ≤ gi S 192 3)
  ∨ (gi S 199 k = 3 ∧ 0 ≤ gi S 201 k ∧ gi S 201 k < gi S 202 k ∧ gi S 202 k ≤ gi S 203 k ∧ gi S 203 k < gi S 192 3)
  ∨ (gi S 199 k = 4 ∧ 0 ≤ gi S 201 k ∧ gi S 201 k ≤ gi S 202 k ∧ gi S 202 k < gi S 192 3 ∧ 0 ≤ gi S 203 k ∧ gi S 203 k ≤ gi S 192 3 ∧ (gi S 203 k < gi S 201 k ∨ gi S 202 k + 1 < gi S 203 k))
  ∨ (gi S 199 k = 5 ∧ 0 ≤ gi S 201 k ∧ gi S 201 k < (k : Int))
def NX (S : SS) : Prop := ∀ k : Nat, (k : Int) < gi S 192 27 → m_val S k
def m_dn (st : Nat → Int) : Nat → Nat
  | 0 => 0
  | k + 1 => m_dn st k + if st k = 0 then 1 else 0
def m_us (w : Int) (st : Nat → Int) (k : Nat) : Int := if st k = 0 ∧ ¬ (m_dn st k < 31 ∧ andi (shri w (m_dn st k : Int)) 1 = 1) then 1 else 0
/-- all stays but what is used -/
def q_f4 (S S1 : SS) : Prop := S1.2 = S.2 ∧ ∀ r k, r ≠ 214 → gi S1 r k = gi S r k
theorem q_f4_si {S S1 : SS} (h : q_f4 S S1) {k : Nat} {v : Int} : q_f4 S (si S1 214 k v) := by
  refine ⟨h.1, fun r' k' h1 => ?_⟩
  rw [gi_si, if_neg (by omega)]; exact h.2 r' k' h1
theorem pcl_use {b : Nat} (S0 : SS) (w : Int) : ∀ (n : Nat) (S : SS) (k : Nat), (k : Int) ≤ gi S0 192 27 → MX b S → q_f4 S0 S → (∀ j : Nat, j < k → gi S 214 j = m_us w (gi S0 212) j) → pc (f_M_use_8 w n S (m_dn (gi S0 212) k : Int) (k : Int)) (fun S1 => q_f4 S0 S1 ∧ ∀ j : Nat, (j : Int) < gi S0 192 27 → gi S1 214 j = m_us w (gi S0 212) j) := by
  intro n
  induction n with
  | zero => intro S k _ _ _ _ r e; exact absurd e (by simp [f_M_use_8])
  | succ n ih =>
    intro S k hk hC hf hu
    show pc (f_M_use_8_b w (f_M_use_8 w n) S (m_dn (gi S0 212) k : Int) (k : Int)) _
    have b27 := mx_192_27 hC
    have e27 : gi S 192 27 = gi S0 192 27 := hf.2 192 27 (by decide)
    have e212 : gi S 212 k = gi S0 212 k := hf.2 212 k (by decide)
    have go : ∀ (S' : SS) (d : Int), (k : Int) < gi S0 192 27 → MX b S' → q_f4 S0 S' → (∀ j : Nat, j < k → gi S' 214 j = gi S 214 j) → gi S' 214 k = m_us w (gi S0 212) k → d = (m_dn (gi S0 212) (k + 1) : Int) → pc (f_M_use_73 w (f_M_use_8 w n) S' d (k : Int)) (fun S1 => q_f4 S0 S1 ∧ ∀ j : Nat, (j : Int) < gi S0 192 27 → gi S1 214 j = m_us w (gi S0 212) j) := by
      intro S' d hlt hC' hf' h1 h2 hd
      unfold f_M_use_73
      refine pc_chk (fun _ => ?_)
      rw [hd, show (k : Int) + 1 = ((k + 1 : Nat) : Int) by omega]
      refine ih S' (k + 1) (by omega) hC' hf' (fun j hj => ?_)
      by_cases e : j = k
      · rw [e]; exact h2
      · rw [h1 j (by omega)]; exact hu j (by omega)
    have eq1 : ∀ (v : Int) (j : Nat), gi (si S 214 k v) 214 j = if j = k then v else gi S 214 j := by
      intro v j
      rw [gi_si]
      by_cases e : j = k
      · rw [if_pos ⟨rfl, e⟩, if_pos e]
      · rw [if_neg (fun q => e q.2), if_neg e]
    unfold f_M_use_8_b
    rw [Int.toNat_natCast, e27, e212]
    refine pc_if (fun c1 => pc_some ⟨hf, fun j hj => hu j (by omega)⟩) (fun c1 => pc_chk (fun _ => pc_if (fun c2 => ?_) (fun c2 => ?_)))
    · unfold f_M_use_35
      rw [Int.toNat_natCast]
      refine pc_chk (fun _ => pc_chk (fun _ => pc_lt (fun S2 e2 => pc_chk (fun _ => ?_))))
      have hC2 : MX b S2 := by rw [e2]; exact ms_214 hC (by decide) (by decide)
      have hf2 : q_f4 S0 S2 := by rw [e2]; exact q_f4_si hf
      have dn : m_dn (gi S0 212) (k + 1) = m_dn (gi S0 212) k + 1 := by rw [m_dn, if_pos c2]
      have k1 : gi S2 214 k = 1 := by rw [e2, eq1, if_pos rfl]
      have j1 : ∀ j : Nat, j < k → gi S2 214 j = gi S 214 j := fun j hj => by rw [e2, eq1, if_neg (by omega)]
      rw [k1]
      refine pc_if (fun c3 => absurd c3 (by decide)) (fun c3 => pc_if (fun c4 => ?_) (fun c4 => pc_if (fun c5 => pc_chk (fun _ => pc_lt (fun S6 e6 => ?_))) (fun c5 => ?_)))
      · unfold f_M_use_70
        refine pc_chk (fun _ => go S2 _ (by omega) hC2 hf2 j1 ?_ (by rw [dn]; omega))
        rw [k1]; unfold m_us; rw [if_pos ⟨c2, fun q => by omega⟩]
      · unfold f_M_use_70
        refine pc_chk (fun _ => go S6 _ (by omega) (by rw [e6]; exact ms_214 hC2 (by decide) (by decide)) (by rw [e6]; exact q_f4_si hf2) (fun j hj => ?_) ?_ (by rw [dn]; omega))
        · rw [e6, gi_si, if_neg (fun q => by omega)]; exact j1 j hj
        · rw [e6, gi_si, if_pos ⟨rfl, rfl⟩]; unfold m_us; rw [if_neg (fun q => q.2 ⟨by omega, c5⟩)]
      · unfold f_M_use_70
        refine pc_chk (fun _ => go S2 _ (by omega) hC2 hf2 j1 ?_ (by rw [dn]; omega))
        rw [k1]; unfold m_us; rw [if_pos ⟨c2, fun q => c5 q.2⟩]
    · unfold f_M_use_35
      rw [Int.toNat_natCast]
      refine pc_chk (fun _ => pc_chk (fun _ => pc_lt (fun S2 e2 => pc_chk (fun _ => ?_))))
      have hC2 : MX b S2 := by rw [e2]; exact ms_214 hC (by decide) (by decide)
      have hf2 : q_f4 S0 S2 := by rw [e2]; exact q_f4_si hf
      have dn : m_dn (gi S0 212) (k + 1) = m_dn (gi S0 212) k := by rw [m_dn, if_neg c2]; rfl
      have k0 : gi S2 214 k = 0 := by rw [e2, eq1, if_pos rfl]
      have j1 : ∀ j : Nat, j < k → gi S2 214 j = gi S 214 j := fun j hj => by rw [e2, eq1, if_neg (by omega)]
      rw [k0]
      refine pc_if (fun c3 => go S2 _ (by omega) hC2 hf2 j1 ?_ (by rw [dn])) (fun c3 => absurd rfl c3)
      rw [k0]; unfold m_us; rw [if_neg (fun q => c2 q.1)]
def q_fu (S S1 : SS) : Prop := S1.2 = S.2 ∧ ∀ r k, r ≠ 212 → r ≠ 213 → r ≠ 214 → gi S1 r k = gi S r k
theorem m_us_congr {w : Int} {a c : Nat → Int} {n : Nat} (h : ∀ j, j < n → a j = c j) : ∀ k, k < n → m_us w a k = m_us w c k := by
  have hd : ∀ k, k ≤ n → m_dn a k = m_dn c k := by
    intro k
    induction k with
    | zero => intro _; rfl
    | succ k ih => intro hk; rw [m_dn, m_dn, ih (by omega), h k (by omega)]
  intro k hk
  unfold m_us
  rw [hd k (by omega), h k hk]
theorem pc_use {b : Nat} (S : SS) (w : Int) (hC : MX b S) : pc (f_M_use S w) (fun S1 => q_fu S S1 ∧ (∀ j : Nat, (j : Int) < gi S 192 27 → gi S1 212 j = m_st S j ∧ gi S1 214 j = m_us w (m_st S) j)) := by
  unfold f_M_use
  refine pc_b1 (pc_and (ok_true (ok_M_judge S hC)) (pc_judge S hC)) (fun S1 h1 => ?_)
  have e27 : gi S1 192 27 = gi S 192 27 := h1.2.1.2 192 27 (by decide) (by decide)
  refine pc_mono (pcl_use (b := b) S1 w FU S1 0 (by have := mx_192_27 h1.1.1; omega) h1.1.1 ⟨rfl, fun _ _ _ => rfl⟩ (fun j h => absurd h (Nat.not_lt_zero j))) (fun S2 h2 => ?_)
  refine ⟨⟨h2.1.1.trans h1.2.1.1, fun r k a c d => (h2.1.2 r k d).trans (h1.2.1.2 r k a c)⟩, fun j hj => ⟨?_, ?_⟩⟩
  · rw [h2.1.2 212 j (by decide)]; exact h1.2.2 j hj
  · rw [h2.2 j (by omega)]
    exact m_us_congr (n := (gi S 192 27).toNat) (fun i hi => h1.2.2 i (by omega)) j (by omega)
theorem q_fu_good {S S1 : SS} {w : Int} (hN : NX S) (hF : 0 ≤ gi S 192 27) (h : q_fu S S1) (hu : ∀ j : Nat, (j : Int) < gi S 192 27 → gi S1 212 j = m_st S j ∧ gi S1 214 j = m_us w (m_st S) j) : q_good (q_md S1) (gi S 192 27).toNat (gi S 192 3) := by
  have e199 : ∀ k, gi S1 199 k = gi S 199 k := fun k => h.2 199 k (by decide) (by decide) (by decide)
  have e201 : ∀ k, gi S1 201 k = gi S 201 k := fun k => h.2 201 k (by decide) (by decide) (by decide)
  have e202 : ∀ k, gi S1 202 k = gi S 202 k := fun k => h.2 202 k (by decide) (by decide) (by decide)
  have e203 : ∀ k, gi S1 203 k = gi S 203 k := fun k => h.2 203 k (by decide) (by decide) (by decide)
  have J := m_st_ok S
  have done : ∀ k, k < (gi S 192 27).toNat → q_us (q_md S1) k = 1 → m_st S k = 0 := by
    intro k hk hu1
    rw [md_us, (hu k (by omega)).2] at hu1
    unfold m_us at hu1
    by_cases e : m_st S k = 0
    · exact e
    · rw [if_neg (fun q => e q.1)] at hu1; exact absurd hu1 (by decide)
  have emd : ∀ j k, j ≠ 5 → q_md S1 j k = q_md S j k := by
    intro j k hj
    unfold q_md
    rw [e199, e201, e202, e203, if_neg hj, if_neg hj]
  refine ⟨fun k hk hu1 => ?_, fun k o hk ho hne hu1 hu2 => ?_⟩
  · have st := done k hk hu1
    have k5 := (J k hk (.inl st)).1
    have v := hN k (by omega)
    unfold q_val
    rw [md_kd, md_lo, md_hi, md_mi, md_gp, e199, e201, e202, e203]
    unfold m_val at v
    rcases v with v | v | v | v | v
    · left; rw [if_neg (by omega), if_neg (by omega), if_neg (by omega), if_neg (by omega), if_neg (by omega)]; omega
    · right; left; rw [if_pos v.1]; omega
    · right; right; left; rw [if_neg (by omega), if_neg (by omega), if_pos v.1, if_neg (by omega), if_neg (by omega)]; omega
    · right; right; right; rw [if_neg (by omega), if_neg (by omega), if_neg (by omega), if_neg (by omega), if_pos v.1]; omega
    · exact absurd v.1 k5
  · have h1 := (J k hk (.inl (done k hk hu1))).2 (done k hk hu1) o ho (fun e => hne e.symm) (done o ho hu2)
    unfold q_nm q_wi q_ins q_ov q_cut q_kd q_lo q_hi q_gp q_mi at h1 ⊢
    rw [emd 0 k (by decide), emd 0 o (by decide), emd 1 k (by decide), emd 1 o (by decide), emd 2 k (by decide), emd 2 o (by decide), emd 3 k (by decide), emd 3 o (by decide), emd 4 k (by decide), emd 4 o (by decide)]
    exact h1
