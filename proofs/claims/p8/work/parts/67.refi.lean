theorem md_mv {S : SS} {j : Nat} (h : gi S 199 j = 4) : q_lo (q_md S) j = gi S 201 j ∧ q_hi (q_md S) j = gi S 202 j ∧ q_gp (q_md S) j = gi S 203 j := by
  refine ⟨md_lo1 (by omega), md_hi2 (by omega) (by omega), ?_⟩
  rw [md_gp, if_neg (by omega), if_pos h]
theorem q_same_row {M : q_MK} {n : Nat} {F : Int} (G : q_good M n F) {k m : Nat} (hk : k < n) (hm : m < n) (ne : k ≠ m) (uk : q_us M k = 1) (um : q_us M m = 1) (kk : q_kd M k = 4) (km : q_kd M m = 4) (h1 : q_lo M m ≤ q_lo M k) (h2 : q_hi M k ≤ q_hi M m) (h3 : q_hi M m - q_lo M m ≤ q_hi M k - q_lo M k) : False := by
  have v := G.1 k hk uk
  have vm := G.1 m hm um
  unfold q_val at v vm
  rcases G.2 k m hk hm ne uk um with p | p | p
  · omega
  · omega
  · exact p.1 ⟨by omega, by omega, by omega, by omega⟩
theorem q_in_ne {S : SS} {n : Nat} {F low high mv i v2 r : Int} (G : q_good (q_md S) n F) (R : q_reg (q_md S) n F low high mv) {k : Nat} (hk : k < n) (uk : q_us (q_md S) k = 1) (kk : q_kd (q_md S) k = 4) (ik : q_in (q_md S) low high mv k) (h1 : q_lo (q_md S) k + v2 ≤ i) (h2 : i ≤ q_hi (q_md S) k) (hb : q_best n (q_ci S i v2) (q_ln S) r) : r ≠ mv := by
  obtain ⟨r1, r2, r3, r4, r5⟩ := R
  have ek := md_mv kk
  have ck : q_ci S i v2 k := ⟨uk, kk, by rw [← ek.1]; exact h1, by rw [← ek.2.1]; exact h2⟩
  rcases hb with ⟨_, hb⟩ | ⟨m, hm, er, cm, hb⟩
  · exact absurd ck (hb k hk)
  · intro e
    rcases r5 with r5 | ⟨m', m1, m2, m3, m4, m5, m6⟩
    · omega
    · have q : m' = m := by omega
      subst q
      have l := hb k hk ck
      unfold q_ln at l
      have em := md_mv m4
      exact q_same_row G hk hm (fun q => ik.1 (by omega)) uk m3 kk m4 (by omega) (by omega) (by omega)
theorem q_in_eq {S : SS} {n : Nat} {F low high mv i v2 r : Int} (R : q_reg (q_md S) n F low high mv) (hv2 : 0 ≤ v2) (h1 : low + v2 ≤ i) (h2 : i ≤ high) (hno : ∀ k, k < n → q_us (q_md S) k = 1 → q_kd (q_md S) k = 4 → q_in (q_md S) low high mv k → ¬ (q_lo (q_md S) k + v2 ≤ i ∧ i ≤ q_hi (q_md S) k)) (hb : q_best n (q_ci S i v2) (q_ln S) r) : r = mv := by
  obtain ⟨r1, r2, r3, r4, r5⟩ := R
  have cmv : ∀ m' : Nat, m' < n → q_us (q_md S) m' = 1 → q_kd (q_md S) m' = 4 → q_lo (q_md S) m' ≤ low → high ≤ q_hi (q_md S) m' → q_ci S i v2 m' := by
    intro m' a b c d e
    have em := md_mv c
    exact ⟨b, c, by omega, by omega⟩
  rcases hb with ⟨er, hb⟩ | ⟨m, hm, er, cm, hb⟩
  · rcases r5 with r5 | ⟨m', m1, m2, m3, m4, m5, m6⟩
    · omega
    · exact absurd (cmv m' m1 m3 m4 m5 m6) (hb m' m1)
  · have em := md_mv cm.2.1
    have c3 := cm.2.2
    have hr := r3 m hm cm.1 (by rw [md_kd, cm.2.1]; decide) (by omega) (by omega)
    rcases hr with hr | hr | hr
    · omega
    · exact absurd ⟨by omega, by omega⟩ (hno m hm cm.1 cm.2.1 hr)
    · exfalso
      have k4 : q_kd (q_md S) m = 4 := cm.2.1
      have h0 : 0 ≤ mv ∧ q_hi (q_md S) mv.toNat - q_lo (q_md S) mv.toNat < q_hi (q_md S) m - q_lo (q_md S) m := by omega
      rcases r5 with r5 | ⟨m', m1, m2, m3, m4, m5, m6⟩
      · omega
      · have l := hb m' m1 (cmv m' m1 m3 m4 m5 m6)
        unfold q_ln at l
        have em' := md_mv m4
        rw [m2, Int.toNat_natCast] at h0
        omega
theorem q_mo_ne {S : SS} {n : Nat} {F low high mv r : Int} (G : q_good (q_md S) n F) (R : q_reg (q_md S) n F low high mv) {t k : Nat} (kt : q_kd (q_md S) t = 3) (hk : k < n) (uk : q_us (q_md S) k = 1) (kk : q_kd (q_md S) k = 4) (ik : q_in (q_md S) low high mv k) (h1 : q_lo (q_md S) k ≤ q_lo (q_md S) t) (h2 : q_hi (q_md S) t ≤ q_hi (q_md S) k) (hb : q_best n (q_cm S t) (q_ln S) r) : r ≠ mv := by
  obtain ⟨r1, r2, r3, r4, r5⟩ := R
  have ek := md_mv kk
  have el : q_lo (q_md S) t = gi S 201 t := md_lo1 (by rw [← md_kd, kt]; decide)
  have eh : q_hi (q_md S) t = gi S 203 t := md_hi3 kt
  have ck : q_cm S t k := ⟨uk, kk, by omega, by omega⟩
  rcases hb with ⟨_, hb⟩ | ⟨m, hm, er, cm, hb⟩
  · exact absurd ck (hb k hk)
  · intro e
    rcases r5 with r5 | ⟨m', m1, m2, m3, m4, m5, m6⟩
    · omega
    · have q : m' = m := by omega
      subst q
      have l := hb k hk ck
      unfold q_ln at l
      have em := md_mv m4
      exact q_same_row G hk hm (fun q => ik.1 (by omega)) uk m3 kk m4 (by omega) (by omega) (by omega)
theorem q_mo_eq {S : SS} {n : Nat} {F low high mv r : Int} (R : q_reg (q_md S) n F low high mv) {t : Nat} (kt : q_kd (q_md S) t = 3) (it : q_in (q_md S) low high mv t) (vt : q_lo (q_md S) t ≤ q_hi (q_md S) t) (hno : ∀ k, k < n → q_us (q_md S) k = 1 → q_kd (q_md S) k = 4 → q_in (q_md S) low high mv k → ¬ (q_lo (q_md S) k ≤ q_lo (q_md S) t ∧ q_hi (q_md S) t ≤ q_hi (q_md S) k)) (hb : q_best n (q_cm S t) (q_ln S) r) : r = mv := by
  obtain ⟨r1, r2, r3, r4, r5⟩ := R
  have el : q_lo (q_md S) t = gi S 201 t := md_lo1 (by rw [← md_kd, kt]; decide)
  have eh : q_hi (q_md S) t = gi S 203 t := md_hi3 kt
  have cmv : ∀ m' : Nat, m' < n → q_us (q_md S) m' = 1 → q_kd (q_md S) m' = 4 → q_lo (q_md S) m' ≤ low → high ≤ q_hi (q_md S) m' → q_cm S t m' := by
    intro m' a b c d e
    have em := md_mv c
    exact ⟨b, c, by omega, by omega⟩
  rcases hb with ⟨er, hb⟩ | ⟨m, hm, er, cm, hb⟩
  · rcases r5 with r5 | ⟨m', m1, m2, m3, m4, m5, m6⟩
    · omega
    · exact absurd (cmv m' m1 m3 m4 m5 m6) (hb m' m1)
  · have em := md_mv cm.2.1
    have c3 := cm.2.2
    have hr := r3 m hm cm.1 (by rw [md_kd, cm.2.1]; decide) (by omega) (by omega)
    rcases hr with hr | hr | hr
    · omega
    · exact absurd ⟨by omega, by omega⟩ (hno m hm cm.1 cm.2.1 hr)
    · exfalso
      have k4 : q_kd (q_md S) m = 4 := cm.2.1
      have h0 : 0 ≤ mv ∧ q_hi (q_md S) mv.toNat - q_lo (q_md S) mv.toNat < q_hi (q_md S) m - q_lo (q_md S) m := by omega
      rcases r5 with r5 | ⟨m', m1, m2, m3, m4, m5, m6⟩
      · omega
      · have l := hb m' m1 (cmv m' m1 m3 m4 m5 m6)
        unfold q_ln at l
        have em' := md_mv m4
        rw [m2, Int.toNat_natCast] at h0
        omega
theorem q_ta_none {b : Nat} {S : SS} (hC : MX b S) {F low high mv i r : Int} (G : q_good (q_md S) (gi S 192 27).toNat F) (R : q_reg (q_md S) (gi S 192 27).toNat F low high mv) (hno : ∀ t, t < (gi S 192 27).toNat → q_us (q_md S) t = 1 → q_kd (q_md S) t = 3 → q_lo (q_md S) t = i → q_hi (q_md S) t ≤ high → ∃ m, m < (gi S 192 27).toNat ∧ q_us (q_md S) m = 1 ∧ q_kd (q_md S) m = 4 ∧ q_in (q_md S) low high mv m ∧ q_lo (q_md S) m ≤ q_lo (q_md S) t ∧ q_hi (q_md S) t ≤ q_hi (q_md S) m) (hb : q_best (gi S 192 27).toNat (q_ct S i high mv) (fun j => - gi S 203 j) r) : r = -1 := by
  rcases hb with ⟨er, hb⟩ | ⟨t, ht, er, ct, hb⟩
  · exact er
  · exfalso
    obtain ⟨c1, c2, c3, c4, c5⟩ := ct
    have el : q_lo (q_md S) t = gi S 201 t := md_lo1 (by omega)
    have eh : q_hi (q_md S) t = gi S 203 t := md_hi3 c2
    obtain ⟨m, m1, m2, m3, m4, m5, m6⟩ := hno t ht c1 c2 (by omega) (by omega)
    exact q_mo_ne G R c2 m1 m2 m3 m4 m5 m6 (pc_moveOf S hC t _ c5) rfl
theorem q_ta_some {b : Nat} {S : SS} (hC : MX b S) {F low high mv i r : Int} (G : q_good (q_md S) (gi S 192 27).toNat F) (R : q_reg (q_md S) (gi S 192 27).toNat F low high mv) (hl : low ≤ i) (B : q_bd (q_md S) (gi S 192 27).toNat low high mv i) {m : Nat} (hm : m < (gi S 192 27).toNat) (c : q_cand (q_md S) high mv i m) (km : q_kd (q_md S) m = 3) (cm : ∀ k, k < (gi S 192 27).toNat → q_cand (q_md S) high mv i k → q_hi (q_md S) k < q_hi (q_md S) m ∨ (q_hi (q_md S) k = q_hi (q_md S) m ∧ (q_kd (q_md S) k ≠ 4 ∨ q_kd (q_md S) m = 4))) (hb : q_best (gi S 192 27).toNat (q_ct S i high mv) (fun j => - gi S 203 j) r) : r = (m : Int) := by
  have b27 := mx_192_27 hC
  have vm := G.1 m hm c.1
  unfold q_val at vm
  have im : q_in (q_md S) low high mv m := ⟨c.2.2.1, by omega, c.2.2.2.2⟩
  have mvk := q_in_mv hl B hm c km cm
  have el : q_lo (q_md S) m = gi S 201 m := md_lo1 (by rw [← md_kd, km]; decide)
  have eh : q_hi (q_md S) m = gi S 203 m := md_hi3 km
  have hct : q_ct S i high mv m := by
    refine ⟨c.1, km, by omega, by omega, ?_⟩
    obtain ⟨q, eq, hq⟩ := ok_and (ok_M_moveOf S (m : Int) hC (by omega)) (pc_moveOf S hC m)
    rw [eq, q_mo_eq R km im (by omega) (fun k a b c d => mvk k a b c d (by omega)) hq.2]
  rcases hb with ⟨er, hb⟩ | ⟨t, ht, er, ct, hb⟩
  · exact absurd hct (hb m hm)
  · have l : - gi S 203 t ≤ - gi S 203 m := hb m hm hct
    obtain ⟨c1, c2, c3, c4, c5⟩ := ct
    have el' : q_lo (q_md S) t = gi S 201 t := md_lo1 (by omega)
    have eh' : q_hi (q_md S) t = gi S 203 t := md_hi3 c2
    have vt := G.1 t ht c1
    unfold q_val at vt
    have k3 : q_kd (q_md S) t = 3 := c2
    have tmv : (t : Int) ≠ mv := by
      intro q
      rcases R.2.2.2.2 with r5 | ⟨m', m1, m2, m3, m4, m5, m6⟩
      · omega
      · have q : m' = t := by omega
        subst q; omega
    have ht' := cm t ht ⟨c1, by omega, tmv, by omega, by omega⟩
    by_cases e : t = m
    · omega
    · exfalso
      rcases G.2 t m ht hm e c1 c.1 with p | p | p
      · omega
      · omega
      · exact p.1 ⟨by omega, by omega, by omega, by omega⟩
