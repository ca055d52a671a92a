def QU (u : Option Unit × SS) : Prop := MX 1 u.2 ∧ (∀ r, u.1 = some r → True)
theorem qu_w {S : SS} (h : MX 1 S) (k : Int) (hk : 1 ≤ k ∧ k ≤ 3) : okk (w_lt (f_M_wrong S k (gi S 192 10)) (fun S1 => some ((none : Option Unit), S1))) QU := by
  have b10 := mx_192_10 h
  refine ok_lt (fun S1 e => ok_some ⟨?_, fun _ _ => trivial⟩)
  show MX 1 S1
  rw [e]; exact mx_M_wrong h (by omega) (by omega)
theorem ok_rw191 (v1 : Int) (k19 : SS → Option (Option Unit × SS)) (k96 : SS → Int → Int64 → Option (Option Unit × SS)) (S : SS) (v2 : Int) (w3 : Int64) (h : MX 1 S) (hl : gi S 192 11 < gi S 192 9) (hk : ∀ S', MX 1 S' → gi S' 192 11 = gi S 192 11 + 1 → gi S' 204 v1.toNat = gi S 204 v1.toNat → okk (k96 S' v2 w3) QU) : okk (f_M_readWords_191 v1 k19 k96 S v2 w3) QU := by
  have b11 := mx_192_11 h
  have b9 := mx_192_9 h
  unfold f_M_readWords_191
  refine ok_chk (by omega) (ok_lt (fun S3 e => hk S3 ?_ (gi_eq e) (gi_ne e (by omega))))
  rw [e]; exact ms_192_11 h (fun _ => by omega) (by omega) (by omega)
theorem ok_rw204 (v1 : Int) (k19 : SS → Option (Option Unit × SS)) (S : SS) (v2 : Int) (w3 : Int64) (m : Int) (h : MX 1 S) (hv : 0 ≤ v1 ∧ v1 < 41) (hm : 2001 - gi S 192 11 + 6 - gi S 204 v1.toNat ≤ m) (hk : ∀ S', MX 1 S' → 2001 - gi S' 192 11 + 6 - gi S' 204 v1.toNat < m → okk (k19 S') QU) : okk (f_M_readWords_204 v1 k19 S v2 w3) QU := by
  have bw := mx_204 h v1.toNat
  unfold f_M_readWords_204
  refine ok_if (fun _ => qu_w h 1 (by omega)) (fun _ => ok_chk (by omega) (ok_if (fun _ => qu_w h 3 (by omega)) (fun c2 => ?_)))
  refine ok_chk (by omega) (ok_chk (by omega) (ok_chk (by omega) (ok_chk (by omega) (ok_lt (fun S5 e5 => ?_)))))
  have h5 : MX 1 S5 := by rw [e5]; exact ms_sl h
  have f5 : gi S5 204 v1.toNat = gi S 204 v1.toNat := gi_sl e5
  have g5 : gi S5 192 11 = gi S 192 11 := gi_sl e5
  refine ok_chk (by omega) (ok_chk (by omega) (ok_chk (by omega) (ok_lt (fun S8 e8 => ?_))))
  have h8 : MX 1 S8 := by rw [e8]; exact ms_204 h5 (by omega) (by omega)
  have f8 : gi S8 204 v1.toNat = gi S5 204 v1.toNat + 1 := gi_eq e8
  have g8 : gi S8 192 11 = gi S5 192 11 := gi_ne e8 (by omega)
  exact hk S8 h8 (by omega)
theorem okl_rw96 (v1 : Int) (k19 : SS → Option (Option Unit × SS)) (m : Int) (hv : 0 ≤ v1 ∧ v1 < 41) (hk : ∀ S', MX 1 S' → 2001 - gi S' 192 11 + 6 - gi S' 204 v1.toNat < m → okk (k19 S') QU) : ∀ (n : Nat) (S : SS) (v2 : Int) (w3 : Int64), MX 1 S → 2001 - gi S 192 11 + 6 - gi S 204 v1.toNat ≤ m → 2001 - gi S 192 11 < (n : Int) → okk (f_M_readWords_96 v1 k19 n S v2 w3) QU := by
  intro n
  induction n with
  | zero => intro S v2 w3 h hi hm; have b11 := mx_192_11 h; exfalso; omega
  | succ n ih =>
    intro S v2 w3 h hi hm
    have hm : 2001 - gi S 192 11 < (n : Int) + 1 := by omega
    show okk (f_M_readWords_96_b v1 k19 (f_M_readWords_96 v1 k19 n) S v2 w3) _
    unfold f_M_readWords_96_b
    have b11 := mx_192_11 h
    have go := ok_rw204 v1 k19 S v2 w3 m h hv hi hk
    refine ok_if (fun _ => go) (fun c1 => ?_)
    have nx : ∀ v2' w', okk (f_M_readWords_191 v1 k19 (f_M_readWords_96 v1 k19 n) S v2' w') QU := fun v2' w' => ok_rw191 v1 k19 _ S v2' w' h (by omega) (fun S' q1 q2 q3 => ih S' v2' w' q1 (by omega) (by omega))
    have n0 : okk (f_M_readWords_170 v1 k19 (f_M_readWords_96 v1 k19 n) S w3) QU := by
      unfold f_M_readWords_170 f_M_readWords_171
      exact ok_if (fun _ => nx _ _) (fun _ => ok_b1 (ok_M_byteAt S _ h (by omega)) (fun _ _ => nx _ _))
    have n1 : okk (f_M_readWords_171 v1 k19 (f_M_readWords_96 v1 k19 n) S w3 1) QU := by
      unfold f_M_readWords_171
      exact ok_if (fun _ => nx _ _) (fun _ => ok_b1 (ok_M_byteAt S _ h (by omega)) (fun _ _ => nx _ _))
    have b10 := mx_192_10 h
    refine ok_b1 (ok_M_byteAt S _ h (by omega)) (fun r4 _ => ok_if (fun _ => ok_b1 (ok_M_byteAt S _ h (by omega)) (fun r8 _ => ok_if (fun _ => go) (fun _ => ok_if (fun _ => n0) (fun _ => ok_b1 (ok_M_byteAt S _ h (by omega)) (fun r11 _ => ok_if (fun _ => n0) (fun _ => ok_chk (by omega) (ok_if (fun _ => n0) (fun _ => n1)))))))) (fun _ => go))
theorem ok_rw269 (v1 : Int) (S : SS) (h : MX 1 S) (hv : 0 ≤ v1 ∧ v1 < 41) : okk (f_M_readWords_269 v1 S) QU := by
  unfold f_M_readWords_269
  exact ok_chk (by omega) (ok_if (fun _ => qu_w h 1 (by omega)) (fun _ => ok_b1 (ok_M_scan S h) (fun S2 h2 => ok_some ⟨h2.1, fun _ _ => trivial⟩)))
theorem okl_rw19 (v1 : Int) (hv : 0 ≤ v1 ∧ v1 < 41) : ∀ (n : Nat) (S : SS), MX 1 S → 2001 - gi S 192 11 + 6 - gi S 204 v1.toNat < (n : Int) → okk (f_M_readWords_19 v1 n S) QU := by
  intro n
  induction n with
  | zero => intro S h hm; have b11 := mx_192_11 h; have bw := mx_204 h v1.toNat; exfalso; omega
  | succ n ih =>
    intro S h hm
    have hm : 2001 - gi S 192 11 + 6 - gi S 204 v1.toNat < (n : Int) + 1 := by omega
    show okk (f_M_readWords_19_b v1 (f_M_readWords_19 v1 n) S) _
    unfold f_M_readWords_19_b
    have b11 := mx_192_11 h
    have b9 := mx_192_9 h
    have go : okk (f_M_readWords_57 v1 (f_M_readWords_19 v1 n) S) QU := by
      unfold f_M_readWords_57
      refine ok_lt (fun S2 e2 => ?_)
      have h2 : MX 1 S2 := by rw [e2]; exact ms_192_10 h (by omega) (by omega)
      have f2 : gi S2 192 11 = gi S 192 11 := gi_ne e2 (by omega)
      have g2 : gi S2 204 v1.toNat = gi S 204 v1.toNat := gi_ne e2 (by omega)
      refine ok_if (fun _ => ok_rw269 v1 S2 h2 hv) (fun _ => ok_b1 (ok_M_byteAt S2 _ h2 (by omega)) (fun r6 _ => ok_if (fun _ => ok_rw269 v1 S2 h2 hv) (fun _ => ?_)))
      exact okl_rw96 v1 _ (n : Int) hv (fun S' q1 q2 => ih S' q1 q2) FU S2 1 0 h2 (by omega) (by unfold FU; omega)
    refine ok_if (fun _ => go) (fun c1 => ok_b1 (ok_M_byteAt S _ h (by omega)) (fun r4 _ => ok_if (fun _ => go) (fun _ => ok_chk (by omega) (ok_lt (fun S9 e9 => ?_)))))
    have h9 : MX 1 S9 := by rw [e9]; exact ms_192_11 h (fun _ => by omega) (by omega) (by omega)
    have f9 : gi S9 192 11 = gi S 192 11 + 1 := gi_eq e9
    have g9 : gi S9 204 v1.toNat = gi S 204 v1.toNat := gi_ne e9 (by omega)
    exact ih S9 h9 (by omega)
theorem ok_M_readWords (S : SS) (v1 : Int) (hC : MX 1 S) (hp0 : 0 ≤ v1 ∧ v1 < 41) : okk (f_M_readWords S v1) (fun u => MX 1 u.2 ∧ (∀ r, u.1 = some r → True)) := by
  have b11 := mx_192_11 hC
  have bw := mx_204 hC v1.toNat
  unfold f_M_readWords
  refine ok_b1 (ok_M_is S 11 hC (by decide)) (fun r1 _ => ok_if (fun _ => qu_w hC 1 (by omega)) (fun _ => ?_))
  exact okl_rw19 v1 hp0 FU S hC (by unfold FU; omega)
