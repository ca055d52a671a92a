theorem ok_tr195 {b : Nat} (k : SS → Int → Int → Int → Option SS) (S : SS) (v1 v2 v3 v4 v5 vt0 vt1 : Int) (P : SS → Prop) (hC : MX b S) (h1 : vt1 = gi S 192 37 ∧ gi S 192 37 + v1 ≤ 450 ∧ 1 ≤ v1 ∧ v1 ≤ 450) (h2 : 0 ≤ v2 ∧ v2 ≤ 300 ∧ 0 ≤ v3 ∧ v3 ≤ 600 ∧ 0 ≤ vt0 ∧ vt0 ≤ 2) (hd : v2 < 300 ∨ (v4 = 0 ∧ v5 = 0)) (hk : ∀ S' a c, MX b S' → gi S' 192 37 = gi S 192 37 + 1 → (a = v2 ∨ (a = v2 + 1 ∧ v2 < 300)) → (c = v3 ∨ c = v3 + 1) → okk (k S' (v1 + (-1)) a c) P) : okk (f_M_trace_195 k S v1 v2 v3 v4 v5 vt0 vt1) P := by
  have b37 := mx_192_37 hC
  unfold f_M_trace_195
  refine ok_chk (by omega) (ok_lt (fun S1 e1 => ?_))
  have m1 : MX b S1 := by rw [e1]; exact ms_217 hC (by omega) (by omega)
  have f1 : gi S1 192 37 = gi S 192 37 := gi_ne e1 (by omega)
  refine ok_chk (by omega) (ok_lt (fun S3 e3 => ?_))
  have m3 : MX b S3 := by rw [e3]; exact ms_218 m1 (by omega) (by omega)
  have f3 : gi S3 192 37 = gi S1 192 37 := gi_ne e3 (by omega)
  refine ok_chk (by omega) (ok_lt (fun S5 e5 => ?_))
  have m5 : MX b S5 := by rw [e5]; exact ms_219 m3 (by omega) (by omega)
  have f5 : gi S5 192 37 = gi S3 192 37 := gi_ne e5 (by omega)
  refine ok_chk (by omega) (ok_lt (fun S8 e8 => ok_chk (by omega) ?_))
  have m8 : MX b S8 := by rw [e8]; exact ms_192_37 m5 (by omega) (by omega)
  have f8 : gi S8 192 37 = gi S5 192 37 + 1 := gi_eq e8
  have go : ∀ x, (x = 0 ∨ (x = 1 ∧ v2 < 300)) → okk (f_M_trace_245 k S8 (v1 + (-1)) v3 v5 x v2) P := by
    intro x hx
    unfold f_M_trace_245 f_M_trace_258
    refine ok_chk (by omega) (ok_if (fun _ => ok_chk (by omega) ?_) (fun _ => ok_chk (by omega) ?_))
    · exact hk S8 _ _ m8 (by omega) (by omega) (by omega)
    · exact hk S8 _ _ m8 (by omega) (by omega) (by omega)
  refine ok_if (fun c1 => ok_if (fun c2 => go 0 (by omega)) (fun c2 => ?_)) (fun c1 => ?_)
  · exact go 1 (by omega)
  · exact go 1 (by omega)
theorem ok_tr166 {b : Nat} (k : SS → Int → Int → Int → Option SS) (S : SS) (v1 v2 v3 v4 v5 : Int) (P : SS → Prop) (hC : MX b S) (h1 : gi S 192 37 + v1 ≤ 450 ∧ 1 ≤ v1 ∧ v1 ≤ 450) (h2 : 0 ≤ v2 ∧ v2 ≤ 300 ∧ 0 ≤ v3 ∧ v3 ≤ 600) (hd : v2 < 300 ∨ (v4 = 0 ∧ v5 = 0)) (hk : ∀ S' a c, MX b S' → gi S' 192 37 = gi S 192 37 + 1 → (a = v2 ∨ (a = v2 + 1 ∧ v2 < 300)) → (c = v3 ∨ c = v3 + 1) → okk (k S' (v1 + (-1)) a c) P) : okk (f_M_trace_166 k S v1 v2 v3 v4 v5) P := by
  unfold f_M_trace_166
  refine ok_if (fun c1 => ok_if (fun c2 => ?_) (fun c2 => ?_)) (fun c1 => ?_)
  · exact ok_tr195 k S v1 v2 v3 v4 v5 2 _ P hC (by omega) (by omega) hd hk
  · exact ok_tr195 k S v1 v2 v3 v4 v5 1 _ P hC (by omega) (by omega) hd hk
  · exact ok_tr195 k S v1 v2 v3 v4 v5 0 _ P hC (by omega) (by omega) hd hk
theorem ok_tr128 {b : Nat} (k : SS → Int → Int → Int → Option SS) (S : SS) (v1 v2 v3 v4 : Int) (P : SS → Prop) (hC : MX b S) (h1 : gi S 192 37 + v1 ≤ 450 ∧ 1 ≤ v1 ∧ v1 ≤ 450) (h2 : 0 ≤ v2 ∧ v2 ≤ 300 ∧ 0 ≤ v3 ∧ v3 ≤ 600) (hd : v2 < 300 ∨ v4 = 0) (hk : ∀ S' a c, MX b S' → gi S' 192 37 = gi S 192 37 + 1 → (a = v2 ∨ (a = v2 + 1 ∧ v2 < 300)) → (c = v3 ∨ c = v3 + 1) → okk (k S' (v1 + (-1)) a c) P) : okk (f_M_trace_128 k S v1 v2 v3 v4) P := by
  have b5 := mx_192_5 hC
  unfold f_M_trace_128 f_M_trace_165
  refine ok_if (fun c1 => ok_if (fun c2 => ?_) (fun c2 => ?_)) (fun c1 => ?_)
  · exact ok_tr166 k S v1 v2 v3 v4 0 P hC h1 h2 (by omega) hk
  · refine ok_chk (by omega) (ok_b1 (ok_M_at S (v2 + 1) v3 hC (by omega) (by omega)) (fun r e => ok_chk (by omega) (ok_chk (by omega) (ok_if (fun _ => ?_) (fun _ => ?_)))))
    · exact ok_tr166 k S v1 v2 v3 v4 1 P hC h1 h2 (by omega) hk
    · exact ok_tr166 k S v1 v2 v3 v4 0 P hC h1 h2 (by omega) hk
  · exact ok_tr166 k S v1 v2 v3 v4 0 P hC h1 h2 (by omega) hk
theorem ok_tr87 {b : Nat} (k : SS → Int → Int → Int → Option SS) (S : SS) (v1 v2 v3 : Int) (P : SS → Prop) (hC : MX b S) (h1 : gi S 192 37 + v1 ≤ 450 ∧ 1 ≤ v1 ∧ v1 ≤ 450) (h2 : 0 ≤ v2 ∧ v2 ≤ 300 ∧ 0 ≤ v3 ∧ v3 ≤ 600) (hk : ∀ S' a c, MX b S' → gi S' 192 37 = gi S 192 37 + 1 → (a = v2 ∨ (a = v2 + 1 ∧ v2 < 300)) → (c = v3 ∨ c = v3 + 1) → okk (k S' (v1 + (-1)) a c) P) : okk (f_M_trace_87 k S v1 v2 v3) P := by
  have b5 := mx_192_5 hC
  have b4 := mx_192_4 hC
  have go := ok_tr128 k S v1 v2 v3 0 P hC h1 h2 (by omega) hk
  unfold f_M_trace_87 f_M_trace_127
  refine ok_if (fun _ => go) (fun c1 => ok_if (fun _ => go) (fun c2 => ?_))
  refine ok_chk (by omega) (ok_chk (by omega) (ok_b1 (ok_M_at S (v2 + 1) (v3 + 1) hC (by omega) (by omega)) (fun r e => ok_chk (by omega) (ok_chk (by omega) (ok_if (fun _ => ?_) (fun _ => go))))))
  exact ok_tr128 k S v1 v2 v3 1 P hC h1 h2 (by omega) hk
theorem okl_trace {b : Nat} : ∀ (n : Nat) (S : SS) (v1_ v2_ v3_ : Int), MX b S → (0 ≤ v1_ ∧ v1_ ≤ 450 ∧ 0 ≤ v2_ ∧ v2_ ≤ 300 ∧ 0 ≤ v3_ ∧ v3_ + v1_ ≤ 600 ∧ gi S 192 37 + v1_ ≤ 450) → v1_ + 300 - v2_ < (n : Int) → okk (f_M_trace_24 n S v1_ v2_ v3_) (fun S1 => MX b S1 ∧ True) := by
  intro n
  induction n with
  | zero => intro S v1_ v2_ v3_ hC hi hm; exfalso; omega
  | succ n ih =>
    intro S v1_ v2_ v3_ hC hi hm
    have hm : v1_ + 300 - v2_ < (n : Int) + 1 := by omega
    show okk (f_M_trace_24_b (f_M_trace_24 n) S v1_ v2_ v3_) _
    unfold f_M_trace_24_b
    have b5 := mx_192_5 hC
    have b4 := mx_192_4 hC
    refine ok_if (fun _ => ok_some ⟨hC, trivial⟩) (fun c1 => ?_)
    have go := ok_tr87 (f_M_trace_24 n) S v1_ v2_ v3_ (fun S1 => MX b S1 ∧ True) hC (by omega) (by omega) (fun S' a c q1 q2 q3 q4 => ih S' _ a c q1 (by omega) (by omega))
    refine ok_if (fun _ => go) (fun c2 => ok_if (fun _ => go) (fun c3 => ok_chk (by omega) (ok_chk (by omega) (ok_if (fun _ => ?_) (fun _ => go)))))
    refine ok_chk (by omega) (ok_chk (by omega) (ok_b1 (ok_M_at S (v2_ + 1) (v3_ + 1) hC (by omega) (by omega)) (fun r e => ok_chk (by omega) (ok_if (fun _ => ?_) (fun _ => go)))))
    exact ok_chk (by omega) (ok_chk (by omega) (ih S v1_ (v2_ + 1) (v3_ + 1) hC (by omega) (by omega)))
theorem ok_M_trace {b : Nat} (S : SS) (hC : MX b S) : okk (f_M_trace S) (fun S1 => MX b S1 ∧ True) := by
  have b5 := mx_192_5 hC
  have b4 := mx_192_4 hC
  unfold f_M_trace
  refine ok_b2 (ok_M_apart S 2 (gi S 192 5) 1 (gi S 192 4) hC (by unfold cpt; omega) (by unfold cpt; omega)) (fun r4 S3 h3 => ok_lt (fun S6 e6 => ?_))
  have h3' := h3.2.2
  dsimp only at h3'
  have h6 : MX b S6 := by rw [e6]; exact ms_192_37 h3.1 (by omega) (by omega)
  have f6 : gi S6 192 37 = 0 := gi_eq e6
  exact okl_trace FU S6 r4 0 0 h6 (by omega) (by unfold FU; omega)
