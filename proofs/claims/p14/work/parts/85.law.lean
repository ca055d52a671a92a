theorem p14_feed : hc_feed (JI (fun _ _ => True)) := by
  intro S T a1 a2 a3 a4 a5 hS hT h1 h2 h3 h4 h5 hI
  obtain ⟨hC, hM, hN, hR⟩ := hI
  obtain ⟨⟨r, S1⟩, e1, c1⟩ := cs_feed hC a1 a2 a3 a4 a5 h1 h2 h3 h4 h5
  obtain ⟨⟨t, T1⟩, e2, m1⟩ := ms_feed_ok hM hN a1 a2 a3 a4 a5 h1 h2 h3 h4 h5
  exact ⟨r, S1, t, T1, e1, e2, c1, m1.1, m1.2, trivial⟩
theorem p14_end : hc_end (JI (fun _ _ => True)) := by
  intro S T a1 hS hT h1 hI
  obtain ⟨hC, hM, hN, hR⟩ := hI
  obtain ⟨⟨r, S1⟩, e1, c1⟩ := cs_end hC a1 h1
  obtain ⟨⟨t, T1⟩, e2, m1⟩ := ms_end_ok hM hN a1 h1
  exact ⟨r, S1, t, T1, e1, e2, c1, m1.1, m1.2, trivial⟩
theorem p14_first : hc_first (JI (fun _ _ => True)) := by
  intro S T hS hT hI
  obtain ⟨hC, hM, hN, hR⟩ := hI
  obtain ⟨⟨r, S1⟩, e1, c1⟩ := cs_first hC
  obtain ⟨⟨t, T1⟩, e2, m1⟩ := ms_first_ok hM hN
  exact ⟨r, S1, t, T1, e1, e2, c1, m1.1, m1.2, trivial⟩
theorem p14_second : hc_second (JI (fun _ _ => True)) := by
  intro S T hS hT hI
  obtain ⟨hC, hM, hN, hR⟩ := hI
  obtain ⟨⟨r, S1⟩, e1, c1⟩ := cs_second hC
  obtain ⟨⟨t, T1⟩, e2, m1⟩ := ms_second_ok hM hN
  exact ⟨r, S1, t, T1, e1, e2, c1, m1.1, m1.2, trivial⟩
theorem p14_marks : hc_marks (JI (fun _ _ => True)) := by
  intro S T hS hT hI
  obtain ⟨hC, hM, hN, hR⟩ := hI
  obtain ⟨⟨r, S1⟩, e1, c1⟩ := cs_marks hC
  obtain ⟨⟨t, T1⟩, e2, m1⟩ := ms_marks_ok hM hN
  exact ⟨r, S1, t, T1, e1, e2, c1, m1.1, m1.2, trivial⟩
theorem p14_fault : hc_fault (JI (fun _ _ => True)) := by
  intro S T a1 hS hT h1 hI
  obtain ⟨hC, hM, hN, hR⟩ := hI
  exact ⟨_, _, rfl, rfl, hC, hM, hN, hR⟩
theorem p14_word : hc_word (JI (fun _ _ => True)) := by
  intro S T a1 a2 hS hT h1 h2 hI
  obtain ⟨hC, hM, hN, hR⟩ := hI
  obtain ⟨r, e1, _⟩ := cs_word hC a1 a2 h1 h2
  obtain ⟨⟨t, T1⟩, e2, m1⟩ := ms_word_ok hM hN a1 a2 h1 h2
  exact ⟨r, t, T1, e1, e2, hC, m1.1, m1.2, trivial⟩
theorem p14_mark : hc_mark (JI (fun _ _ => True)) := by
  intro S T a1 a2 hS hT h1 h2 hI
  obtain ⟨hC, hM, hN, hR⟩ := hI
  obtain ⟨r, e1, _⟩ := cs_mark hC a1 a2 h1 h2
  obtain ⟨⟨t, T1⟩, e2, m1⟩ := ms_mark_ok hM hN a1 a2 h1 h2
  exact ⟨r, t, T1, e1, e2, hC, m1.1, m1.2, trivial⟩
theorem p14_answer : hc_answer (JI (fun _ _ => True)) := by
  intro S T a1 a2 hS hT h1 h2 h3 hI
  obtain ⟨hC, hM, hN, hR⟩ := hI
  obtain ⟨⟨r, S1⟩, e1, c1⟩ := cs_answer hC a1 a2 h1 h2 h3
  obtain ⟨⟨t, T1⟩, e2, m1⟩ := ms_answer_ok hM hN a1 a2 h1 h2 h3
  exact ⟨r, S1, t, T1, e1, e2, c1, m1.1, m1.2, trivial⟩
theorem p14_rank : hc_rank (JI (fun _ _ => True)) := by
  intro S T a1 a2 hS hT h1 h2 hI
  obtain ⟨hC, hM, hN, hR⟩ := hI
  obtain ⟨⟨r, S1⟩, e1, c1⟩ := cs_rank hC a1 a2 h1 h2
  obtain ⟨⟨t, T1⟩, e2, m1⟩ := ms_rank_ok hM hN a1 a2 h1 h2
  exact ⟨r, S1, t, T1, e1, e2, c1, m1.1, m1.2, trivial⟩
theorem p14_meet : hc_meet (JI (fun _ _ => True)) := by
  intro S T a1 a2 hS hT h1 h2 hI
  obtain ⟨hC, hM, hN, hR⟩ := hI
  obtain ⟨r, e1, _⟩ := cs_meet hC a1 a2 h1 h2
  obtain ⟨t, e2, _⟩ := ms_meet_ok hM hN a1 a2 h1 h2
  exact ⟨r, t, e1, e2, hC, hM, hN, trivial⟩
theorem p14_within : hc_within (JI (fun _ _ => True)) := by
  intro S T a1 a2 hS hT h1 h2 hI
  obtain ⟨hC, hM, hN, hR⟩ := hI
  obtain ⟨r, e1, _⟩ := cs_within hC a1 a2 h1 h2
  obtain ⟨t, e2, _⟩ := ms_within_ok hM hN a1 a2 h1 h2
  exact ⟨r, t, e1, e2, hC, hM, hN, trivial⟩
theorem p14_costs : hc_costs (JI (fun _ _ => True)) := by
  intro S T a1 a2 hS hT h1 h2 hI
  obtain ⟨hC, hM, hN, hR⟩ := hI
  obtain ⟨⟨r, S1⟩, e1, c1⟩ := cs_costs hC a1 a2 h1 h2
  obtain ⟨⟨t, T1⟩, e2, m1⟩ := ms_costs_ok hM hN a1 a2 h1 h2
  have e : r = t := by
    have i1 := in01 T a1 1 9
    have i2 := in01 T a2 1 9
    unfold f_MP_costs at e1
    unfold f_M_costs at e2
    by_cases x1 : a1 < 1 ∨ 9 < a1 ∨ a2 < 1 ∨ 9 < a2
    · have q1 : r = -2 := by
        repeat' split at e1
        all_goals first | (cases e1; rfl) | omega
      have q2 : t = -2 := by
        repeat' split at e2
        all_goals first | (cases e2; rfl) | omega
      rw [q1, q2]
    · rw [if_neg (by omega), if_neg (by omega), if_neg (by omega), if_pos (by omega)] at e1
      rw [if_neg (by omega), if_neg (by omega)] at e2
      cases e1
      cases e2
      rfl
  exact ⟨r, S1, t, T1, e1, e2, ⟨c1, m1.1, m1.2, trivial⟩, e⟩
theorem p14_hold : hc_hold (JI (fun _ _ => True)) := by
  intro S T hS hT hI
  obtain ⟨hC, hM, hN, hR⟩ := hI
  obtain ⟨⟨r, S1⟩, e1, c1⟩ := cs_hold hC
  obtain ⟨⟨t, T1⟩, e2, m1⟩ := ms_hold_ok hM hN
  exact ⟨r, S1, t, T1, e1, e2, c1, m1.1, m1.2, trivial⟩
theorem p14_held : hc_held (JI (fun _ _ => True)) := by
  intro S T a1 hS hT h1 hI
  obtain ⟨hC, hM, hN, hR⟩ := hI
  obtain ⟨r, e1, _⟩ := cs_held hC a1 h1
  obtain ⟨t, e2, _⟩ := ms_held_ok hM hN a1 h1
  exact ⟨r, t, e1, e2, hC, hM, hN, trivial⟩
theorem p14_unasked : hc_unasked (JI (fun _ _ => True)) := by
  intro S T a1 a2 hS hT h1 h2 hI
  obtain ⟨hC, hM, hN, hR⟩ := hI
  obtain ⟨r, e1, _⟩ := cs_unasked hC a1 a2 h1 h2
  obtain ⟨t, e2, _⟩ := ms_unasked_ok hM hN a1 a2 h1 h2
  exact ⟨r, t, e1, e2, hC, hM, hN, trivial⟩
theorem p14_distance : hc_distance (JI (fun _ _ => True)) := by
  intro S T a1 a2 hS hT h1 h2 hI
  obtain ⟨hC, hM, hN, hR⟩ := hI
  obtain ⟨⟨r, S1⟩, e1, c1⟩ := cs_distance hC a1 a2 h1 h2
  obtain ⟨⟨t, T1⟩, e2, m1⟩ := ms_distance_ok hM hN a1 a2 h1 h2
  exact ⟨r, S1, t, T1, e1, e2, c1, m1.1, m1.2, trivial⟩
theorem p14_next : hc_next (JI (fun _ _ => True)) := by
  intro S T hS hT hI
  obtain ⟨hC, hM, hN, hR⟩ := hI
  obtain ⟨⟨r, S1⟩, e1, c1⟩ := cs_next hC
  obtain ⟨⟨t, T1⟩, e2, m1⟩ := ms_next_ok hM hN
  exact ⟨r, S1, t, T1, e1, e2, c1, m1.1, m1.2, trivial⟩
theorem p14_error : hc_error (JI (fun _ _ => True)) := by
  intro S T a1 a2 hS hT h1 h2 h3 hI
  obtain ⟨hC, hM, hN, hR⟩ := hI
  obtain ⟨⟨r, S1⟩, e1, c1⟩ := cs_error hC a1 a2 h1 h2 h3
  obtain ⟨⟨t, T1⟩, e2, m1⟩ := ms_error_ok hM hN a1 a2 h1 h2 h3
  exact ⟨r, S1, t, T1, e1, e2, c1, m1.1, m1.2, trivial⟩
theorem p14_price : hc_price (JI (fun _ _ => True)) := by
  intro S T a1 a2 hS hT h1 h2 hI
  obtain ⟨hC, hM, hN, hR⟩ := hI
  obtain ⟨⟨r, S1⟩, e1, c1⟩ := cs_price hC a1 a2 h1 h2
  obtain ⟨⟨t, T1⟩, e2, m1⟩ := ms_price_ok hM hN a1 a2 h1 h2
  exact ⟨r, S1, t, T1, e1, e2, c1, m1.1, m1.2, trivial⟩
theorem p14_pays : hc_pays (JI (fun _ _ => True)) := by
  intro S T a1 hS hT h1 hI
  obtain ⟨hC, hM, hN, hR⟩ := hI
  obtain ⟨r, e1, _⟩ := cs_pays hC a1 h1
  obtain ⟨⟨t, T1⟩, e2, m1⟩ := ms_pays_ok hM hN a1 h1
  exact ⟨r, t, T1, e1, e2, hC, m1.1, m1.2, trivial⟩
theorem p14_count : hc_count (JI (fun _ _ => True)) := by
  intro S T a1 hS hT h1 hI
  obtain ⟨hC, hM, hN, hR⟩ := hI
  obtain ⟨r, e1, _⟩ := cs_count hC a1 h1
  obtain ⟨⟨t, T1⟩, e2, m1⟩ := ms_count_ok hM hN a1 h1
  exact ⟨r, t, T1, e1, e2, hC, m1.1, m1.2, trivial⟩
theorem p14_ok : LawOK (JI (fun _ _ => True)) := ⟨⟨CX_0, MX_0, nx_0 rfl, trivial⟩, p14_feed, p14_end, p14_first, p14_second, p14_marks, p14_fault, p14_word, p14_mark, p14_answer, p14_rank, p14_meet, p14_within, p14_costs, p14_hold, p14_held, p14_unasked, p14_distance, p14_next, p14_error, p14_price, p14_pays, p14_count⟩
