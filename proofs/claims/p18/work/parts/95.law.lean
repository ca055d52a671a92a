theorem law_feed : hc_feed (JI RT) := by
  intro S T a1 a2 a3 a4 a5 hS hT h1 h2 h3 h4 h5 hI
  obtain ⟨hC, hM, hN, hR⟩ := hI
  obtain ⟨⟨r, S1⟩, e1, c1⟩ := cs_feed hC a1 a2 a3 a4 a5 h1 h2 h3 h4 h5
  obtain ⟨⟨t, T1⟩, e2, m1⟩ := ms_feed_ok hM hN a1 a2 a3 a4 a5 h1 h2 h3 h4 h5
  exact ⟨r, S1, t, T1, e1, e2, c1, m1.1, m1.2, RT_feed hC hM hN hR e1 e2⟩
theorem law_end : hc_end (JI RT) := by
  intro S T a1 hS hT h1 hI
  obtain ⟨hC, hM, hN, hR⟩ := hI
  obtain ⟨⟨r, S1⟩, e1, c1⟩ := cs_end hC a1 h1
  obtain ⟨⟨t, T1⟩, e2, m1⟩ := ms_end_ok hM hN a1 h1
  exact ⟨r, S1, t, T1, e1, e2, c1, m1.1, m1.2, RT_end hM hN hR e1 e2⟩
theorem law_first : hc_first (JI RT) := by
  intro S T hS hT hI
  obtain ⟨hC, hM, hN, hR⟩ := hI
  obtain ⟨⟨r, S1⟩, e1, c1⟩ := cs_first hC
  obtain ⟨⟨t, T1⟩, e2, m1⟩ := ms_first_ok hM hN
  exact ⟨r, S1, t, T1, e1, e2, c1, m1.1, m1.2, RT_first hC hM hN m1.1 m1.2 hR e1 e2⟩
theorem law_second : hc_second (JI RT) := by
  intro S T hS hT hI
  obtain ⟨hC, hM, hN, hR⟩ := hI
  obtain ⟨⟨r, S1⟩, e1, c1⟩ := cs_second hC
  obtain ⟨⟨t, T1⟩, e2, m1⟩ := ms_second_ok hM hN
  exact ⟨r, S1, t, T1, e1, e2, c1, m1.1, m1.2, RT_second hC hM hN hR e1 e2⟩
theorem law_marks : hc_marks (JI RT) := by
  intro S T hS hT hI
  obtain ⟨hC, hM, hN, hR⟩ := hI
  obtain ⟨⟨r, S1⟩, e1, c1⟩ := cs_marks hC
  obtain ⟨⟨t, T1⟩, e2, m1⟩ := ms_marks_ok hM hN
  exact ⟨r, S1, t, T1, e1, e2, c1, m1.1, m1.2, RT_marks hC hM hN m1.1 m1.2 hR e1 e2⟩
theorem law_fault : hc_fault (JI RT) := by
  intro S T a1 hS hT h1 hI
  obtain ⟨hC, hM, hN, hR⟩ := hI
  exact ⟨_, _, rfl, rfl, hC, hM, hN, hR⟩
theorem law_word : hc_word (JI RT) := by
  intro S T a1 a2 hS hT h1 h2 hI
  obtain ⟨hC, hM, hN, hR⟩ := hI
  obtain ⟨r, e1, _⟩ := cs_word hC a1 a2 h1 h2
  obtain ⟨⟨t, T1⟩, e2, m1⟩ := ms_word_ok hM hN a1 a2 h1 h2
  exact ⟨r, t, T1, e1, e2, hC, m1.1, m1.2, RT_ref hM hN hR (fh_word hM hN a1 a2 _ e2) (lx_M_word (X := X195) (S0 := T) rfl T a1 a2 (LX_refl _ T) _ e2)⟩
theorem law_mark : hc_mark (JI RT) := by
  intro S T a1 a2 hS hT h1 h2 hI
  obtain ⟨hC, hM, hN, hR⟩ := hI
  obtain ⟨r, e1, _⟩ := cs_mark hC a1 a2 h1 h2
  obtain ⟨⟨t, T1⟩, e2, m1⟩ := ms_mark_ok hM hN a1 a2 h1 h2
  exact ⟨r, t, T1, e1, e2, hC, m1.1, m1.2, RT_ref hM hN hR (fh_mark hM a1 a2 _ e2) (lx_M_mark (X := X195) (S0 := T) T a1 a2 (LX_refl _ T) _ e2)⟩
theorem law_answer : hc_answer (JI RT) := by
  intro S T a1 a2 hS hT h1 h2 h3 hI
  obtain ⟨hC, hM, hN, hR⟩ := hI
  obtain ⟨⟨r, S1⟩, e1, c1⟩ := cs_answer hC a1 a2 h1 h2 h3
  obtain ⟨⟨t, T1⟩, e2, m1⟩ := ms_answer_ok hM hN a1 a2 h1 h2 h3
  exact ⟨r, S1, t, T1, e1, e2, c1, m1.1, m1.2, RT_answer hC hM hN m1.1 m1.2 hR e1 e2⟩
theorem law_rank : hc_rank (JI RT) := by
  intro S T a1 a2 hS hT h1 h2 hI
  obtain ⟨hC, hM, hN, hR⟩ := hI
  obtain ⟨⟨r, S1⟩, e1, c1⟩ := cs_rank hC a1 a2 h1 h2
  obtain ⟨⟨t, T1⟩, e2, m1⟩ := ms_rank_ok hM hN a1 a2 h1 h2
  exact ⟨r, S1, t, T1, e1, e2, c1, m1.1, m1.2, RT_rank hC hM hN m1.1 m1.2 hR e1 e2⟩
theorem law_meet : hc_meet (JI RT) := by
  intro S T a1 a2 hS hT h1 h2 hI
  obtain ⟨hC, hM, hN, hR⟩ := hI
  obtain ⟨r, e1, _⟩ := cs_meet hC a1 a2 h1 h2
  obtain ⟨t, e2, _⟩ := ms_meet_ok hM hN a1 a2 h1 h2
  exact ⟨r, t, e1, e2, hC, hM, hN, hR⟩
theorem law_within : hc_within (JI RT) := by
  intro S T a1 a2 hS hT h1 h2 hI
  obtain ⟨hC, hM, hN, hR⟩ := hI
  obtain ⟨r, e1, _⟩ := cs_within hC a1 a2 h1 h2
  obtain ⟨t, e2, _⟩ := ms_within_ok hM hN a1 a2 h1 h2
  exact ⟨r, t, e1, e2, hC, hM, hN, hR⟩
theorem law_costs : hc_costs (JI RT) := by
  intro S T a1 a2 hS hT h1 h2 hI
  obtain ⟨hC, hM, hN, hR⟩ := hI
  obtain ⟨⟨r, S1⟩, e1, c1⟩ := cs_costs hC a1 a2 h1 h2
  obtain ⟨⟨t, T1⟩, e2, m1⟩ := ms_costs_ok hM hN a1 a2 h1 h2
  exact ⟨r, S1, t, T1, e1, e2, c1, m1.1, m1.2, RT_costs hM hN hR e1 e2⟩
theorem law_hold : hc_hold (JI RT) := by
  intro S T hS hT hI
  obtain ⟨hC, hM, hN, hR⟩ := hI
  obtain ⟨⟨r, S1⟩, e1, c1⟩ := cs_hold hC
  obtain ⟨⟨t, T1⟩, e2, m1⟩ := ms_hold_ok hM hN
  exact ⟨r, S1, t, T1, e1, e2, c1, m1.1, m1.2, RT_hold hM hN hR e1 e2⟩
theorem law_held : hc_held (JI RT) := by
  intro S T a1 hS hT h1 hI
  obtain ⟨hC, hM, hN, hR⟩ := hI
  obtain ⟨r, e1, _⟩ := cs_held hC a1 h1
  obtain ⟨t, e2, _⟩ := ms_held_ok hM hN a1 h1
  exact ⟨r, t, e1, e2, hC, hM, hN, hR⟩
theorem law_unasked : hc_unasked (JI RT) := by
  intro S T a1 a2 hS hT h1 h2 hI
  obtain ⟨hC, hM, hN, hR⟩ := hI
  obtain ⟨r, e1, _⟩ := cs_unasked hC a1 a2 h1 h2
  obtain ⟨t, e2, _⟩ := ms_unasked_ok hM hN a1 a2 h1 h2
  exact ⟨r, t, e1, e2, hC, hM, hN, hR⟩
theorem law_distance : hc_distance (JI RT) := by
  intro S T a1 a2 hS hT h1 h2 hI
  obtain ⟨hC, hM, hN, hR⟩ := hI
  obtain ⟨⟨r, S1⟩, e1, c1⟩ := cs_distance hC a1 a2 h1 h2
  obtain ⟨⟨t, T1⟩, e2, m1⟩ := ms_distance_ok hM hN a1 a2 h1 h2
  exact ⟨r, S1, t, T1, e1, e2, ⟨c1, m1.1, m1.2, RT_distance hM hN hR e1 e2⟩, RT_dist hC hM hN hR e1 e2⟩
theorem law_next : hc_next (JI RT) := by
  intro S T hS hT hI
  obtain ⟨hC, hM, hN, hR⟩ := hI
  obtain ⟨⟨r, S1⟩, e1, c1⟩ := cs_next hC
  obtain ⟨⟨t, T1⟩, e2, m1⟩ := ms_next_ok hM hN
  exact ⟨r, S1, t, T1, e1, e2, c1, m1.1, m1.2, RT_next hC hM m1.1 m1.2 hR e1 e2⟩
theorem law_error : hc_error (JI RT) := by
  intro S T a1 a2 hS hT h1 h2 h3 hI
  obtain ⟨hC, hM, hN, hR⟩ := hI
  obtain ⟨⟨r, S1⟩, e1, c1⟩ := cs_error hC a1 a2 h1 h2 h3
  obtain ⟨⟨t, T1⟩, e2, m1⟩ := ms_error_ok hM hN a1 a2 h1 h2 h3
  exact ⟨r, S1, t, T1, e1, e2, c1, m1.1, m1.2, RT_error hC hM hN hR e1 e2⟩
theorem law_price : hc_price (JI RT) := by
  intro S T a1 a2 hS hT h1 h2 hI
  obtain ⟨hC, hM, hN, hR⟩ := hI
  obtain ⟨⟨r, S1⟩, e1, c1⟩ := cs_price hC a1 a2 h1 h2
  obtain ⟨⟨t, T1⟩, e2, m1⟩ := ms_price_ok hM hN a1 a2 h1 h2
  exact ⟨r, S1, t, T1, e1, e2, c1, m1.1, m1.2, RT_price hM hN hR e1 e2⟩
theorem law_pays : hc_pays (JI RT) := by
  intro S T a1 hS hT h1 hI
  obtain ⟨hC, hM, hN, hR⟩ := hI
  obtain ⟨r, e1, _⟩ := cs_pays hC a1 h1
  obtain ⟨⟨t, T1⟩, e2, m1⟩ := ms_pays_ok hM hN a1 h1
  exact ⟨r, t, T1, e1, e2, hC, m1.1, m1.2, RT_ref hM hN hR (fh_pays hM hN a1 _ e2) (lx_M_pays (X := X195) (S0 := T) T a1 (LX_refl _ T) _ e2)⟩
theorem law_count : hc_count (JI RT) := by
  intro S T a1 hS hT h1 hI
  obtain ⟨hC, hM, hN, hR⟩ := hI
  obtain ⟨r, e1, _⟩ := cs_count hC a1 h1
  obtain ⟨⟨t, T1⟩, e2, m1⟩ := ms_count_ok hM hN a1 h1
  exact ⟨r, t, T1, e1, e2, hC, m1.1, m1.2, RT_ref hM hN hR (fh_count hM hN a1 _ e2) (lx_M_count (X := X195) (S0 := T) rfl T a1 (LX_refl _ T) _ e2)⟩
theorem law_ok : LawOK (JI RT) := ⟨⟨CX_0, MX_0, nx_0 rfl, RT_0⟩, law_feed, law_end, law_first, law_second, law_marks, law_fault, law_word, law_mark, law_answer, law_rank, law_meet, law_within, law_costs, law_hold, law_held, law_unasked, law_distance, law_next, law_error, law_price, law_pays, law_count⟩
