/-! all calls keep the relation -/
theorem sim_all : SIM Sim := by
  intro k hk w v a b c d h
  have hcases : k = 0 ∨ k = 1 ∨ k = 2 ∨ k = 3 ∨ k = 4 ∨ k = 5 ∨ k = 6 ∨ k = 7 ∨ k = 8 ∨ k = 9 ∨ k = 10 ∨ k = 11 ∨ k = 12 ∨ k = 13 ∨ k = 14 ∨ k = 15 ∨ k = 16 ∨ k = 17 ∨ k = 18 ∨ k = 19 ∨ k = 20 ∨ k = 21 ∨ k = 22 ∨ k = 23 ∨ k = 24 ∨ k = 25 ∨ k = 26 ∨ k = 27 ∨ k = 28 ∨ k = 29 ∨ k = 30 ∨ k = 31 ∨ k = 32 ∨ k = 33 ∨ k = 34 ∨ k = 35 := by omega
  rcases hcases with rfl | rfl | rfl | rfl | rfl | rfl | rfl | rfl | rfl | rfl | rfl | rfl | rfl | rfl | rfl | rfl | rfl | rfl | rfl | rfl | rfl | rfl | rfl | rfl | rfl | rfl | rfl | rfl | rfl | rfl | rfl | rfl | rfl | rfl | rfl | rfl
  · exact s_sort h a b
  · exact s_cast h a b
  · exact s_many h a b
  · exact s_day h a
  · exact s_feed h _ c
  · exact s_text h a
  · exact s_force h a b
  · exact s_verse h
  · exact s_line h a b c
  · exact s_needs h a b c
  · exact s_enough h a b
  · exact s_page h a
  · exact s_pull h a b
  · exact s_down h a
  · exact s_press h a b
  · exact s_order h a b
  · exact s_done h a b
  · exact s_leaf h a b c d
  · exact s_shows h a b
  · exact s_as h a b
  · exact s_copies h a
  · exact s_state h a
  · exact s_allowed h a
  · exact s_hand h a
  · exact s_rival h a b
  · exact s_ahead h a b
  · exact s_runs h a b
  · exact s_loan h a b c
  · exact s_pay h a b c
  · exact s_owe h a b
  · exact s_thing h a b
  · exact s_suit h a
  · exact s_tried h a b
  · exact s_image h
  · exact s_undo h
  · exact s_count h a
