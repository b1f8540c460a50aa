/-! the same, further methods -/
set_option maxRecDepth 200000 in
set_option maxHeartbeats 8000000 in
theorem cks_21b : ([258, 259, 260, 261, 262, 263] : List Nat).all am_cks = true := by decide +kernel
theorem cks_21 : ([252, 253, 254, 255, 256, 257, 258, 259, 260, 261, 262, 263] : List Nat).all am_cks = true := by
  have h1 := cks_21a
  have h2 := cks_21b
  simp only [List.all_cons, List.all_nil, Bool.and_true, Bool.and_eq_true] at h1 h2 ⊢
  obtain ⟨a1, a2, a3, a4, a5, a6⟩ := h1
  exact ⟨a1, a2, a3, a4, a5, a6, h2⟩
