/-! the same, further methods -/
set_option maxRecDepth 200000 in
set_option maxHeartbeats 8000000 in
theorem cks_22 : ([264, 265, 266, 267, 268, 269, 270, 271, 272, 273, 274] : List Nat).all am_cks = true := by decide +kernel

