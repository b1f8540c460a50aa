/-! the same, further methods -/
set_option maxRecDepth 200000 in
set_option maxHeartbeats 8000000 in
theorem cks_21a : ([252, 253, 254, 255, 256, 257] : List Nat).all am_cks = true := by decide +kernel
