/-! the same, further methods -/
set_option maxRecDepth 200000 in
set_option maxHeartbeats 8000000 in
theorem cks_19 : ([228, 229, 230, 231, 232, 233, 234, 235, 236, 237, 238, 239] : List Nat).all am_cks = true := by decide +kernel
set_option maxRecDepth 200000 in
set_option maxHeartbeats 8000000 in
theorem cks_20 : ([240, 241, 242, 243, 244, 245, 246, 247, 248, 249, 250, 251] : List Nat).all am_cks = true := by decide +kernel
