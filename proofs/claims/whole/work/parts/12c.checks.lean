/-! the same, further methods -/
set_option maxRecDepth 200000 in
set_option maxHeartbeats 8000000 in
theorem cks_16 : ([192, 193, 194, 195, 196, 197, 198, 199, 200, 201, 202, 203] : List Nat).all am_cks = true := by decide +kernel
set_option maxRecDepth 200000 in
set_option maxHeartbeats 8000000 in
theorem cks_17 : ([204, 205, 206, 207, 208, 209, 210, 211, 212, 213, 214, 215] : List Nat).all am_cks = true := by decide +kernel
set_option maxRecDepth 200000 in
set_option maxHeartbeats 8000000 in
theorem cks_18 : ([216, 217, 218, 219, 220, 221, 222, 223, 224, 225, 226, 227] : List Nat).all am_cks = true := by decide +kernel
