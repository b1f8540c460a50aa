/-! the same, further methods -/
set_option maxRecDepth 200000 in
set_option maxHeartbeats 8000000 in
theorem cks_8 : ([96, 97, 98, 99, 100, 101, 102, 103, 104, 105, 106, 107] : List Nat).all am_cks = true := by decide +kernel
set_option maxRecDepth 200000 in
set_option maxHeartbeats 8000000 in
theorem cks_9 : ([108, 109, 110, 111, 112, 113, 114, 115, 116, 117, 118, 119] : List Nat).all am_cks = true := by decide +kernel
set_option maxRecDepth 200000 in
set_option maxHeartbeats 8000000 in
theorem cks_10 : ([120, 121, 122, 123, 124, 125, 126, 127, 128, 129, 130, 131] : List Nat).all am_cks = true := by decide +kernel
set_option maxRecDepth 200000 in
set_option maxHeartbeats 8000000 in
theorem cks_11 : ([132, 133, 134, 135, 136, 137, 138, 139, 140, 141, 142, 143] : List Nat).all am_cks = true := by decide +kernel
set_option maxRecDepth 200000 in
set_option maxHeartbeats 8000000 in
theorem cks_12 : ([144, 145, 146, 147, 148, 149, 150, 151, 152, 153, 154, 155] : List Nat).all am_cks = true := by decide +kernel
set_option maxRecDepth 200000 in
set_option maxHeartbeats 8000000 in
theorem cks_13 : ([156, 157, 158, 159, 160, 161, 162, 163, 164, 165, 166, 167] : List Nat).all am_cks = true := by decide +kernel
set_option maxRecDepth 200000 in
set_option maxHeartbeats 8000000 in
theorem cks_14 : ([168, 169, 170, 171, 172, 173, 174, 175, 176, 177, 178, 179] : List Nat).all am_cks = true := by decide +kernel
set_option maxRecDepth 200000 in
set_option maxHeartbeats 8000000 in
theorem cks_15 : ([180, 181, 182, 183, 184, 185, 186, 187, 188, 189, 190, 191] : List Nat).all am_cks = true := by decide +kernel
