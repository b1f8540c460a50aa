/-! THE ROWS of the methods: what each answers, out of each cut (by program) -/
set_option maxRecDepth 20000 in
set_option maxHeartbeats 2000000 in
theorem e_Law_law_18 {g : am_G} {F : am_FT} (hF : F = am_F T0 g) {M : am_M} {a0 : Nat} {a1 : Nat} {a2 : Nat} {v3 : Int32} {r : am_R} (h : (
  am_ln g a0 fun x1 =>
  if (x1 - 6) < v3 then
    am_rt 2 1 M
  else
    am_ia g M a0 v3 fun x2 =>
    if (x2 &&& 63) = 0 then
      F 275 220 [.ref a0, .ref a1, .ref a2, .int v3] [] M
    else
    if (x2 &&& 63) = 1 then
      F 275 263 [.ref a0, .ref a1, .ref a2, .int v3] [] M
    else
    if (x2 &&& 63) = 2 then
      F 275 296 [.ref a0, .ref a1, .ref a2, .int v3] [] M
    else
    if (x2 &&& 63) = 3 then
      F 275 359 [.ref a0, .ref a1, .ref a2, .int v3] [] M
    else
    if (x2 &&& 63) = 4 then
      F 275 402 [.ref a0, .ref a1, .ref a2, .int v3] [] M
    else
    if (x2 &&& 63) = 5 then
      F 275 445 [.ref a0, .ref a1, .ref a2, .int v3] [] M
    else
    if (x2 &&& 63) = 6 then
      F 275 478 [.ref a0, .ref a1, .ref a2, .int v3] [] M
    else
    if (x2 &&& 63) = 7 then
      F 275 541 [.ref a0, .ref a1, .ref a2, .int v3] [] M
    else
    if (x2 &&& 63) = 8 then
      F 275 614 [.ref a0, .ref a1, .ref a2, .int v3] [] M
    else
    if (x2 &&& 63) = 9 then
      F 275 657 [.ref a0, .ref a1, .ref a2, .int v3] [] M
    else
    if (x2 &&& 63) = 10 then
      F 275 700 [.ref a0, .ref a1, .ref a2, .int v3] [] M
    else
    if (x2 &&& 63) = 11 then
      F 275 753 [.ref a0, .ref a1, .ref a2, .int v3] [] M
    else
    if (x2 &&& 63) = 12 then
      F 275 776 [.ref a0, .ref a1, .ref a2, .int v3] [] M
    else
    if (x2 &&& 63) = 13 then
      F 275 809 [.ref a0, .ref a1, .ref a2, .int v3] [] M
    else
    if (x2 &&& 63) = 14 then
      F 275 862 [.ref a0, .ref a1, .ref a2, .int v3] [] M
    else
    if (x2 &&& 63) = 15 then
      F 275 915 [.ref a0, .ref a1, .ref a2, .int v3] [] M
    else
    if (x2 &&& 63) = 16 then
      F 275 978 [.ref a0, .ref a1, .ref a2, .int v3] [] M
    else
    if (x2 &&& 63) = 17 then
      F 275 1001 [.ref a0, .ref a1, .ref a2, .int v3] [] M
    else
    if (x2 &&& 63) = 18 then
      F 275 1025 [.ref a0, .ref a1, .ref a2, .int v3] [] M
    else
    if (x2 &&& 63) = 19 then
      F 275 1068 [.ref a0, .ref a1, .ref a2, .int v3] [] M
    else
    if (x2 &&& 63) = 20 then
      F 275 1121 [.ref a0, .ref a1, .ref a2, .int v3] [] M
    else
    if (x2 &&& 63) = 21 then
      F 275 1184 [.ref a0, .ref a1, .ref a2, .int v3] [] M
    else
    if (x2 &&& 63) = 22 then
      F 275 1197 [.ref a0, .ref a1, .ref a2, .int v3] [] M
    else
    if (x2 &&& 63) = 23 then
      F 275 1240 [.ref a0, .ref a1, .ref a2, .int v3] [] M
    else
    if (x2 &&& 63) = 24 then
      F 275 1273 [.ref a0, .ref a1, .ref a2, .int v3] [] M
    else
    if (x2 &&& 63) = 25 then
      F 275 1306 [.ref a0, .ref a1, .ref a2, .int v3] [] M
    else
    if (x2 &&& 63) = 26 then
      F 275 1329 [.ref a0, .ref a1, .ref a2, .int v3] [] M
    else
    if (x2 &&& 63) = 27 then
      F 275 1362 [.ref a0, .ref a1, .ref a2, .int v3] [] M
    else
    if (x2 &&& 63) = 28 then
      F 275 1415 [.ref a0, .ref a1, .ref a2, .int v3] [] M
    else
    if (x2 &&& 63) = 29 then
      F 275 1448 [.ref a0, .ref a1, .ref a2, .int v3] [] M
    else
    if (x2 &&& 63) = 30 then
      F 275 1501 [.ref a0, .ref a1, .ref a2, .int v3] [] M
    else
    if (x2 &&& 63) = 31 then
      F 275 1554 [.ref a0, .ref a1, .ref a2, .int v3] [] M
    else
    if (x2 &&& 63) = 32 then
      F 275 1577 [.ref a0, .ref a1, .ref a2, .int v3] [] M
    else
    if (x2 &&& 63) = 33 then
      F 275 1610 [.ref a0, .ref a1, .ref a2, .int v3] [] M
    else
    if (x2 &&& 63) = 34 then
      F 275 1623 [.ref a0, .ref a1, .ref a2, .int v3] [] M
    else
    if (x2 &&& 63) = 35 then
      F 275 1676 [.ref a0, .ref a1, .ref a2, .int v3] [] M
    else
    if (x2 &&& 63) = 36 then
      F 275 1709 [.ref a0, .ref a1, .ref a2, .int v3] [] M
    else
    if (x2 &&& 63) = 37 then
      F 275 1732 [.ref a0, .ref a1, .ref a2, .int v3] [] M
    else
    if (x2 &&& 63) = 38 then
      F 275 1755 [.ref a0, .ref a1, .ref a2, .int v3] [] M
    else
    if (x2 &&& 63) = 39 then
      F 275 1798 [.ref a0, .ref a1, .ref a2, .int v3] [] M
    else
    if (x2 &&& 63) = 40 then
      F 275 1841 [.ref a0, .ref a1, .ref a2, .int v3] [] M
    else
    if (x2 &&& 63) = 41 then
      F 275 1874 [.ref a0, .ref a1, .ref a2, .int v3] [] M
    else
    if (x2 &&& 63) = 42 then
      F 275 1937 [.ref a0, .ref a1, .ref a2, .int v3] [] M
    else
      F 275 1990 [.ref a0, .ref a1, .ref a2, .int v3] [] M) = some r) : F 275 18 [.ref a0, .ref a1, .ref a2, .int v3] [] M = some r := am_inF hF t_Law_law h
set_option maxRecDepth 20000 in
set_option maxHeartbeats 2000000 in
theorem e_Law_law_220 {g : am_G} {F : am_FT} (hF : F = am_F T0 g) {M : am_M} {a0 : Nat} {a1 : Nat} {a2 : Nat} {v3 : Int32} {r : am_R} (h : (
  am_ia g M a0 (v3 + 1) fun x1 =>
  am_ia g M a0 (v3 + 2) fun x2 =>
  am_ia g M a0 (v3 + 3) fun x3 =>
  am_rc g a1 11 <|
  am_ci (F 205 0 [.ref a1, .int x1, .int x2, .int x3] [] M) fun x5 M4 => /- RunSayer_junction -/
  am_ia g M4 a0 (v3 + 1) fun x6 =>
  am_ia g M4 a0 (v3 + 2) fun x7 =>
  am_ia g M4 a0 (v3 + 3) fun x8 =>
  am_rc g a2 12 <|
  am_ci (F 124 0 [.ref a2, .int x6, .int x7, .int x8] [] M4) fun x10 M9 => /- Model_junction -/
  if x5 = x10 then
    F 275 1990 [.ref a0, .ref a1, .ref a2, .int v3] [] M9
  else
    am_rt 2 0 M9) = some r) : F 275 220 [.ref a0, .ref a1, .ref a2, .int v3] [] M = some r := am_inF hF t_Law_law h
theorem e_Law_law_263 {g : am_G} {F : am_FT} (hF : F = am_F T0 g) {M : am_M} {a0 : Nat} {a1 : Nat} {a2 : Nat} {v3 : Int32} {r : am_R} (h : (
  am_ia g M a0 (v3 + 1) fun x1 =>
  am_ia g M a0 (v3 + 2) fun x2 =>
  am_rc g a1 11 <|
  am_ci (F 208 0 [.ref a1, .int x1, .int x2] [] M) fun x4 M3 => /- RunSayer_ring -/
  am_ia g M3 a0 (v3 + 1) fun x5 =>
  am_ia g M3 a0 (v3 + 2) fun x6 =>
  am_rc g a2 12 <|
  am_ci (F 136 0 [.ref a2, .int x5, .int x6] [] M3) fun x8 M7 => /- Model_ring -/
  if x4 = x8 then
    F 275 1990 [.ref a0, .ref a1, .ref a2, .int v3] [] M7
  else
    am_rt 2 0 M7) = some r) : F 275 263 [.ref a0, .ref a1, .ref a2, .int v3] [] M = some r := am_inF hF t_Law_law h
set_option maxRecDepth 20000 in
set_option maxHeartbeats 2000000 in
theorem e_Law_law_296 {g : am_G} {F : am_FT} (hF : F = am_F T0 g) {M : am_M} {a0 : Nat} {a1 : Nat} {a2 : Nat} {v3 : Int32} {r : am_R} (h : (
  am_ia g M a0 (v3 + 1) fun x1 =>
  am_ia g M a0 (v3 + 2) fun x2 =>
  am_ia g M a0 (v3 + 3) fun x3 =>
  am_ia g M a0 (v3 + 4) fun x4 =>
  am_ia g M a0 (v3 + 5) fun x5 =>
  am_rc g a1 11 <|
  am_ci (F 213 0 [.ref a1, .int x1, .int x2, .int x3, .int x4, .int x5] [] M) fun x7 M6 => /- RunSayer_way -/
  am_ia g M6 a0 (v3 + 1) fun x8 =>
  am_ia g M6 a0 (v3 + 2) fun x9 =>
  am_ia g M6 a0 (v3 + 3) fun x10 =>
  am_ia g M6 a0 (v3 + 4) fun x11 =>
  am_ia g M6 a0 (v3 + 5) fun x12 =>
  am_rc g a2 12 <|
  am_ci (F 141 0 [.ref a2, .int x8, .int x9, .int x10, .int x11, .int x12] [] M6) fun x14 M13 => /- Model_way -/
  if x7 = x14 then
    F 275 1990 [.ref a0, .ref a1, .ref a2, .int v3] [] M13
  else
    am_rt 2 0 M13) = some r) : F 275 296 [.ref a0, .ref a1, .ref a2, .int v3] [] M = some r := am_inF hF t_Law_law h
set_option maxRecDepth 20000 in
set_option maxHeartbeats 2000000 in
theorem e_Law_law_359 {g : am_G} {F : am_FT} (hF : F = am_F T0 g) {M : am_M} {a0 : Nat} {a1 : Nat} {a2 : Nat} {v3 : Int32} {r : am_R} (h : (
  am_ia g M a0 (v3 + 1) fun x1 =>
  am_ia g M a0 (v3 + 2) fun x2 =>
  am_ia g M a0 (v3 + 3) fun x3 =>
  am_rc g a1 11 <|
  am_ci (F 203 0 [.ref a1, .int x1, .int x2, .int x3] [] M) fun x5 M4 => /- RunSayer_door -/
  am_ia g M4 a0 (v3 + 1) fun x6 =>
  am_ia g M4 a0 (v3 + 2) fun x7 =>
  am_ia g M4 a0 (v3 + 3) fun x8 =>
  am_rc g a2 12 <|
  am_ci (F 180 0 [.ref a2, .int x6, .int x7, .int x8] [] M4) fun x10 M9 => /- Model_door -/
  if x5 = x10 then
    F 275 1990 [.ref a0, .ref a1, .ref a2, .int v3] [] M9
  else
    am_rt 2 0 M9) = some r) : F 275 359 [.ref a0, .ref a1, .ref a2, .int v3] [] M = some r := am_inF hF t_Law_law h
set_option maxRecDepth 20000 in
set_option maxHeartbeats 2000000 in
theorem e_Law_law_402 {g : am_G} {F : am_FT} (hF : F = am_F T0 g) {M : am_M} {a0 : Nat} {a1 : Nat} {a2 : Nat} {v3 : Int32} {r : am_R} (h : (
  am_ia g M a0 (v3 + 1) fun x1 =>
  am_ia g M a0 (v3 + 2) fun x2 =>
  am_ia g M a0 (v3 + 3) fun x3 =>
  am_rc g a1 11 <|
  am_ci (F 197 0 [.ref a1, .int x1, .int x2, .int x3] [] M) fun x5 M4 => /- RunSayer_about -/
  am_ia g M4 a0 (v3 + 1) fun x6 =>
  am_ia g M4 a0 (v3 + 2) fun x7 =>
  am_ia g M4 a0 (v3 + 3) fun x8 =>
  am_rc g a2 12 <|
  am_ci (F 177 0 [.ref a2, .int x6, .int x7, .int x8] [] M4) fun x10 M9 => /- Model_about -/
  if x5 = x10 then
    F 275 1990 [.ref a0, .ref a1, .ref a2, .int v3] [] M9
  else
    am_rt 2 0 M9) = some r) : F 275 402 [.ref a0, .ref a1, .ref a2, .int v3] [] M = some r := am_inF hF t_Law_law h
theorem e_Law_law_445 {g : am_G} {F : am_FT} (hF : F = am_F T0 g) {M : am_M} {a0 : Nat} {a1 : Nat} {a2 : Nat} {v3 : Int32} {r : am_R} (h : (
  am_ia g M a0 (v3 + 1) fun x1 =>
  am_ia g M a0 (v3 + 2) fun x2 =>
  am_rc g a1 11 <|
  am_ci (F 211 0 [.ref a1, .int x1, .int x2] [] M) fun x4 M3 => /- RunSayer_taken -/
  am_ia g M3 a0 (v3 + 1) fun x5 =>
  am_ia g M3 a0 (v3 + 2) fun x6 =>
  am_rc g a2 12 <|
  am_ci (F 140 0 [.ref a2, .int x5, .int x6] [] M3) fun x8 M7 => /- Model_taken -/
  if x4 = x8 then
    F 275 1990 [.ref a0, .ref a1, .ref a2, .int v3] [] M7
  else
    am_rt 2 0 M7) = some r) : F 275 445 [.ref a0, .ref a1, .ref a2, .int v3] [] M = some r := am_inF hF t_Law_law h
set_option maxRecDepth 20000 in
set_option maxHeartbeats 2000000 in
theorem e_Law_law_478 {g : am_G} {F : am_FT} (hF : F = am_F T0 g) {M : am_M} {a0 : Nat} {a1 : Nat} {a2 : Nat} {v3 : Int32} {r : am_R} (h : (
  am_ia g M a0 (v3 + 1) fun x1 =>
  am_ia g M a0 (v3 + 2) fun x2 =>
  am_ia g M a0 (v3 + 3) fun x3 =>
  am_rc g a1 11 <|
  am_ci (F 206 0 [.ref a1, .int x1, .long ((x2.toInt64 <<< ((32 : Int32).toInt64 &&& 63)) ||| (x3.toInt64 &&& 4294967295))] [] M) fun x5 M4 => /- RunSayer_name -/
  am_ia g M4 a0 (v3 + 1) fun x6 =>
  am_ia g M4 a0 (v3 + 2) fun x7 =>
  am_ia g M4 a0 (v3 + 3) fun x8 =>
  am_rc g a2 12 <|
  am_ci (F 190 0 [.ref a2, .int x6, .long ((x7.toInt64 <<< ((32 : Int32).toInt64 &&& 63)) ||| (x8.toInt64 &&& 4294967295))] [] M4) fun x10 M9 => /- Model_name -/
  if x5 = x10 then
    F 275 1990 [.ref a0, .ref a1, .ref a2, .int v3] [] M9
  else
    am_rt 2 0 M9) = some r) : F 275 478 [.ref a0, .ref a1, .ref a2, .int v3] [] M = some r := am_inF hF t_Law_law h
set_option maxRecDepth 20000 in
set_option maxHeartbeats 2000000 in
theorem e_Law_law_541 {g : am_G} {F : am_FT} (hF : F = am_F T0 g) {M : am_M} {a0 : Nat} {a1 : Nat} {a2 : Nat} {v3 : Int32} {r : am_R} (h : (
  am_ia g M a0 (v3 + 1) fun x1 =>
  am_ia g M a0 (v3 + 2) fun x2 =>
  am_ia g M a0 (v3 + 3) fun x3 =>
  am_ia g M a0 (v3 + 4) fun x4 =>
  am_rc g a1 11 <|
  am_ci (F 198 0 [.ref a1, .int x1, .long ((x2.toInt64 <<< ((32 : Int32).toInt64 &&& 63)) ||| (x3.toInt64 &&& 4294967295)), .int x4] [] M) fun x6 M5 => /- RunSayer_answers -/
  am_ia g M5 a0 (v3 + 1) fun x7 =>
  am_ia g M5 a0 (v3 + 2) fun x8 =>
  am_ia g M5 a0 (v3 + 3) fun x9 =>
  am_ia g M5 a0 (v3 + 4) fun x10 =>
  am_rc g a2 12 <|
  am_ci (F 178 0 [.ref a2, .int x7, .long ((x8.toInt64 <<< ((32 : Int32).toInt64 &&& 63)) ||| (x9.toInt64 &&& 4294967295)), .int x10] [] M5) fun x12 M11 => /- Model_answers -/
  if x6 = x12 then
    F 275 1990 [.ref a0, .ref a1, .ref a2, .int v3] [] M11
  else
    am_rt 2 0 M11) = some r) : F 275 541 [.ref a0, .ref a1, .ref a2, .int v3] [] M = some r := am_inF hF t_Law_law h
set_option maxRecDepth 20000 in
set_option maxHeartbeats 2000000 in
theorem e_Law_law_614 {g : am_G} {F : am_FT} (hF : F = am_F T0 g) {M : am_M} {a0 : Nat} {a1 : Nat} {a2 : Nat} {v3 : Int32} {r : am_R} (h : (
  am_ia g M a0 (v3 + 1) fun x1 =>
  am_ia g M a0 (v3 + 2) fun x2 =>
  am_ia g M a0 (v3 + 3) fun x3 =>
  am_rc g a1 11 <|
  am_ci (F 210 0 [.ref a1, .int x1, .int x2, .int x3] [] M) fun x5 M4 => /- RunSayer_shut -/
  am_ia g M4 a0 (v3 + 1) fun x6 =>
  am_ia g M4 a0 (v3 + 2) fun x7 =>
  am_ia g M4 a0 (v3 + 3) fun x8 =>
  am_rc g a2 12 <|
  am_ci (F 193 0 [.ref a2, .int x6, .int x7, .int x8] [] M4) fun x10 M9 => /- Model_shut -/
  if x5 = x10 then
    F 275 1990 [.ref a0, .ref a1, .ref a2, .int v3] [] M9
  else
    am_rt 2 0 M9) = some r) : F 275 614 [.ref a0, .ref a1, .ref a2, .int v3] [] M = some r := am_inF hF t_Law_law h
set_option maxRecDepth 20000 in
set_option maxHeartbeats 2000000 in
theorem e_Law_law_657 {g : am_G} {F : am_FT} (hF : F = am_F T0 g) {M : am_M} {a0 : Nat} {a1 : Nat} {a2 : Nat} {v3 : Int32} {r : am_R} (h : (
  am_ia g M a0 (v3 + 1) fun x1 =>
  am_ia g M a0 (v3 + 2) fun x2 =>
  am_ia g M a0 (v3 + 3) fun x3 =>
  am_rc g a1 11 <|
  am_ci (F 212 0 [.ref a1, .int x1, .int x2, .int x3] [] M) fun x5 M4 => /- RunSayer_wasShut -/
  am_ia g M4 a0 (v3 + 1) fun x6 =>
  am_ia g M4 a0 (v3 + 2) fun x7 =>
  am_ia g M4 a0 (v3 + 3) fun x8 =>
  am_rc g a2 12 <|
  am_ci (F 194 0 [.ref a2, .int x6, .int x7, .int x8] [] M4) fun x10 M9 => /- Model_wasShut -/
  if x5 = x10 then
    F 275 1990 [.ref a0, .ref a1, .ref a2, .int v3] [] M9
  else
    am_rt 2 0 M9) = some r) : F 275 657 [.ref a0, .ref a1, .ref a2, .int v3] [] M = some r := am_inF hF t_Law_law h
set_option maxRecDepth 20000 in
set_option maxHeartbeats 2000000 in
theorem e_Law_law_700 {g : am_G} {F : am_FT} (hF : F = am_F T0 g) {M : am_M} {a0 : Nat} {a1 : Nat} {a2 : Nat} {v3 : Int32} {r : am_R} (h : (
  am_ia g M a0 (v3 + 1) fun x1 =>
  am_ia g M a0 (v3 + 2) fun x2 =>
  am_ia g M a0 (v3 + 3) fun x3 =>
  am_ia g M a0 (v3 + 4) fun x4 =>
  am_rc g a1 11 <|
  am_ci (F 199 0 [.ref a1, .int x1, .int x2, .int x3, .int x4] [] M) fun x6 M5 => /- RunSayer_ban -/
  am_ia g M5 a0 (v3 + 1) fun x7 =>
  am_ia g M5 a0 (v3 + 2) fun x8 =>
  am_ia g M5 a0 (v3 + 3) fun x9 =>
  am_ia g M5 a0 (v3 + 4) fun x10 =>
  am_rc g a2 12 <|
  am_ci (F 179 0 [.ref a2, .int x7, .int x8, .int x9, .int x10] [] M5) fun x12 M11 => /- Model_ban -/
  if x6 = x12 then
    F 275 1990 [.ref a0, .ref a1, .ref a2, .int v3] [] M11
  else
    am_rt 2 0 M11) = some r) : F 275 700 [.ref a0, .ref a1, .ref a2, .int v3] [] M = some r := am_inF hF t_Law_law h
theorem e_Law_law_753 {g : am_G} {F : am_FT} (hF : F = am_F T0 g) {M : am_M} {a0 : Nat} {a1 : Nat} {a2 : Nat} {v3 : Int32} {r : am_R} (h : (
  am_ia g M a0 (v3 + 1) fun x1 =>
  am_rc g a1 11 <|
  am_ci (F 156 0 [.ref a1, .int x1] [] M) fun x3 M2 => /- RunSayer_pass -/
  am_ia g M2 a0 (v3 + 1) fun x4 =>
  am_rc g a2 12 <|
  am_ci (F 128 0 [.ref a2, .int x4] [] M2) fun x6 M5 => /- Model_pass -/
  if x3 = x6 then
    F 275 1990 [.ref a0, .ref a1, .ref a2, .int v3] [] M5
  else
    am_rt 2 0 M5) = some r) : F 275 753 [.ref a0, .ref a1, .ref a2, .int v3] [] M = some r := am_inF hF t_Law_law h
theorem e_Law_law_776 {g : am_G} {F : am_FT} (hF : F = am_F T0 g) {M : am_M} {a0 : Nat} {a1 : Nat} {a2 : Nat} {v3 : Int32} {r : am_R} (h : (
  am_ia g M a0 (v3 + 1) fun x1 =>
  am_ia g M a0 (v3 + 2) fun x2 =>
  am_rc g a1 11 <|
  am_ci (F 248 0 [.ref a1, .int x1, .int x2] [] M) fun x4 M3 => /- RunSayer_turn -/
  am_ia g M3 a0 (v3 + 1) fun x5 =>
  am_ia g M3 a0 (v3 + 2) fun x6 =>
  am_rc g a2 12 <|
  am_ci (F 237 0 [.ref a2, .int x5, .int x6] [] M3) fun x8 M7 => /- Model_turn -/
  if x4 = x8 then
    F 275 1990 [.ref a0, .ref a1, .ref a2, .int v3] [] M7
  else
    am_rt 2 0 M7) = some r) : F 275 776 [.ref a0, .ref a1, .ref a2, .int v3] [] M = some r := am_inF hF t_Law_law h
set_option maxRecDepth 20000 in
set_option maxHeartbeats 2000000 in
theorem e_Law_law_809 {g : am_G} {F : am_FT} (hF : F = am_F T0 g) {M : am_M} {a0 : Nat} {a1 : Nat} {a2 : Nat} {v3 : Int32} {r : am_R} (h : (
  am_ia g M a0 (v3 + 1) fun x1 =>
  am_ia g M a0 (v3 + 2) fun x2 =>
  am_ia g M a0 (v3 + 3) fun x3 =>
  am_ia g M a0 (v3 + 4) fun x4 =>
  am_rc g a1 11 <|
  am_ci (F 204 0 [.ref a1, .int x1, .int x2, .int x3, .int x4] [] M) fun x6 M5 => /- RunSayer_drivable -/
  am_ia g M5 a0 (v3 + 1) fun x7 =>
  am_ia g M5 a0 (v3 + 2) fun x8 =>
  am_ia g M5 a0 (v3 + 3) fun x9 =>
  am_ia g M5 a0 (v3 + 4) fun x10 =>
  am_rc g a2 12 <|
  am_ci (F 223 0 [.ref a2, .int x7, .int x8, .int x9, .int x10] [] M5) fun x12 M11 => /- Model_drivable -/
  if x6 = x12 then
    F 275 1990 [.ref a0, .ref a1, .ref a2, .int v3] [] M11
  else
    am_rt 2 0 M11) = some r) : F 275 809 [.ref a0, .ref a1, .ref a2, .int v3] [] M = some r := am_inF hF t_Law_law h
set_option maxRecDepth 20000 in
set_option maxHeartbeats 2000000 in
theorem e_Law_law_862 {g : am_G} {F : am_FT} (hF : F = am_F T0 g) {M : am_M} {a0 : Nat} {a1 : Nat} {a2 : Nat} {v3 : Int32} {r : am_R} (h : (
  am_ia g M a0 (v3 + 1) fun x1 =>
  am_ia g M a0 (v3 + 2) fun x2 =>
  am_ia g M a0 (v3 + 3) fun x3 =>
  am_ia g M a0 (v3 + 4) fun x4 =>
  am_rc g a1 11 <|
  am_ci (F 239 0 [.ref a1, .int x1, .int x2, .int x3, .int x4] [] M) fun x6 M5 => /- RunSayer_best -/
  am_ia g M5 a0 (v3 + 1) fun x7 =>
  am_ia g M5 a0 (v3 + 2) fun x8 =>
  am_ia g M5 a0 (v3 + 3) fun x9 =>
  am_ia g M5 a0 (v3 + 4) fun x10 =>
  am_rc g a2 12 <|
  am_ci (F 264 0 [.ref a2, .int x7, .int x8, .int x9, .int x10] [] M5) fun x12 M11 => /- Model_best -/
  if x6 = x12 then
    F 275 1990 [.ref a0, .ref a1, .ref a2, .int v3] [] M11
  else
    am_rt 2 0 M11) = some r) : F 275 862 [.ref a0, .ref a1, .ref a2, .int v3] [] M = some r := am_inF hF t_Law_law h
set_option maxRecDepth 20000 in
set_option maxHeartbeats 2000000 in
theorem e_Law_law_915 {g : am_G} {F : am_FT} (hF : F = am_F T0 g) {M : am_M} {a0 : Nat} {a1 : Nat} {a2 : Nat} {v3 : Int32} {r : am_R} (h : (
  am_ia g M a0 (v3 + 1) fun x1 =>
  am_ia g M a0 (v3 + 2) fun x2 =>
  am_ia g M a0 (v3 + 3) fun x3 =>
  am_ia g M a0 (v3 + 4) fun x4 =>
  am_ia g M a0 (v3 + 5) fun x5 =>
  am_rc g a1 11 <|
  am_ci (F 240 0 [.ref a1, .int x1, .int x2, .int x3, .int x4, .int x5] [] M) fun x7 M6 => /- RunSayer_bestOn -/
  am_ia g M6 a0 (v3 + 1) fun x8 =>
  am_ia g M6 a0 (v3 + 2) fun x9 =>
  am_ia g M6 a0 (v3 + 3) fun x10 =>
  am_ia g M6 a0 (v3 + 4) fun x11 =>
  am_ia g M6 a0 (v3 + 5) fun x12 =>
  am_rc g a2 12 <|
  am_ci (F 265 0 [.ref a2, .int x8, .int x9, .int x10, .int x11, .int x12] [] M6) fun x14 M13 => /- Model_bestOn -/
  if x7 = x14 then
    F 275 1990 [.ref a0, .ref a1, .ref a2, .int v3] [] M13
  else
    am_rt 2 0 M13) = some r) : F 275 915 [.ref a0, .ref a1, .ref a2, .int v3] [] M = some r := am_inF hF t_Law_law h
theorem e_Law_law_978 {g : am_G} {F : am_FT} (hF : F = am_F T0 g) {M : am_M} {a0 : Nat} {a1 : Nat} {a2 : Nat} {v3 : Int32} {r : am_R} (h : (
  am_ia g M a0 (v3 + 1) fun x1 =>
  am_rc g a1 11 <|
  am_ci (F 147 0 [.ref a1, .int x1] [] M) fun x3 M2 => /- RunSayer_leg -/
  am_ia g M2 a0 (v3 + 1) fun x4 =>
  am_rc g a2 12 <|
  am_ci (F 125 0 [.ref a2, .int x4] [] M2) fun x6 M5 => /- Model_leg -/
  if x3 = x6 then
    F 275 1990 [.ref a0, .ref a1, .ref a2, .int v3] [] M5
  else
    am_rt 2 0 M5) = some r) : F 275 978 [.ref a0, .ref a1, .ref a2, .int v3] [] M = some r := am_inF hF t_Law_law h
theorem e_Law_law_1001 {g : am_G} {F : am_FT} (hF : F = am_F T0 g) {M : am_M} {a0 : Nat} {a1 : Nat} {a2 : Nat} {v3 : Int32} {r : am_R} (h : (
  am_ia g M a0 (v3 + 1) fun x1 =>
  am_rc g a1 11 <|
  am_cj (F 202 0 [.ref a1, .int x1] [] M) fun l3 M2 => /- RunSayer_cost -/
  am_ia g M2 a0 (v3 + 1) fun x4 =>
  am_rc g a2 12 <|
  am_cj (F 47 0 [.ref a2, .int x4] [] M2) fun l6 M5 => /- Model_cost -/
  if (lg_cmp l3 l6) = 0 then
    F 275 1990 [.ref a0, .ref a1, .ref a2, .int v3] [] M5
  else
    am_rt 2 0 M5) = some r) : F 275 1001 [.ref a0, .ref a1, .ref a2, .int v3] [] M = some r := am_inF hF t_Law_law h
set_option maxRecDepth 20000 in
set_option maxHeartbeats 2000000 in
theorem e_Law_law_1025 {g : am_G} {F : am_FT} (hF : F = am_F T0 g) {M : am_M} {a0 : Nat} {a1 : Nat} {a2 : Nat} {v3 : Int32} {r : am_R} (h : (
  am_ia g M a0 (v3 + 1) fun x1 =>
  am_ia g M a0 (v3 + 2) fun x2 =>
  am_ia g M a0 (v3 + 3) fun x3 =>
  am_rc g a1 11 <|
  am_ci (F 245 0 [.ref a1, .int x1, .int x2, .int x3] [] M) fun x5 M4 => /- RunSayer_prove -/
  am_ia g M4 a0 (v3 + 1) fun x6 =>
  am_ia g M4 a0 (v3 + 2) fun x7 =>
  am_ia g M4 a0 (v3 + 3) fun x8 =>
  am_rc g a2 12 <|
  am_ci (F 259 0 [.ref a2, .int x6, .int x7, .int x8] [] M4) fun x10 M9 => /- Model_prove -/
  if x5 = x10 then
    F 275 1990 [.ref a0, .ref a1, .ref a2, .int v3] [] M9
  else
    am_rt 2 0 M9) = some r) : F 275 1025 [.ref a0, .ref a1, .ref a2, .int v3] [] M = some r := am_inF hF t_Law_law h
set_option maxRecDepth 20000 in
set_option maxHeartbeats 2000000 in
theorem e_Law_law_1068 {g : am_G} {F : am_FT} (hF : F = am_F T0 g) {M : am_M} {a0 : Nat} {a1 : Nat} {a2 : Nat} {v3 : Int32} {r : am_R} (h : (
  am_ia g M a0 (v3 + 1) fun x1 =>
  am_ia g M a0 (v3 + 2) fun x2 =>
  am_ia g M a0 (v3 + 3) fun x3 =>
  am_ia g M a0 (v3 + 4) fun x4 =>
  am_rc g a1 11 <|
  am_ci (F 241 0 [.ref a1, .int x1, .int x2, .int x3, .int x4] [] M) fun x6 M5 => /- RunSayer_bound -/
  am_ia g M5 a0 (v3 + 1) fun x7 =>
  am_ia g M5 a0 (v3 + 2) fun x8 =>
  am_ia g M5 a0 (v3 + 3) fun x9 =>
  am_ia g M5 a0 (v3 + 4) fun x10 =>
  am_rc g a2 12 <|
  am_ci (F 258 0 [.ref a2, .int x7, .int x8, .int x9, .int x10] [] M5) fun x12 M11 => /- Model_bound -/
  if x6 = x12 then
    F 275 1990 [.ref a0, .ref a1, .ref a2, .int v3] [] M11
  else
    am_rt 2 0 M11) = some r) : F 275 1068 [.ref a0, .ref a1, .ref a2, .int v3] [] M = some r := am_inF hF t_Law_law h
set_option maxRecDepth 20000 in
set_option maxHeartbeats 2000000 in
theorem e_Law_law_1121 {g : am_G} {F : am_FT} (hF : F = am_F T0 g) {M : am_M} {a0 : Nat} {a1 : Nat} {a2 : Nat} {v3 : Int32} {r : am_R} (h : (
  am_ia g M a0 (v3 + 1) fun x1 =>
  am_ia g M a0 (v3 + 2) fun x2 =>
  am_ia g M a0 (v3 + 3) fun x3 =>
  am_rc g a1 11 <|
  am_ci (F 146 0 [.ref a1, .long ((x1.toInt64 <<< ((32 : Int32).toInt64 &&& 63)) ||| (x2.toInt64 &&& 4294967295)), .int x3] [] M) fun x5 M4 => /- RunSayer_feed -/
  am_ia g M4 a0 (v3 + 1) fun x6 =>
  am_ia g M4 a0 (v3 + 2) fun x7 =>
  am_ia g M4 a0 (v3 + 3) fun x8 =>
  am_rc g a2 12 <|
  am_ci (F 112 0 [.ref a2, .long ((x6.toInt64 <<< ((32 : Int32).toInt64 &&& 63)) ||| (x7.toInt64 &&& 4294967295)), .int x8] [] M4) fun x10 M9 => /- Model_feed -/
  if x5 = x10 then
    F 275 1990 [.ref a0, .ref a1, .ref a2, .int v3] [] M9
  else
    am_rt 2 0 M9) = some r) : F 275 1121 [.ref a0, .ref a1, .ref a2, .int v3] [] M = some r := am_inF hF t_Law_law h
theorem e_Law_law_1184 {g : am_G} {F : am_FT} (hF : F = am_F T0 g) {M : am_M} {a0 : Nat} {a1 : Nat} {a2 : Nat} {v3 : Int32} {r : am_R} (h : (
  am_rc g a1 11 <|
  am_ci (F 161 0 [.ref a1] [] M) fun x2 M1 => /- RunSayer_wipe -/
  am_rc g a2 12 <|
  am_ci (F 64 0 [.ref a2] [] M1) fun x4 M3 => /- Model_wipe -/
  if x2 = x4 then
    F 275 1990 [.ref a0, .ref a1, .ref a2, .int v3] [] M3
  else
    am_rt 2 0 M3) = some r) : F 275 1184 [.ref a0, .ref a1, .ref a2, .int v3] [] M = some r := am_inF hF t_Law_law h
set_option maxRecDepth 20000 in
set_option maxHeartbeats 2000000 in
theorem e_Law_law_1197 {g : am_G} {F : am_FT} (hF : F = am_F T0 g) {M : am_M} {a0 : Nat} {a1 : Nat} {a2 : Nat} {v3 : Int32} {r : am_R} (h : (
  am_ia g M a0 (v3 + 1) fun x1 =>
  am_ia g M a0 (v3 + 2) fun x2 =>
  am_ia g M a0 (v3 + 3) fun x3 =>
  am_rc g a1 11 <|
  am_ci (F 263 0 [.ref a1, .int x1, .int x2, .int x3] [] M) fun x5 M4 => /- RunSayer_say -/
  am_ia g M4 a0 (v3 + 1) fun x6 =>
  am_ia g M4 a0 (v3 + 2) fun x7 =>
  am_ia g M4 a0 (v3 + 3) fun x8 =>
  am_rc g a2 12 <|
  am_ci (F 252 0 [.ref a2, .int x6, .int x7, .int x8] [] M4) fun x10 M9 => /- Model_say -/
  if x5 = x10 then
    F 275 1990 [.ref a0, .ref a1, .ref a2, .int v3] [] M9
  else
    am_rt 2 0 M9) = some r) : F 275 1197 [.ref a0, .ref a1, .ref a2, .int v3] [] M = some r := am_inF hF t_Law_law h
theorem e_Law_law_1240 {g : am_G} {F : am_FT} (hF : F = am_F T0 g) {M : am_M} {a0 : Nat} {a1 : Nat} {a2 : Nat} {v3 : Int32} {r : am_R} (h : (
  am_ia g M a0 (v3 + 1) fun x1 =>
  am_ia g M a0 (v3 + 2) fun x2 =>
  am_rc g a1 11 <|
  am_ci (F 159 0 [.ref a1, .int x1, .int x2] [] M) fun x4 M3 => /- RunSayer_run -/
  am_ia g M3 a0 (v3 + 1) fun x5 =>
  am_ia g M3 a0 (v3 + 2) fun x6 =>
  am_rc g a2 12 <|
  am_ci (F 137 0 [.ref a2, .int x5, .int x6] [] M3) fun x8 M7 => /- Model_run -/
  if x4 = x8 then
    F 275 1990 [.ref a0, .ref a1, .ref a2, .int v3] [] M7
  else
    am_rt 2 0 M7) = some r) : F 275 1240 [.ref a0, .ref a1, .ref a2, .int v3] [] M = some r := am_inF hF t_Law_law h
theorem e_Law_law_1273 {g : am_G} {F : am_FT} (hF : F = am_F T0 g) {M : am_M} {a0 : Nat} {a1 : Nat} {a2 : Nat} {v3 : Int32} {r : am_R} (h : (
  am_ia g M a0 (v3 + 1) fun x1 =>
  am_ia g M a0 (v3 + 2) fun x2 =>
  am_rc g a1 11 <|
  am_ci (F 160 0 [.ref a1, .int x1, .int x2] [] M) fun x4 M3 => /- RunSayer_runTold -/
  am_ia g M3 a0 (v3 + 1) fun x5 =>
  am_ia g M3 a0 (v3 + 2) fun x6 =>
  am_rc g a2 12 <|
  am_ci (F 138 0 [.ref a2, .int x5, .int x6] [] M3) fun x8 M7 => /- Model_runTold -/
  if x4 = x8 then
    F 275 1990 [.ref a0, .ref a1, .ref a2, .int v3] [] M7
  else
    am_rt 2 0 M7) = some r) : F 275 1273 [.ref a0, .ref a1, .ref a2, .int v3] [] M = some r := am_inF hF t_Law_law h
theorem e_Law_law_1306 {g : am_G} {F : am_FT} (hF : F = am_F T0 g) {M : am_M} {a0 : Nat} {a1 : Nat} {a2 : Nat} {v3 : Int32} {r : am_R} (h : (
  am_ia g M a0 (v3 + 1) fun x1 =>
  am_rc g a1 11 <|
  am_ci (F 158 0 [.ref a1, .int x1] [] M) fun x3 M2 => /- RunSayer_pupil -/
  am_ia g M2 a0 (v3 + 1) fun x4 =>
  am_rc g a2 12 <|
  am_ci (F 131 0 [.ref a2, .int x4] [] M2) fun x6 M5 => /- Model_pupil -/
  if x3 = x6 then
    F 275 1990 [.ref a0, .ref a1, .ref a2, .int v3] [] M5
  else
    am_rt 2 0 M5) = some r) : F 275 1306 [.ref a0, .ref a1, .ref a2, .int v3] [] M = some r := am_inF hF t_Law_law h
theorem e_Law_law_1329 {g : am_G} {F : am_FT} (hF : F = am_F T0 g) {M : am_M} {a0 : Nat} {a1 : Nat} {a2 : Nat} {v3 : Int32} {r : am_R} (h : (
  am_ia g M a0 (v3 + 1) fun x1 =>
  am_ia g M a0 (v3 + 2) fun x2 =>
  am_rc g a1 11 <|
  am_ci (F 246 0 [.ref a1, .int x1, .int x2] [] M) fun x4 M3 => /- RunSayer_ride -/
  am_ia g M3 a0 (v3 + 1) fun x5 =>
  am_ia g M3 a0 (v3 + 2) fun x6 =>
  am_rc g a2 12 <|
  am_ci (F 192 0 [.ref a2, .int x5, .int x6] [] M3) fun x8 M7 => /- Model_ride -/
  if x4 = x8 then
    F 275 1990 [.ref a0, .ref a1, .ref a2, .int v3] [] M7
  else
    am_rt 2 0 M7) = some r) : F 275 1329 [.ref a0, .ref a1, .ref a2, .int v3] [] M = some r := am_inF hF t_Law_law h
set_option maxRecDepth 20000 in
set_option maxHeartbeats 2000000 in
theorem e_Law_law_1362 {g : am_G} {F : am_FT} (hF : F = am_F T0 g) {M : am_M} {a0 : Nat} {a1 : Nat} {a2 : Nat} {v3 : Int32} {r : am_R} (h : (
  am_ia g M a0 (v3 + 1) fun x1 =>
  am_ia g M a0 (v3 + 2) fun x2 =>
  am_ia g M a0 (v3 + 3) fun x3 =>
  am_ia g M a0 (v3 + 4) fun x4 =>
  am_rc g a1 11 <|
  am_ci (F 229 0 [.ref a1, .int x1, .int x2, .int x3, .int x4] [] M) fun x6 M5 => /- RunSayer_holds -/
  am_ia g M5 a0 (v3 + 1) fun x7 =>
  am_ia g M5 a0 (v3 + 2) fun x8 =>
  am_ia g M5 a0 (v3 + 3) fun x9 =>
  am_ia g M5 a0 (v3 + 4) fun x10 =>
  am_rc g a2 12 <|
  am_ci (F 182 0 [.ref a2, .int x7, .int x8, .int x9, .int x10] [] M5) fun x12 M11 => /- Model_holds -/
  if x6 = x12 then
    F 275 1990 [.ref a0, .ref a1, .ref a2, .int v3] [] M11
  else
    am_rt 2 0 M11) = some r) : F 275 1362 [.ref a0, .ref a1, .ref a2, .int v3] [] M = some r := am_inF hF t_Law_law h
theorem e_Law_law_1415 {g : am_G} {F : am_FT} (hF : F = am_F T0 g) {M : am_M} {a0 : Nat} {a1 : Nat} {a2 : Nat} {v3 : Int32} {r : am_R} (h : (
  am_ia g M a0 (v3 + 1) fun x1 =>
  am_ia g M a0 (v3 + 2) fun x2 =>
  am_rc g a1 11 <|
  am_ci (F 242 0 [.ref a1, .int x1, .int x2] [] M) fun x4 M3 => /- RunSayer_knows -/
  am_ia g M3 a0 (v3 + 1) fun x5 =>
  am_ia g M3 a0 (v3 + 2) fun x6 =>
  am_rc g a2 12 <|
  am_ci (F 187 0 [.ref a2, .int x5, .int x6] [] M3) fun x8 M7 => /- Model_knows -/
  if x4 = x8 then
    F 275 1990 [.ref a0, .ref a1, .ref a2, .int v3] [] M7
  else
    am_rt 2 0 M7) = some r) : F 275 1415 [.ref a0, .ref a1, .ref a2, .int v3] [] M = some r := am_inF hF t_Law_law h
set_option maxRecDepth 20000 in
set_option maxHeartbeats 2000000 in
theorem e_Law_law_1448 {g : am_G} {F : am_FT} (hF : F = am_F T0 g) {M : am_M} {a0 : Nat} {a1 : Nat} {a2 : Nat} {v3 : Int32} {r : am_R} (h : (
  am_ia g M a0 (v3 + 1) fun x1 =>
  am_ia g M a0 (v3 + 2) fun x2 =>
  am_ia g M a0 (v3 + 3) fun x3 =>
  am_ia g M a0 (v3 + 4) fun x4 =>
  am_rc g a1 11 <|
  am_ci (F 256 0 [.ref a1, .int x1, .int x2, .int x3, .int x4] [] M) fun x6 M5 => /- RunSayer_wouldSay -/
  am_ia g M5 a0 (v3 + 1) fun x7 =>
  am_ia g M5 a0 (v3 + 2) fun x8 =>
  am_ia g M5 a0 (v3 + 3) fun x9 =>
  am_ia g M5 a0 (v3 + 4) fun x10 =>
  am_rc g a2 12 <|
  am_ci (F 268 0 [.ref a2, .int x7, .int x8, .int x9, .int x10] [] M5) fun x12 M11 => /- Model_wouldSay -/
  if x6 = x12 then
    F 275 1990 [.ref a0, .ref a1, .ref a2, .int v3] [] M11
  else
    am_rt 2 0 M11) = some r) : F 275 1448 [.ref a0, .ref a1, .ref a2, .int v3] [] M = some r := am_inF hF t_Law_law h
set_option maxRecDepth 20000 in
set_option maxHeartbeats 2000000 in
theorem e_Law_law_1501 {g : am_G} {F : am_FT} (hF : F = am_F T0 g) {M : am_M} {a0 : Nat} {a1 : Nat} {a2 : Nat} {v3 : Int32} {r : am_R} (h : (
  am_ia g M a0 (v3 + 1) fun x1 =>
  am_ia g M a0 (v3 + 2) fun x2 =>
  am_ia g M a0 (v3 + 3) fun x3 =>
  am_ia g M a0 (v3 + 4) fun x4 =>
  am_rc g a1 11 <|
  am_ci (F 244 0 [.ref a1, .int x1, .int x2, .int x3, .int x4] [] M) fun x6 M5 => /- RunSayer_plan -/
  am_ia g M5 a0 (v3 + 1) fun x7 =>
  am_ia g M5 a0 (v3 + 2) fun x8 =>
  am_ia g M5 a0 (v3 + 3) fun x9 =>
  am_ia g M5 a0 (v3 + 4) fun x10 =>
  am_rc g a2 12 <|
  am_ci (F 191 0 [.ref a2, .int x7, .int x8, .int x9, .int x10] [] M5) fun x12 M11 => /- Model_plan -/
  if x6 = x12 then
    F 275 1990 [.ref a0, .ref a1, .ref a2, .int v3] [] M11
  else
    am_rt 2 0 M11) = some r) : F 275 1501 [.ref a0, .ref a1, .ref a2, .int v3] [] M = some r := am_inF hF t_Law_law h
theorem e_Law_law_1554 {g : am_G} {F : am_FT} (hF : F = am_F T0 g) {M : am_M} {a0 : Nat} {a1 : Nat} {a2 : Nat} {v3 : Int32} {r : am_R} (h : (
  am_ia g M a0 (v3 + 1) fun x1 =>
  am_rc g a1 11 <|
  am_ci (F 157 0 [.ref a1, .int x1] [] M) fun x3 M2 => /- RunSayer_planned -/
  am_ia g M2 a0 (v3 + 1) fun x4 =>
  am_rc g a2 12 <|
  am_ci (F 129 0 [.ref a2, .int x4] [] M2) fun x6 M5 => /- Model_planned -/
  if x3 = x6 then
    F 275 1990 [.ref a0, .ref a1, .ref a2, .int v3] [] M5
  else
    am_rt 2 0 M5) = some r) : F 275 1554 [.ref a0, .ref a1, .ref a2, .int v3] [] M = some r := am_inF hF t_Law_law h
theorem e_Law_law_1577 {g : am_G} {F : am_FT} (hF : F = am_F T0 g) {M : am_M} {a0 : Nat} {a1 : Nat} {a2 : Nat} {v3 : Int32} {r : am_R} (h : (
  am_ia g M a0 (v3 + 1) fun x1 =>
  am_ia g M a0 (v3 + 2) fun x2 =>
  am_rc g a1 11 <|
  am_ci (F 262 0 [.ref a1, .int x1, .int x2] [] M) fun x4 M3 => /- RunSayer_parting -/
  am_ia g M3 a0 (v3 + 1) fun x5 =>
  am_ia g M3 a0 (v3 + 2) fun x6 =>
  am_rc g a2 12 <|
  am_ci (F 272 0 [.ref a2, .int x5, .int x6] [] M3) fun x8 M7 => /- Model_parting -/
  if x4 = x8 then
    F 275 1990 [.ref a0, .ref a1, .ref a2, .int v3] [] M7
  else
    am_rt 2 0 M7) = some r) : F 275 1577 [.ref a0, .ref a1, .ref a2, .int v3] [] M = some r := am_inF hF t_Law_law h
theorem e_Law_law_1610 {g : am_G} {F : am_FT} (hF : F = am_F T0 g) {M : am_M} {a0 : Nat} {a1 : Nat} {a2 : Nat} {v3 : Int32} {r : am_R} (h : (
  am_rc g a1 11 <|
  am_ci (F 274 0 [.ref a1] [] M) fun x2 M1 => /- RunSayer_rule -/
  am_rc g a2 12 <|
  am_ci (F 235 0 [.ref a2] [] M1) fun x4 M3 => /- Model_rule -/
  if x2 = x4 then
    F 275 1990 [.ref a0, .ref a1, .ref a2, .int v3] [] M3
  else
    am_rt 2 0 M3) = some r) : F 275 1610 [.ref a0, .ref a1, .ref a2, .int v3] [] M = some r := am_inF hF t_Law_law h
set_option maxRecDepth 20000 in
set_option maxHeartbeats 2000000 in
theorem e_Law_law_1623 {g : am_G} {F : am_FT} (hF : F = am_F T0 g) {M : am_M} {a0 : Nat} {a1 : Nat} {a2 : Nat} {v3 : Int32} {r : am_R} (h : (
  am_ia g M a0 (v3 + 1) fun x1 =>
  am_ia g M a0 (v3 + 2) fun x2 =>
  am_ia g M a0 (v3 + 3) fun x3 =>
  am_ia g M a0 (v3 + 4) fun x4 =>
  am_rc g a1 11 <|
  am_ci (F 254 0 [.ref a1, .int x1, .int x2, .int x3, .int x4] [] M) fun x6 M5 => /- RunSayer_ask -/
  am_ia g M5 a0 (v3 + 1) fun x7 =>
  am_ia g M5 a0 (v3 + 2) fun x8 =>
  am_ia g M5 a0 (v3 + 3) fun x9 =>
  am_ia g M5 a0 (v3 + 4) fun x10 =>
  am_rc g a2 12 <|
  am_ci (F 271 0 [.ref a2, .int x7, .int x8, .int x9, .int x10] [] M5) fun x12 M11 => /- Model_ask -/
  if x6 = x12 then
    F 275 1990 [.ref a0, .ref a1, .ref a2, .int v3] [] M11
  else
    am_rt 2 0 M11) = some r) : F 275 1623 [.ref a0, .ref a1, .ref a2, .int v3] [] M = some r := am_inF hF t_Law_law h
theorem e_Law_law_1676 {g : am_G} {F : am_FT} (hF : F = am_F T0 g) {M : am_M} {a0 : Nat} {a1 : Nat} {a2 : Nat} {v3 : Int32} {r : am_R} (h : (
  am_ia g M a0 (v3 + 1) fun x1 =>
  am_ia g M a0 (v3 + 2) fun x2 =>
  am_rc g a1 11 <|
  am_ci (F 145 0 [.ref a1, .int x1, .int x2] [] M) fun x4 M3 => /- RunSayer_examTold -/
  am_ia g M3 a0 (v3 + 1) fun x5 =>
  am_ia g M3 a0 (v3 + 2) fun x6 =>
  am_rc g a2 12 <|
  am_ci (F 111 0 [.ref a2, .int x5, .int x6] [] M3) fun x8 M7 => /- Model_examTold -/
  if x4 = x8 then
    F 275 1990 [.ref a0, .ref a1, .ref a2, .int v3] [] M7
  else
    am_rt 2 0 M7) = some r) : F 275 1676 [.ref a0, .ref a1, .ref a2, .int v3] [] M = some r := am_inF hF t_Law_law h
theorem e_Law_law_1709 {g : am_G} {F : am_FT} (hF : F = am_F T0 g) {M : am_M} {a0 : Nat} {a1 : Nat} {a2 : Nat} {v3 : Int32} {r : am_R} (h : (
  am_ia g M a0 (v3 + 1) fun x1 =>
  am_rc g a1 11 <|
  am_ci (F 253 0 [.ref a1, .int x1] [] M) fun x3 M2 => /- RunSayer_appeal -/
  am_ia g M2 a0 (v3 + 1) fun x4 =>
  am_rc g a2 12 <|
  am_ci (F 270 0 [.ref a2, .int x4] [] M2) fun x6 M5 => /- Model_appeal -/
  if x3 = x6 then
    F 275 1990 [.ref a0, .ref a1, .ref a2, .int v3] [] M5
  else
    am_rt 2 0 M5) = some r) : F 275 1709 [.ref a0, .ref a1, .ref a2, .int v3] [] M = some r := am_inF hF t_Law_law h
theorem e_Law_law_1732 {g : am_G} {F : am_FT} (hF : F = am_F T0 g) {M : am_M} {a0 : Nat} {a1 : Nat} {a2 : Nat} {v3 : Int32} {r : am_R} (h : (
  am_ia g M a0 (v3 + 1) fun x1 =>
  am_rc g a1 11 <|
  am_ci (F 71 0 [.ref a1, .int x1] [] M) fun x3 M2 => /- RunSayer_count -/
  am_ia g M2 a0 (v3 + 1) fun x4 =>
  am_rc g a2 12 <|
  am_ci (F 48 0 [.ref a2, .int x4] [] M2) fun x6 M5 => /- Model_count -/
  if x3 = x6 then
    F 275 1990 [.ref a0, .ref a1, .ref a2, .int v3] [] M5
  else
    am_rt 2 0 M5) = some r) : F 275 1732 [.ref a0, .ref a1, .ref a2, .int v3] [] M = some r := am_inF hF t_Law_law h
set_option maxRecDepth 20000 in
set_option maxHeartbeats 2000000 in
theorem e_Law_law_1755 {g : am_G} {F : am_FT} (hF : F = am_F T0 g) {M : am_M} {a0 : Nat} {a1 : Nat} {a2 : Nat} {v3 : Int32} {r : am_R} (h : (
  am_ia g M a0 (v3 + 1) fun x1 =>
  am_ia g M a0 (v3 + 2) fun x2 =>
  am_ia g M a0 (v3 + 3) fun x3 =>
  am_rc g a1 11 <|
  am_ci (F 209 0 [.ref a1, .int x1, .int x2, .int x3] [] M) fun x5 M4 => /- RunSayer_sheet -/
  am_ia g M4 a0 (v3 + 1) fun x6 =>
  am_ia g M4 a0 (v3 + 2) fun x7 =>
  am_ia g M4 a0 (v3 + 3) fun x8 =>
  am_rc g a2 12 <|
  am_ci (F 139 0 [.ref a2, .int x6, .int x7, .int x8] [] M4) fun x10 M9 => /- Model_sheet -/
  if x5 = x10 then
    F 275 1990 [.ref a0, .ref a1, .ref a2, .int v3] [] M9
  else
    am_rt 2 0 M9) = some r) : F 275 1755 [.ref a0, .ref a1, .ref a2, .int v3] [] M = some r := am_inF hF t_Law_law h
set_option maxRecDepth 20000 in
set_option maxHeartbeats 2000000 in
theorem e_Law_law_1798 {g : am_G} {F : am_FT} (hF : F = am_F T0 g) {M : am_M} {a0 : Nat} {a1 : Nat} {a2 : Nat} {v3 : Int32} {r : am_R} (h : (
  am_ia g M a0 (v3 + 1) fun x1 =>
  am_ia g M a0 (v3 + 2) fun x2 =>
  am_ia g M a0 (v3 + 3) fun x3 =>
  am_rc g a1 11 <|
  am_ci (F 200 0 [.ref a1, .int x1, .int x2, .int x3] [] M) fun x5 M4 => /- RunSayer_cell -/
  am_ia g M4 a0 (v3 + 1) fun x6 =>
  am_ia g M4 a0 (v3 + 2) fun x7 =>
  am_ia g M4 a0 (v3 + 3) fun x8 =>
  am_rc g a2 12 <|
  am_ci (F 106 0 [.ref a2, .int x6, .int x7, .int x8] [] M4) fun x10 M9 => /- Model_cell -/
  if x5 = x10 then
    F 275 1990 [.ref a0, .ref a1, .ref a2, .int v3] [] M9
  else
    am_rt 2 0 M9) = some r) : F 275 1798 [.ref a0, .ref a1, .ref a2, .int v3] [] M = some r := am_inF hF t_Law_law h
theorem e_Law_law_1841 {g : am_G} {F : am_FT} (hF : F = am_F T0 g) {M : am_M} {a0 : Nat} {a1 : Nat} {a2 : Nat} {v3 : Int32} {r : am_R} (h : (
  am_ia g M a0 (v3 + 1) fun x1 =>
  am_ia g M a0 (v3 + 2) fun x2 =>
  am_rc g a1 11 <|
  am_ci (F 207 0 [.ref a1, .int x1, .int x2] [] M) fun x4 M3 => /- RunSayer_read -/
  am_ia g M3 a0 (v3 + 1) fun x5 =>
  am_ia g M3 a0 (v3 + 2) fun x6 =>
  am_rc g a2 12 <|
  am_ci (F 133 0 [.ref a2, .int x5, .int x6] [] M3) fun x8 M7 => /- Model_read -/
  if x4 = x8 then
    F 275 1990 [.ref a0, .ref a1, .ref a2, .int v3] [] M7
  else
    am_rt 2 0 M7) = some r) : F 275 1841 [.ref a0, .ref a1, .ref a2, .int v3] [] M = some r := am_inF hF t_Law_law h
set_option maxRecDepth 20000 in
set_option maxHeartbeats 2000000 in
theorem e_Law_law_1874 {g : am_G} {F : am_FT} (hF : F = am_F T0 g) {M : am_M} {a0 : Nat} {a1 : Nat} {a2 : Nat} {v3 : Int32} {r : am_R} (h : (
  am_ia g M a0 (v3 + 1) fun x1 =>
  am_ia g M a0 (v3 + 2) fun x2 =>
  am_ia g M a0 (v3 + 3) fun x3 =>
  am_ia g M a0 (v3 + 4) fun x4 =>
  am_ia g M a0 (v3 + 5) fun x5 =>
  am_rc g a1 11 <|
  am_ci (F 201 0 [.ref a1, .int x1, .int x2, .int x3, .int x4, .int x5] [] M) fun x7 M6 => /- RunSayer_copy -/
  am_ia g M6 a0 (v3 + 1) fun x8 =>
  am_ia g M6 a0 (v3 + 2) fun x9 =>
  am_ia g M6 a0 (v3 + 3) fun x10 =>
  am_ia g M6 a0 (v3 + 4) fun x11 =>
  am_ia g M6 a0 (v3 + 5) fun x12 =>
  am_rc g a2 12 <|
  am_ci (F 107 0 [.ref a2, .int x8, .int x9, .int x10, .int x11, .int x12] [] M6) fun x14 M13 => /- Model_copy -/
  if x7 = x14 then
    F 275 1990 [.ref a0, .ref a1, .ref a2, .int v3] [] M13
  else
    am_rt 2 0 M13) = some r) : F 275 1874 [.ref a0, .ref a1, .ref a2, .int v3] [] M = some r := am_inF hF t_Law_law h
set_option maxRecDepth 20000 in
set_option maxHeartbeats 2000000 in
theorem e_Law_law_1937 {g : am_G} {F : am_FT} (hF : F = am_F T0 g) {M : am_M} {a0 : Nat} {a1 : Nat} {a2 : Nat} {v3 : Int32} {r : am_R} (h : (
  am_ia g M a0 (v3 + 1) fun x1 =>
  am_ia g M a0 (v3 + 2) fun x2 =>
  am_ia g M a0 (v3 + 3) fun x3 =>
  am_ia g M a0 (v3 + 4) fun x4 =>
  am_rc g a1 11 <|
  am_ci (F 230 0 [.ref a1, .int x1, .int x2, .int x3, .int x4] [] M) fun x6 M5 => /- RunSayer_junctions -/
  am_ia g M5 a0 (v3 + 1) fun x7 =>
  am_ia g M5 a0 (v3 + 2) fun x8 =>
  am_ia g M5 a0 (v3 + 3) fun x9 =>
  am_ia g M5 a0 (v3 + 4) fun x10 =>
  am_rc g a2 12 <|
  am_ci (F 185 0 [.ref a2, .int x7, .int x8, .int x9, .int x10] [] M5) fun x12 M11 => /- Model_junctions -/
  if x6 = x12 then
    F 275 1990 [.ref a0, .ref a1, .ref a2, .int v3] [] M11
  else
    am_rt 2 0 M11) = some r) : F 275 1937 [.ref a0, .ref a1, .ref a2, .int v3] [] M = some r := am_inF hF t_Law_law h
theorem e_Law_law_1990 {g : am_G} {F : am_FT} (hF : F = am_F T0 g) {M : am_M} {a0 : Nat} {a1 : Nat} {a2 : Nat} {v3 : Int32} {r : am_R} (h : (
  F 275 18 [.ref a0, .ref a1, .ref a2, .int (v3 + 6)] [] M) = some r) : F 275 1990 [.ref a0, .ref a1, .ref a2, .int v3] [] M = some r := am_inF hF t_Law_law h
