/-! THE ROWS of the methods: what each answers, out of each cut (by program) -/
set_option maxRecDepth 20000 in
set_option maxHeartbeats 2000000 in
theorem e_City_addLeg {g : am_G} {F : am_FT} (hF : F = am_F T0 g) {M : am_M} {a0 : Nat} {v1 : Int32} {v2 : Int32} {v3 : Int32} {r : am_R} (h : (
  am_gR g a0 0 8 fun q1 =>
  am_is g M q1 v1 v2 fun M2 =>
  am_gR g a0 0 9 fun q3 =>
  am_gR g a0 0 0 fun q4 =>
  am_ia g M2 q4 v3 fun x5 =>
  am_gR g a0 0 0 fun q6 =>
  am_ia g M2 q6 v2 fun x7 =>
  am_is g M2 q3 v1 (x5 - x7) fun M8 =>
  am_gR g a0 0 10 fun q9 =>
  am_gR g a0 0 1 fun q10 =>
  am_ia g M8 q10 v3 fun x11 =>
  am_gR g a0 0 1 fun q12 =>
  am_ia g M8 q12 v2 fun x13 =>
  am_is g M8 q9 v1 (x11 - x13) fun M14 =>
  am_gR g a0 0 18 fun q15 =>
  am_gR g a0 0 19 fun q16 =>
  am_ia g M14 q16 v2 fun x17 =>
  am_is g M14 q15 ((v2 * 40) + x17) v1 fun M18 =>
  am_gR g a0 0 19 fun q19 =>
  am_ia g M18 q19 v2 fun x20 =>
  am_is g M18 q19 v2 (x20 + 1) fun M21 =>
  some (none, M21)) = some r) : F 0 0 [.ref a0, .int v1, .int v2, .int v3] [] M = some r := am_inF hF t_City_addLeg h
theorem e_City_addThing {g : am_G} {F : am_FT} (hF : F = am_F T0 g) {M : am_M} {a0 : Nat} {v1 : Int32} {v2 : Int32} {r : am_R} (h : (
  am_gR g a0 0 15 fun q1 =>
  am_gI g M a0 0 17 fun x2 =>
  am_is g M q1 x2 v1 fun M3 =>
  am_gR g a0 0 16 fun q4 =>
  am_gI g M3 a0 0 17 fun x5 =>
  am_is g M3 q4 x5 v2 fun M6 =>
  am_gI g M6 a0 0 17 fun x7 =>
  am_pI g M6 a0 0 17 (x7 + 1) fun M8 =>
  some (none, M8)) = some r) : F 1 0 [.ref a0, .int v1, .int v2] [] M = some r := am_inF hF t_City_addThing h
theorem e_City_cross {g : am_G} {F : am_FT} (hF : F = am_F T0 g) {M : am_M} {a0 : Nat} {v1 : Int32} {v2 : Int32} {r : am_R} (h : (
  am_gR g a0 0 9 fun q1 =>
  am_ia g M q1 v1 fun x2 =>
  am_gR g a0 0 10 fun q3 =>
  am_ia g M q3 v2 fun x4 =>
  am_gR g a0 0 10 fun q5 =>
  am_ia g M q5 v1 fun x6 =>
  am_gR g a0 0 9 fun q7 =>
  am_ia g M q7 v2 fun x8 =>
  am_rt 1 ((x2 * x4) - (x6 * x8)) M) = some r) : F 2 0 [.ref a0, .int v1, .int v2] [] M = some r := am_inF hF t_City_cross h
theorem e_City_dot {g : am_G} {F : am_FT} (hF : F = am_F T0 g) {M : am_M} {a0 : Nat} {v1 : Int32} {v2 : Int32} {r : am_R} (h : (
  am_gR g a0 0 9 fun q1 =>
  am_ia g M q1 v1 fun x2 =>
  am_gR g a0 0 9 fun q3 =>
  am_ia g M q3 v2 fun x4 =>
  am_gR g a0 0 10 fun q5 =>
  am_ia g M q5 v1 fun x6 =>
  am_gR g a0 0 10 fun q7 =>
  am_ia g M q7 v2 fun x8 =>
  am_rt 1 ((x2 * x4) + (x6 * x8)) M) = some r) : F 3 0 [.ref a0, .int v1, .int v2] [] M = some r := am_inF hF t_City_dot h
theorem e_City_endOf {g : am_G} {F : am_FT} (hF : F = am_F T0 g) {M : am_M} {a0 : Nat} {v1 : Int32} {r : am_R} (h : (
  am_gR g a0 0 8 fun q1 =>
  am_ia g M q1 (v1 ^^^ 1) fun x2 =>
  am_rt 1 x2 M) = some r) : F 4 0 [.ref a0, .int v1] [] M = some r := am_inF hF t_City_endOf h
theorem e_City_feetAhead {g : am_G} {F : am_FT} (hF : F = am_F T0 g) {M : am_M} {a0 : Nat} {v1 : Int32} {v2 : Int32} {v3 : Int32} {r : am_R} (h : (
  am_gR g a0 0 12 fun q1 =>
  am_ia g M q1 v3 fun x2 =>
  am_gR g a0 0 12 fun q3 =>
  am_ia g M q3 v2 fun x4 =>
  if (v1 &&& 1) = 0 then
    am_rt 1 (x2 - x4) M
  else
    am_rt 1 (-(x2 - x4)) M) = some r) : F 5 0 [.ref a0, .int v1, .int v2, .int v3] [] M = some r := am_inF hF t_City_feetAhead h
theorem e_City_feetFromStart {g : am_G} {F : am_FT} (hF : F = am_F T0 g) {M : am_M} {a0 : Nat} {v1 : Int32} {v2 : Int32} {r : am_R} (h : (
  if (v1 &&& 1) = 0 then
    am_gR g a0 0 12 fun q5 =>
    am_ia g M q5 v2 fun x6 =>
    am_rt 1 x6 M
  else
    am_gR g a0 0 5 fun q1 =>
    am_ia g M q1 (v1 >>> ((1 : Int32) &&& 31)) fun x2 =>
    am_gR g a0 0 12 fun q3 =>
    am_ia g M q3 v2 fun x4 =>
    am_rt 1 (x2 - x4) M) = some r) : F 6 0 [.ref a0, .int v1, .int v2] [] M = some r := am_inF hF t_City_feetFromStart h
theorem e_City_feetToEnd {g : am_G} {F : am_FT} (hF : F = am_F T0 g) {M : am_M} {a0 : Nat} {v1 : Int32} {v2 : Int32} {r : am_R} (h : (
  if (v1 &&& 1) = 0 then
    am_gR g a0 0 5 fun q3 =>
    am_ia g M q3 (v1 >>> ((1 : Int32) &&& 31)) fun x4 =>
    am_gR g a0 0 12 fun q5 =>
    am_ia g M q5 v2 fun x6 =>
    am_rt 1 (x4 - x6) M
  else
    am_gR g a0 0 12 fun q1 =>
    am_ia g M q1 v2 fun x2 =>
    am_rt 1 x2 M) = some r) : F 7 0 [.ref a0, .int v1, .int v2] [] M = some r := am_inF hF t_City_feetToEnd h
theorem e_City_isOfKind {g : am_G} {F : am_FT} (hF : F = am_F T0 g) {M : am_M} {v0 : Int32} {v1 : Int32} {r : am_R} (h : (
  F 8 4 [.int v1, .int v0, .int 0] [] M) = some r) : F 8 0 [.int v0, .int v1] [] M = some r := am_inF hF t_City_isOfKind h
set_option maxRecDepth 20000 in
set_option maxHeartbeats 2000000 in
theorem e_City_isOfKind_4 {g : am_G} {F : am_FT} (hF : F = am_F T0 g) {M : am_M} {v1 : Int32} {v2 : Int32} {v3 : Int32} {r : am_R} (h : (
  am_ln g 1000000 fun x1 =>
  if x1 ≤ v3 then
    if v2 = v1 then
      am_rt 2 1 M
    else
      am_rt 2 0 M
  else
    if v2 < 0 then
      if v2 = v1 then
        am_rt 2 1 M
      else
        am_rt 2 0 M
    else
      if v2 = v1 then
        if v2 = v1 then
          am_rt 2 1 M
        else
          am_rt 2 0 M
      else
        am_ia g M 1000000 v2 fun x2 =>
        F 8 4 [.int v1, .int x2, .int (v3 + 1)] [] M) = some r) : F 8 4 [.int v1, .int v2, .int v3] [] M = some r := am_inF hF t_City_isOfKind h
set_option maxRecDepth 20000 in
set_option maxHeartbeats 2000000 in
theorem e_City_isOpen {g : am_G} {F : am_FT} (hF : F = am_F T0 g) {M : am_M} {a0 : Nat} {v1 : Int32} {v2 : Int32} {r : am_R} (h : (
  am_gR g a0 0 4 fun q1 =>
  am_ia g M q1 v1 fun x2 =>
  if x2 = 3 then
    if v2 < 5 then
      am_rt 2 0 M
    else
      if 21 < v2 then
        am_rt 2 0 M
      else
        am_rt 2 1 M
  else
  if x2 = 5 then
    if v2 = 3 then
      am_rt 2 0 M
    else
      am_rt 2 1 M
  else
    am_rt 2 1 M) = some r) : F 9 0 [.ref a0, .int v1, .int v2] [] M = some r := am_inF hF t_City_isOpen h
theorem e_City_legCount {g : am_G} {F : am_FT} (hF : F = am_F T0 g) {M : am_M} {a0 : Nat} {r : am_R} (h : (
  am_gI g M a0 0 7 fun x1 =>
  am_rt 1 (2 * x1) M) = some r) : F 10 0 [.ref a0] [] M = some r := am_inF hF t_City_legCount h
theorem e_City_outLeg {g : am_G} {F : am_FT} (hF : F = am_F T0 g) {M : am_M} {a0 : Nat} {v1 : Int32} {v2 : Int32} {r : am_R} (h : (
  am_gR g a0 0 18 fun q1 =>
  am_ia g M q1 ((v1 * 40) + v2) fun x2 =>
  am_rt 1 x2 M) = some r) : F 11 0 [.ref a0, .int v1, .int v2] [] M = some r := am_inF hF t_City_outLeg h
set_option maxRecDepth 20000 in
set_option maxHeartbeats 2000000 in
theorem e_City_priceOf {g : am_G} {F : am_FT} (hF : F = am_F T0 g) {M : am_M} {a0 : Nat} {v1 : Int32} {v2 : Int32} {r : am_R} (h : (
  am_gR g a0 0 5 fun q1 =>
  am_ia g M q1 v1 fun x2 =>
  am_dv 10 <|
  if v2 < 7 then
    am_gR g a0 0 4 fun q3 =>
    am_ia g M q3 v1 fun x4 =>
    if x4 = 1 then
      am_rt 1 (x2 + 20) M
    else
    if x4 = 2 then
      am_rt 1 (x2 + (x2 / 10)) M
    else
    if x4 = 3 then
      if v2 < 8 then
        am_rt 1 (x2 + 20) M
      else
        if 16 < v2 then
          am_rt 1 (x2 + 20) M
        else
          am_rt 1 ((x2 + 20) + 10) M
    else
    if x4 = 4 then
      am_rt 1 (x2 + (x2 / 10)) M
    else
    if x4 = 5 then
      am_rt 1 ((x2 + (x2 / 10)) + 100) M
    else
      am_rt 1 x2 M
  else
    if 9 < v2 then
      am_gR g a0 0 4 fun q5 =>
      am_ia g M q5 v1 fun x6 =>
      if x6 = 1 then
        am_rt 1 (x2 + 20) M
      else
      if x6 = 2 then
        am_rt 1 (x2 + (x2 / 10)) M
      else
      if x6 = 3 then
        if v2 < 8 then
          am_rt 1 (x2 + 20) M
        else
          if 16 < v2 then
            am_rt 1 (x2 + 20) M
          else
            am_rt 1 ((x2 + 20) + 10) M
      else
      if x6 = 4 then
        am_rt 1 (x2 + (x2 / 10)) M
      else
      if x6 = 5 then
        am_rt 1 ((x2 + (x2 / 10)) + 100) M
      else
        am_rt 1 x2 M
    else
      am_gR g a0 0 4 fun q7 =>
      am_ia g M q7 v1 fun x8 =>
      if x8 = 1 then
        am_rt 1 (x2 + 20) M
      else
      if x8 = 2 then
        am_rt 1 (x2 + (x2 / 10)) M
      else
      if x8 = 3 then
        if v2 < 8 then
          am_rt 1 (x2 + 20) M
        else
          if 16 < v2 then
            am_rt 1 (x2 + 20) M
          else
            am_rt 1 ((x2 + 20) + 10) M
      else
      if x8 = 4 then
        am_rt 1 (2 * (x2 + (x2 / 10))) M
      else
      if x8 = 5 then
        am_rt 1 ((2 * (x2 + (x2 / 10))) + 100) M
      else
        am_rt 1 x2 M) = some r) : F 12 0 [.ref a0, .int v1, .int v2] [] M = some r := am_inF hF t_City_priceOf h
theorem e_City_startOf {g : am_G} {F : am_FT} (hF : F = am_F T0 g) {M : am_M} {a0 : Nat} {v1 : Int32} {r : am_R} (h : (
  am_gR g a0 0 8 fun q1 =>
  am_ia g M q1 v1 fun x2 =>
  am_rt 1 x2 M) = some r) : F 13 0 [.ref a0, .int v1] [] M = some r := am_inF hF t_City_startOf h
set_option maxRecDepth 20000 in
set_option maxHeartbeats 2000000 in
theorem e_Exam_compare {g : am_G} {F : am_FT} (hF : F = am_F T0 g) {M : am_M} {a0 : Nat} {a1 : Nat} {r : am_R} (h : (
  am_pI g M a0 1 4 0 fun M1 =>
  am_gR g a0 1 5 fun q2 =>
  am_gI g M1 q2 6 5 fun x3 =>
  if x3 ≤ 0 then
    some (none, M1)
  else
    am_gI g M1 a1 6 5 fun x4 =>
    if x4 ≤ 0 then
      some (none, M1)
    else
      am_gI g M1 a1 6 7 fun x5 =>
      if x5 ≤ 0 then
        some (none, M1)
      else
        am_gR g a0 1 5 fun q6 =>
        am_gI g M1 q6 6 7 fun x7 =>
        am_gI g M1 a1 6 7 fun x8 =>
        if x7 ≤ x8 then
          some (none, M1)
        else
          am_gR g a0 1 5 fun q9 =>
          am_gI g M1 q9 6 7 fun x10 =>
          am_gI g M1 a1 6 7 fun x11 =>
          am_gI g M1 a1 6 7 fun x12 =>
          am_dv x12 <|
          am_pI g M1 a0 1 4 ((100 * (x10 - x11)) / x12) fun M13 =>
          some (none, M13)) = some r) : F 14 0 [.ref a0, .ref a1] [] M = some r := am_inF hF t_Exam_compare h
set_option maxRecDepth 20000 in
set_option maxHeartbeats 2000000 in
theorem e_Exam_fieldName {g : am_G} {F : am_FT} (hF : F = am_F T0 g) {M : am_M} {v0 : Int32} {r : am_R} (h : (
  if v0 = 0 then
    some (some (.ref 1000003), M)
  else
  if v0 = 1 then
    some (some (.ref 1000004), M)
  else
  if v0 = 2 then
    some (some (.ref 1000005), M)
  else
  if v0 = 3 then
    some (some (.ref 1000006), M)
  else
  if v0 = 4 then
    some (some (.ref 1000007), M)
  else
    some (some (.ref 1000008), M)) = some r) : F 15 0 [.int v0] [] M = some r := am_inF hF t_Exam_fieldName h
theorem e_Finder_costThrough {g : am_G} {F : am_FT} (hF : F = am_F T0 g) {M : am_M} {a0 : Nat} {v1 : Int32} {r : am_R} (h : (
  am_gR g a0 2 11 fun q1 =>
  am_la g M q1 v1 fun l2 =>
  if (lg_cmp l2 9223372036854775807) = 0 then
    some (some (.long 9223372036854775807), M)
  else
    am_gR g a0 2 11 fun q3 =>
    am_la g M q3 v1 fun l4 =>
    am_gR g a0 2 9 fun q5 =>
    am_la g M q5 v1 fun l6 =>
    some (some (.long (l4 + l6)), M)) = some r) : F 16 0 [.ref a0, .int v1] [] M = some r := am_inF hF t_Finder_costThrough h
theorem e_Finder_key {g : am_G} {F : am_FT} (hF : F = am_F T0 g) {M : am_M} {a0 : Nat} {v1 : Int32} {v2 : Int32} {r : am_R} (h : (
  am_gI g M a0 2 13 fun x1 =>
  if x1 = 0 then
    some (some (.long ((v1.toInt64 <<< ((32 : Int32).toInt64 &&& 63)) + v2.toInt64)), M)
  else
    some (some (.long ((v2.toInt64 <<< ((32 : Int32).toInt64 &&& 63)) + v1.toInt64)), M)) = some r) : F 17 0 [.ref a0, .int v1, .int v2] [] M = some r := am_inF hF t_Finder_key h
set_option maxRecDepth 20000 in
set_option maxHeartbeats 2000000 in
theorem e_Finder_mark {g : am_G} {F : am_FT} (hF : F = am_F T0 g) {M : am_M} {a0 : Nat} {v1 : Int32} {v2 : Int32} {r : am_R} (h : (
  am_gR g a0 2 4 fun q1 =>
  am_za g M q1 ((v1 * 80) + v2) fun x2 =>
  if x2 = 0 then
    am_gI g M a0 2 6 fun x3 =>
    am_gR g a0 2 5 fun q4 =>
    am_ln g q4 fun x5 =>
    if x5 ≤ x3 then
      some (none, M)
    else
      am_gR g a0 2 4 fun q6 =>
      am_zs g M q6 ((v1 * 80) + v2) 1 fun M7 =>
      am_gR g a0 2 5 fun q8 =>
      am_gI g M7 a0 2 6 fun x9 =>
      am_is g M7 q8 x9 ((v1 * 80) + v2) fun M10 =>
      am_gI g M10 a0 2 6 fun x11 =>
      am_pI g M10 a0 2 6 (x11 + 1) fun M12 =>
      some (none, M12)
  else
    some (none, M)) = some r) : F 18 0 [.ref a0, .int v1, .int v2] [] M = some r := am_inF hF t_Finder_mark h
set_option maxRecDepth 20000 in
set_option maxHeartbeats 2000000 in
theorem e_Finder_mayTurn {g : am_G} {F : am_FT} (hF : F = am_F T0 g) {M : am_M} {a0 : Nat} {v1 : Int32} {v2 : Int32} {r : am_R} (h : (
  am_gR g a0 2 2 fun q1 =>
  am_za g M q1 v2 fun x2 =>
  if x2 = 0 then
    am_rt 2 0 M
  else
    if (v1 >>> ((1 : Int32) &&& 31)) = (v2 >>> ((1 : Int32) &&& 31)) then
      am_rt 2 0 M
    else
      am_gR g a0 2 4 fun q3 =>
      am_za g M q3 ((v1 * 80) + v2) fun x4 =>
      am_gI g M a0 2 7 fun x5 =>
      if x4 = x5 then
        am_rt 2 1 M
      else
        am_rt 2 0 M) = some r) : F 19 0 [.ref a0, .int v1, .int v2] [] M = some r := am_inF hF t_Finder_mayTurn h
theorem e_Finder_nearest {g : am_G} {F : am_FT} (hF : F = am_F T0 g) {M : am_M} {a0 : Nat} {v1 : Int32} {r : am_R} (h : (
  F 20 9 [.ref a0, .int v1, .int (-1), .long 9223372036854775807, .int 0] [] M) = some r) : F 20 0 [.ref a0, .int v1] [] M = some r := am_inF hF t_Finder_nearest h
theorem e_Finder_nearest_9 {g : am_G} {F : am_FT} (hF : F = am_F T0 g) {M : am_M} {a0 : Nat} {v1 : Int32} {v2 : Int32} {w3 : Int64} {v5 : Int32} {r : am_R} (h : (
  if v1 ≤ v5 then
    am_rt 1 v2 M
  else
    am_gR g a0 2 12 fun q1 =>
    am_za g M q1 v5 fun x2 =>
    if x2 = 0 then
      am_gR g a0 2 11 fun q3 =>
      am_la g M q3 v5 fun l4 =>
      if 0 ≤ (lg_cmp l4 w3) then
        F 20 9 [.ref a0, .int v1, .int v2, .long w3, .int (v5 + 1)] [] M
      else
        am_gR g a0 2 11 fun q5 =>
        am_la g M q5 v5 fun l6 =>
        F 20 9 [.ref a0, .int v1, .int v5, .long l6, .int (v5 + 1)] [] M
    else
      F 20 9 [.ref a0, .int v1, .int v2, .long w3, .int (v5 + 1)] [] M) = some r) : F 20 9 [.ref a0, .int v1, .int v2, .long w3, .int v5] [] M = some r := am_inF hF t_Finder_nearest h
theorem e_Finder_unmark {g : am_G} {F : am_FT} (hF : F = am_F T0 g) {M : am_M} {a0 : Nat} {r : am_R} (h : (
  F 21 2 [.ref a0, .int 0] [] M) = some r) : F 21 0 [.ref a0] [] M = some r := am_inF hF t_Finder_unmark h
theorem e_Finder_unmark_2 {g : am_G} {F : am_FT} (hF : F = am_F T0 g) {M : am_M} {a0 : Nat} {v1 : Int32} {r : am_R} (h : (
  am_gI g M a0 2 6 fun x1 =>
  if x1 ≤ v1 then
    am_pI g M a0 2 6 0 fun M2 =>
    some (none, M2)
  else
    am_gR g a0 2 4 fun q3 =>
    am_gR g a0 2 5 fun q4 =>
    am_ia g M q4 v1 fun x5 =>
    am_zs g M q3 x5 0 fun M6 =>
    F 21 2 [.ref a0, .int (v1 + 1)] [] M6) = some r) : F 21 2 [.ref a0, .int v1] [] M = some r := am_inF hF t_Finder_unmark h
theorem e_JInteger_bitCount {g : am_G} {F : am_FT} (hF : F = am_F T0 g) {M : am_M} {v0 : Int32} {r : am_R} (h : (
  am_rt 1 ((((((((v0 - ((v0.toUInt32 >>> ((1 : Int32).toUInt32 &&& Int32.toUInt32 31)).toInt32 &&& 1431655765)) &&& 858993459) + (((v0 - ((v0.toUInt32 >>> ((1 : Int32).toUInt32 &&& Int32.toUInt32 31)).toInt32 &&& 1431655765)).toUInt32 >>> ((2 : Int32).toUInt32 &&& Int32.toUInt32 31)).toInt32 &&& 858993459)) + ((((v0 - ((v0.toUInt32 >>> ((1 : Int32).toUInt32 &&& Int32.toUInt32 31)).toInt32 &&& 1431655765)) &&& 858993459) + (((v0 - ((v0.toUInt32 >>> ((1 : Int32).toUInt32 &&& Int32.toUInt32 31)).toInt32 &&& 1431655765)).toUInt32 >>> ((2 : Int32).toUInt32 &&& Int32.toUInt32 31)).toInt32 &&& 858993459)).toUInt32 >>> ((4 : Int32).toUInt32 &&& Int32.toUInt32 31)).toInt32) &&& 252645135) + ((((((v0 - ((v0.toUInt32 >>> ((1 : Int32).toUInt32 &&& Int32.toUInt32 31)).toInt32 &&& 1431655765)) &&& 858993459) + (((v0 - ((v0.toUInt32 >>> ((1 : Int32).toUInt32 &&& Int32.toUInt32 31)).toInt32 &&& 1431655765)).toUInt32 >>> ((2 : Int32).toUInt32 &&& Int32.toUInt32 31)).toInt32 &&& 858993459)) + ((((v0 - ((v0.toUInt32 >>> ((1 : Int32).toUInt32 &&& Int32.toUInt32 31)).toInt32 &&& 1431655765)) &&& 858993459) + (((v0 - ((v0.toUInt32 >>> ((1 : Int32).toUInt32 &&& Int32.toUInt32 31)).toInt32 &&& 1431655765)).toUInt32 >>> ((2 : Int32).toUInt32 &&& Int32.toUInt32 31)).toInt32 &&& 858993459)).toUInt32 >>> ((4 : Int32).toUInt32 &&& Int32.toUInt32 31)).toInt32) &&& 252645135).toUInt32 >>> ((8 : Int32).toUInt32 &&& Int32.toUInt32 31)).toInt32) + (((((((v0 - ((v0.toUInt32 >>> ((1 : Int32).toUInt32 &&& Int32.toUInt32 31)).toInt32 &&& 1431655765)) &&& 858993459) + (((v0 - ((v0.toUInt32 >>> ((1 : Int32).toUInt32 &&& Int32.toUInt32 31)).toInt32 &&& 1431655765)).toUInt32 >>> ((2 : Int32).toUInt32 &&& Int32.toUInt32 31)).toInt32 &&& 858993459)) + ((((v0 - ((v0.toUInt32 >>> ((1 : Int32).toUInt32 &&& Int32.toUInt32 31)).toInt32 &&& 1431655765)) &&& 858993459) + (((v0 - ((v0.toUInt32 >>> ((1 : Int32).toUInt32 &&& Int32.toUInt32 31)).toInt32 &&& 1431655765)).toUInt32 >>> ((2 : Int32).toUInt32 &&& Int32.toUInt32 31)).toInt32 &&& 858993459)).toUInt32 >>> ((4 : Int32).toUInt32 &&& Int32.toUInt32 31)).toInt32) &&& 252645135) + ((((((v0 - ((v0.toUInt32 >>> ((1 : Int32).toUInt32 &&& Int32.toUInt32 31)).toInt32 &&& 1431655765)) &&& 858993459) + (((v0 - ((v0.toUInt32 >>> ((1 : Int32).toUInt32 &&& Int32.toUInt32 31)).toInt32 &&& 1431655765)).toUInt32 >>> ((2 : Int32).toUInt32 &&& Int32.toUInt32 31)).toInt32 &&& 858993459)) + ((((v0 - ((v0.toUInt32 >>> ((1 : Int32).toUInt32 &&& Int32.toUInt32 31)).toInt32 &&& 1431655765)) &&& 858993459) + (((v0 - ((v0.toUInt32 >>> ((1 : Int32).toUInt32 &&& Int32.toUInt32 31)).toInt32 &&& 1431655765)).toUInt32 >>> ((2 : Int32).toUInt32 &&& Int32.toUInt32 31)).toInt32 &&& 858993459)).toUInt32 >>> ((4 : Int32).toUInt32 &&& Int32.toUInt32 31)).toInt32) &&& 252645135).toUInt32 >>> ((8 : Int32).toUInt32 &&& Int32.toUInt32 31)).toInt32).toUInt32 >>> ((16 : Int32).toUInt32 &&& Int32.toUInt32 31)).toInt32) &&& 63) M) = some r) : F 22 0 [.int v0] [] M = some r := am_inF hF t_JInteger_bitCount h
theorem e_JMath_abs {g : am_G} {F : am_FT} (hF : F = am_F T0 g) {M : am_M} {v0 : Int32} {r : am_R} (h : (
  if 0 ≤ v0 then
    am_rt 1 v0 M
  else
    am_rt 1 (-v0) M) = some r) : F 23 0 [.int v0] [] M = some r := am_inF hF t_JMath_abs h
theorem e_JMath_max {g : am_G} {F : am_FT} (hF : F = am_F T0 g) {M : am_M} {v0 : Int32} {v1 : Int32} {r : am_R} (h : (
  if v0 < v1 then
    am_rt 1 v1 M
  else
    am_rt 1 v0 M) = some r) : F 24 0 [.int v0, .int v1] [] M = some r := am_inF hF t_JMath_max h
theorem e_JMath_min_III {g : am_G} {F : am_FT} (hF : F = am_F T0 g) {M : am_M} {v0 : Int32} {v1 : Int32} {r : am_R} (h : (
  if v1 < v0 then
    am_rt 1 v1 M
  else
    am_rt 1 v0 M) = some r) : F 25 0 [.int v0, .int v1] [] M = some r := am_inF hF t_JMath_min_III h
theorem e_JMath_min_JJJ {g : am_G} {F : am_FT} (hF : F = am_F T0 g) {M : am_M} {w0 : Int64} {w2 : Int64} {r : am_R} (h : (
  if 0 < (lg_cmp w0 w2) then
    some (some (.long w2), M)
  else
    some (some (.long w0), M)) = some r) : F 26 0 [.long w0, .long w2] [] M = some r := am_inF hF t_JMath_min_JJJ h
theorem e_JPrec_checkIndex {g : am_G} {F : am_FT} (hF : F = am_F T0 g) {M : am_M} {v0 : Int32} {v1 : Int32} {a2 : Nat} {r : am_R} (h : (
  if v0 < 0 then
    none
  else
    if v0 < v1 then
      am_rt 1 v0 M
    else
      none) = some r) : F 27 0 [.int v0, .int v1, .ref a2] [] M = some r := am_inF hF t_JPrec_checkIndex h
theorem e_JString_coder {g : am_G} {F : am_FT} (hF : F = am_F T0 g) {M : am_M} {a0 : Nat} {r : am_R} (h : (
  if (1 : Int32) = 0 then
    am_rt 5 1 M
  else
    am_gO g a0 1 fun x1 =>
    am_rt 5 x1 M) = some r) : F 28 0 [.ref a0] [] M = some r := am_inF hF t_JString_coder h
theorem e_JString_isLatin1 {g : am_G} {F : am_FT} (hF : F = am_F T0 g) {M : am_M} {a0 : Nat} {r : am_R} (h : (
  if (1 : Int32) = 0 then
    am_rt 2 0 M
  else
    am_gO g a0 1 fun x1 =>
    if x1 = 0 then
      am_rt 2 1 M
    else
      am_rt 2 0 M) = some r) : F 29 0 [.ref a0] [] M = some r := am_inF hF t_JString_isLatin1 h
set_option maxRecDepth 20000 in
set_option maxHeartbeats 2000000 in
theorem e_Ledger_addBan {g : am_G} {F : am_FT} (hF : F = am_F T0 g) {M : am_M} {a0 : Nat} {v1 : Int32} {v2 : Int32} {v3 : Int32} {v4 : Int32} {v5 : Int32} {r : am_R} (h : (
  am_gI g M a0 3 16 fun x1 =>
  if x1 < 40 then
    am_gR g a0 3 10 fun q2 =>
    am_gI g M a0 3 16 fun x3 =>
    am_is g M q2 x3 v1 fun M4 =>
    am_gR g a0 3 11 fun q5 =>
    am_gI g M4 a0 3 16 fun x6 =>
    am_is g M4 q5 x6 v2 fun M7 =>
    am_gR g a0 3 12 fun q8 =>
    am_gI g M7 a0 3 16 fun x9 =>
    am_is g M7 q8 x9 v3 fun M10 =>
    am_gR g a0 3 13 fun q11 =>
    am_gI g M10 a0 3 16 fun x12 =>
    am_is g M10 q11 x12 v4 fun M13 =>
    am_gR g a0 3 14 fun q14 =>
    am_gI g M13 a0 3 16 fun x15 =>
    am_is g M13 q14 x15 v5 fun M16 =>
    am_gR g a0 3 15 fun q17 =>
    am_gI g M16 a0 3 16 fun x18 =>
    am_gI g M16 a0 3 0 fun x19 =>
    am_is g M16 q17 x18 x19 fun M20 =>
    am_gI g M20 a0 3 16 fun x21 =>
    am_pI g M20 a0 3 16 (x21 + 1) fun M22 =>
    am_gI g M22 a0 3 16 fun x23 =>
    am_rt 1 (x23 - 1) M22
  else
    am_rt 1 (-4) M) = some r) : F 30 0 [.ref a0, .int v1, .int v2, .int v3, .int v4, .int v5] [] M = some r := am_inF hF t_Ledger_addBan h
set_option maxRecDepth 20000 in
set_option maxHeartbeats 2000000 in
theorem e_Ledger_addName {g : am_G} {F : am_FT} (hF : F = am_F T0 g) {M : am_M} {a0 : Nat} {v1 : Int32} {w2 : Int64} {r : am_R} (h : (
  am_gI g M a0 3 4 fun x1 =>
  if x1 < 60 then
    am_gR g a0 3 1 fun q2 =>
    am_gI g M a0 3 4 fun x3 =>
    am_is g M q2 x3 v1 fun M4 =>
    am_gR g a0 3 3 fun q5 =>
    am_gI g M4 a0 3 4 fun x6 =>
    am_ls g M4 q5 x6 w2 fun M7 =>
    am_gR g a0 3 2 fun q8 =>
    am_gI g M7 a0 3 4 fun x9 =>
    am_gI g M7 a0 3 0 fun x10 =>
    am_is g M7 q8 x9 x10 fun M11 =>
    am_gI g M11 a0 3 4 fun x12 =>
    am_pI g M11 a0 3 4 (x12 + 1) fun M13 =>
    am_gI g M13 a0 3 4 fun x14 =>
    am_rt 1 (x14 - 1) M13
  else
    am_rt 1 (-4) M) = some r) : F 31 0 [.ref a0, .int v1, .long w2] [] M = some r := am_inF hF t_Ledger_addName h
set_option maxRecDepth 20000 in
set_option maxHeartbeats 2000000 in
theorem e_Ledger_addShut {g : am_G} {F : am_FT} (hF : F = am_F T0 g) {M : am_M} {a0 : Nat} {v1 : Int32} {v2 : Int32} {v3 : Int32} {r : am_R} (h : (
  am_gI g M a0 3 9 fun x1 =>
  if x1 < 40 then
    am_gR g a0 3 5 fun q2 =>
    am_gI g M a0 3 9 fun x3 =>
    am_is g M q2 x3 v1 fun M4 =>
    am_gR g a0 3 6 fun q5 =>
    am_gI g M4 a0 3 9 fun x6 =>
    am_is g M4 q5 x6 v2 fun M7 =>
    am_gR g a0 3 7 fun q8 =>
    am_gI g M7 a0 3 9 fun x9 =>
    am_is g M7 q8 x9 v3 fun M10 =>
    am_gR g a0 3 8 fun q11 =>
    am_gI g M10 a0 3 9 fun x12 =>
    am_gI g M10 a0 3 0 fun x13 =>
    am_is g M10 q11 x12 x13 fun M14 =>
    am_gI g M14 a0 3 9 fun x15 =>
    am_pI g M14 a0 3 9 (x15 + 1) fun M16 =>
    am_gI g M16 a0 3 9 fun x17 =>
    am_rt 1 (x17 - 1) M16
  else
    am_rt 1 (-4) M) = some r) : F 32 0 [.ref a0, .int v1, .int v2, .int v3] [] M = some r := am_inF hF t_Ledger_addShut h
theorem e_Ledger_answersTo {g : am_G} {F : am_FT} (hF : F = am_F T0 g) {M : am_M} {a0 : Nat} {v1 : Int32} {w2 : Int64} {v4 : Int32} {r : am_R} (h : (
  F 33 3 [.ref a0, .int v1, .long w2, .int v4, .int 0] [] M) = some r) : F 33 0 [.ref a0, .int v1, .long w2, .int v4] [] M = some r := am_inF hF t_Ledger_answersTo h
set_option maxRecDepth 20000 in
set_option maxHeartbeats 2000000 in
theorem e_Ledger_answersTo_3 {g : am_G} {F : am_FT} (hF : F = am_F T0 g) {M : am_M} {a0 : Nat} {v1 : Int32} {w2 : Int64} {v4 : Int32} {v5 : Int32} {r : am_R} (h : (
  am_gI g M a0 3 4 fun x1 =>
  if x1 ≤ v5 then
    am_rt 2 0 M
  else
    am_gR g a0 3 1 fun q2 =>
    am_ia g M q2 v5 fun x3 =>
    if x3 = v1 then
      am_gR g a0 3 3 fun q4 =>
      am_la g M q4 v5 fun l5 =>
      if (lg_cmp l5 w2) = 0 then
        am_gR g a0 3 2 fun q6 =>
        am_ia g M q6 v5 fun x7 =>
        if v4 < x7 then
          F 33 3 [.ref a0, .int v1, .long w2, .int v4, .int (v5 + 1)] [] M
        else
          am_rt 2 1 M
      else
        F 33 3 [.ref a0, .int v1, .long w2, .int v4, .int (v5 + 1)] [] M
    else
      F 33 3 [.ref a0, .int v1, .long w2, .int v4, .int (v5 + 1)] [] M) = some r) : F 33 3 [.ref a0, .int v1, .long w2, .int v4, .int v5] [] M = some r := am_inF hF t_Ledger_answersTo h
set_option maxRecDepth 20000 in
set_option maxHeartbeats 2000000 in
theorem e_Ledger_isBanOn {g : am_G} {F : am_FT} (hF : F = am_F T0 g) {M : am_M} {a0 : Nat} {v1 : Int32} {v2 : Int32} {v3 : Int32} {r : am_R} (h : (
  am_gR g a0 3 15 fun q1 =>
  am_ia g M q1 v1 fun x2 =>
  if v2 < x2 then
    am_rt 2 0 M
  else
    am_gR g a0 3 14 fun q3 =>
    am_ia g M q3 v1 fun x4 =>
    am_dv 7 <|
    if ((x4 >>> ((v2 - v2 / 7 * 7) &&& 31)) &&& 1) = 1 then
      am_gR g a0 3 12 fun q5 =>
      am_ia g M q5 v1 fun x6 =>
      if v3 < x6 then
        am_rt 2 0 M
      else
        am_gR g a0 3 13 fun q7 =>
        am_ia g M q7 v1 fun x8 =>
        if x8 ≤ v3 then
          am_rt 2 0 M
        else
          am_rt 2 1 M
    else
      am_rt 2 0 M) = some r) : F 34 0 [.ref a0, .int v1, .int v2, .int v3] [] M = some r := am_inF hF t_Ledger_isBanOn h
theorem e_Ledger_isShut {g : am_G} {F : am_FT} (hF : F = am_F T0 g) {M : am_M} {a0 : Nat} {v1 : Int32} {v2 : Int32} {v3 : Int32} {r : am_R} (h : (
  F 35 3 [.ref a0, .int v1, .int v2, .int v3, .int 0] [] M) = some r) : F 35 0 [.ref a0, .int v1, .int v2, .int v3] [] M = some r := am_inF hF t_Ledger_isShut h
set_option maxRecDepth 20000 in
set_option maxHeartbeats 2000000 in
theorem e_Ledger_isShut_3 {g : am_G} {F : am_FT} (hF : F = am_F T0 g) {M : am_M} {a0 : Nat} {v1 : Int32} {v2 : Int32} {v3 : Int32} {v4 : Int32} {r : am_R} (h : (
  am_gI g M a0 3 9 fun x1 =>
  if x1 ≤ v4 then
    am_rt 2 0 M
  else
    am_gR g a0 3 5 fun q2 =>
    am_ia g M q2 v4 fun x3 =>
    if x3 = v1 then
      am_gR g a0 3 8 fun q4 =>
      am_ia g M q4 v4 fun x5 =>
      if v3 < x5 then
        F 35 3 [.ref a0, .int v1, .int v2, .int v3, .int (v4 + 1)] [] M
      else
        am_gR g a0 3 6 fun q6 =>
        am_ia g M q6 v4 fun x7 =>
        if v2 < x7 then
          F 35 3 [.ref a0, .int v1, .int v2, .int v3, .int (v4 + 1)] [] M
        else
          am_gR g a0 3 7 fun q8 =>
          am_ia g M q8 v4 fun x9 =>
          if x9 ≤ v2 then
            F 35 3 [.ref a0, .int v1, .int v2, .int v3, .int (v4 + 1)] [] M
          else
            am_rt 2 1 M
    else
      F 35 3 [.ref a0, .int v1, .int v2, .int v3, .int (v4 + 1)] [] M) = some r) : F 35 3 [.ref a0, .int v1, .int v2, .int v3, .int v4] [] M = some r := am_inF hF t_Ledger_isShut h
theorem e_Links_chooseRow {g : am_G} {F : am_FT} (hF : F = am_F T0 g) {M : am_M} {a0 : Nat} {v1 : Int32} {v2 : Int32} {r : am_R} (h : (
  F 36 7 [.ref a0, .int v1, .int (v2 - 1)] [] M) = some r) : F 36 0 [.ref a0, .int v1, .int v2] [] M = some r := am_inF hF t_Links_chooseRow h
set_option maxRecDepth 20000 in
set_option maxHeartbeats 2000000 in
theorem e_Links_chooseRow_7 {g : am_G} {F : am_FT} (hF : F = am_F T0 g) {M : am_M} {a0 : Nat} {v3 : Int32} {v4 : Int32} {r : am_R} (h : (
  if v4 < 0 then
    some (none, M)
  else
    am_gI g M a0 4 7 fun x1 =>
    if x1 ≤ 0 then
      some (none, M)
    else
      am_gR g a0 4 9 fun q2 =>
      am_gI g M a0 4 7 fun x3 =>
      am_dv x3 <|
      am_is g M q2 v4 (v3 - v3 / x3 * x3) fun M4 =>
      am_gI g M4 a0 4 7 fun x5 =>
      am_dv x5 <|
      F 36 7 [.ref a0, .int (v3 / x5), .int (v4 + (-1))] [] M4) = some r) : F 36 7 [.ref a0, .int v3, .int v4] [] M = some r := am_inF hF t_Links_chooseRow h
theorem e_Links_gather {g : am_G} {F : am_FT} (hF : F = am_F T0 g) {M : am_M} {a0 : Nat} {v1 : Int32} {r : am_R} (h : (
  am_pI g M a0 4 7 0 fun M1 =>
  F 37 7 [.ref a0, .int v1, .int 0] [] M1) = some r) : F 37 0 [.ref a0, .int v1] [] M = some r := am_inF hF t_Links_gather h
theorem e_Links_gather_7 {g : am_G} {F : am_FT} (hF : F = am_F T0 g) {M : am_M} {a0 : Nat} {v1 : Int32} {v2 : Int32} {r : am_R} (h : (
  am_gI g M a0 4 2 fun x1 =>
  if x1 ≤ v2 then
    F 37 30 [.ref a0, .int v1, .int 0] [] M
  else
    am_gR g a0 4 8 fun q2 =>
    am_is g M q2 v2 0 fun M3 =>
    F 37 7 [.ref a0, .int v1, .int (v2 + 1)] [] M3) = some r) : F 37 7 [.ref a0, .int v1, .int v2] [] M = some r := am_inF hF t_Links_gather h
theorem e_Links_gather_30 {g : am_G} {F : am_FT} (hF : F = am_F T0 g) {M : am_M} {a0 : Nat} {v1 : Int32} {v2 : Int32} {r : am_R} (h : (
  if 10 ≤ v2 then
    some (none, M)
  else
    am_gI g M a0 4 7 fun x1 =>
    if 4 ≤ x1 then
      some (none, M)
    else
      if ((v1 >>> (v2 &&& 31)) &&& 1) = 0 then
        F 37 30 [.ref a0, .int v1, .int (v2 + 1)] [] M
      else
        F 37 57 [.ref a0, .int v1, .int v2, .int 0] [] M) = some r) : F 37 30 [.ref a0, .int v1, .int v2] [] M = some r := am_inF hF t_Links_gather h
set_option maxRecDepth 20000 in
set_option maxHeartbeats 2000000 in
theorem e_Links_gather_57 {g : am_G} {F : am_FT} (hF : F = am_F T0 g) {M : am_M} {a0 : Nat} {v1 : Int32} {v2 : Int32} {v3 : Int32} {r : am_R} (h : (
  am_gR g a0 4 5 fun q1 =>
  am_ia g M q1 v2 fun x2 =>
  if x2 ≤ v3 then
    am_gR g a0 4 6 fun q3 =>
    am_gI g M a0 4 7 fun x4 =>
    am_is g M q3 x4 v2 fun M5 =>
    am_gI g M5 a0 4 7 fun x6 =>
    am_pI g M5 a0 4 7 (x6 + 1) fun M7 =>
    F 37 30 [.ref a0, .int v1, .int (v2 + 1)] [] M7
  else
    am_gR g a0 4 8 fun q8 =>
    am_gR g a0 4 4 fun q9 =>
    am_qa g q9 v2 fun q10 =>
    am_ia g M q10 v3 fun x11 =>
    am_ia g M q8 x11 fun x12 =>
    am_gI g M a0 4 7 fun x13 =>
    am_is g M q8 x11 (x12 ||| ((1 : Int32) <<< (x13 &&& 31))) fun M14 =>
    F 37 57 [.ref a0, .int v1, .int v2, .int (v3 + 1)] [] M14) = some r) : F 37 57 [.ref a0, .int v1, .int v2, .int v3] [] M = some r := am_inF hF t_Links_gather h
theorem e_Links_isInRun {g : am_G} {F : am_FT} (hF : F = am_F T0 g) {M : am_M} {a0 : Nat} {v1 : Int32} {v2 : Int32} {r : am_R} (h : (
  F 38 2 [.ref a0, .int v1, .int v2, .int 0] [] M) = some r) : F 38 0 [.ref a0, .int v1, .int v2] [] M = some r := am_inF hF t_Links_isInRun h
theorem e_Links_isInRun_2 {g : am_G} {F : am_FT} (hF : F = am_F T0 g) {M : am_M} {a0 : Nat} {v1 : Int32} {v2 : Int32} {v3 : Int32} {r : am_R} (h : (
  am_gR g a0 4 5 fun q1 =>
  am_ia g M q1 v1 fun x2 =>
  if x2 ≤ v3 then
    am_rt 2 0 M
  else
    am_gR g a0 4 4 fun q3 =>
    am_qa g q3 v1 fun q4 =>
    am_ia g M q4 v3 fun x5 =>
    if x5 = v2 then
      am_rt 2 1 M
    else
      F 38 2 [.ref a0, .int v1, .int v2, .int (v3 + 1)] [] M) = some r) : F 38 2 [.ref a0, .int v1, .int v2, .int v3] [] M = some r := am_inF hF t_Links_isInRun h
theorem e_Links_numberOf {g : am_G} {F : am_FT} (hF : F = am_F T0 g) {M : am_M} {a0 : Nat} {v1 : Int32} {v2 : Int32} {r : am_R} (h : (
  am_gR g a0 4 3 fun q1 =>
  am_ia g M q1 ((v1 * 80) + v2) fun x2 =>
  am_rt 1 (x2 - 1) M) = some r) : F 39 0 [.ref a0, .int v1, .int v2] [] M = some r := am_inF hF t_Links_numberOf h
theorem e_Route_add {g : am_G} {F : am_FT} (hF : F = am_F T0 g) {M : am_M} {a0 : Nat} {v1 : Int32} {r : am_R} (h : (
  am_gI g M a0 6 5 fun x1 =>
  if 81 ≤ x1 then
    some (none, M)
  else
    am_gR g a0 6 4 fun q2 =>
    am_gI g M a0 6 5 fun x3 =>
    am_is g M q2 x3 v1 fun M4 =>
    am_gI g M4 a0 6 5 fun x5 =>
    am_pI g M4 a0 6 5 (x5 + 1) fun M6 =>
    some (none, M6)) = some r) : F 66 0 [.ref a0, .int v1] [] M = some r := am_inF hF t_Route_add h
theorem e_Route_begin {g : am_G} {F : am_FT} (hF : F = am_F T0 g) {M : am_M} {a0 : Nat} {v1 : Int32} {v2 : Int32} {r : am_R} (h : (
  am_pI g M a0 6 0 v1 fun M1 =>
  am_pI g M1 a0 6 1 v2 fun M2 =>
  am_pI g M2 a0 6 5 0 fun M3 =>
  some (none, M3)) = some r) : F 67 0 [.ref a0, .int v1, .int v2] [] M = some r := am_inF hF t_Route_begin h
theorem e_Route_isLike {g : am_G} {F : am_FT} (hF : F = am_F T0 g) {M : am_M} {a0 : Nat} {a1 : Nat} {r : am_R} (h : (
  am_gI g M a0 6 5 fun x1 =>
  am_gI g M a1 6 5 fun x2 =>
  if x1 = x2 then
    F 68 15 [.ref a0, .ref a1, .int 0] [] M
  else
    am_rt 2 0 M) = some r) : F 68 0 [.ref a0, .ref a1] [] M = some r := am_inF hF t_Route_isLike h
theorem e_Route_isLike_15 {g : am_G} {F : am_FT} (hF : F = am_F T0 g) {M : am_M} {a0 : Nat} {a1 : Nat} {v2 : Int32} {r : am_R} (h : (
  am_gI g M a0 6 5 fun x1 =>
  if x1 ≤ v2 then
    am_rt 2 1 M
  else
    am_gR g a0 6 4 fun q2 =>
    am_ia g M q2 v2 fun x3 =>
    am_gR g a1 6 4 fun q4 =>
    am_ia g M q4 v2 fun x5 =>
    if x3 = x5 then
      F 68 15 [.ref a0, .ref a1, .int (v2 + 1)] [] M
    else
      am_rt 2 0 M) = some r) : F 68 15 [.ref a0, .ref a1, .int v2] [] M = some r := am_inF hF t_Route_isLike h
theorem e_Route_setTime {g : am_G} {F : am_FT} (hF : F = am_F T0 g) {M : am_M} {a0 : Nat} {v1 : Int32} {v2 : Int32} {r : am_R} (h : (
  am_pI g M a0 6 2 v1 fun M1 =>
  am_pI g M1 a0 6 3 v2 fun M2 =>
  some (none, M2)) = some r) : F 69 0 [.ref a0, .int v1, .int v2] [] M = some r := am_inF hF t_Route_setTime h
theorem e_Rule_signOf {g : am_G} {F : am_FT} (hF : F = am_F T0 g) {M : am_M} {v0 : Int32} {r : am_R} (h : (
  if v0 = 0 then
    am_rt 1 0 M
  else
    if 0 ≤ v0 then
      am_rt 1 1 M
    else
      am_rt 1 (-1) M) = some r) : F 70 0 [.int v0] [] M = some r := am_inF hF t_Rule_signOf h
set_option maxRecDepth 20000 in
set_option maxHeartbeats 2000000 in
theorem e_RunSayer_count {g : am_G} {F : am_FT} (hF : F = am_F T0 g) {M : am_M} {a0 : Nat} {v1 : Int32} {r : am_R} (h : (
  if v1 = 0 then
    am_gR g a0 11 0 fun q1 =>
    am_gI g M q1 0 3 fun x2 =>
    am_rt 1 x2 M
  else
  if v1 = 1 then
    am_gR g a0 11 0 fun q3 =>
    am_gI g M q3 0 7 fun x4 =>
    am_rt 1 x4 M
  else
  if v1 = 2 then
    am_gR g a0 11 0 fun q5 =>
    am_gI g M q5 0 14 fun x6 =>
    am_rt 1 x6 M
  else
  if v1 = 3 then
    am_gR g a0 11 1 fun q7 =>
    am_gI g M q7 3 0 fun x8 =>
    am_rt 1 x8 M
  else
  if v1 = 4 then
    am_gR g a0 11 1 fun q9 =>
    am_gI g M q9 3 4 fun x10 =>
    am_rt 1 x10 M
  else
  if v1 = 5 then
    am_gR g a0 11 1 fun q11 =>
    am_gI g M q11 3 9 fun x12 =>
    am_rt 1 x12 M
  else
  if v1 = 6 then
    am_gR g a0 11 1 fun q13 =>
    am_gI g M q13 3 16 fun x14 =>
    am_rt 1 x14 M
  else
  if v1 = 7 then
    am_gI g M a0 11 9 fun x15 =>
    am_rt 1 x15 M
  else
  if v1 = 8 then
    am_gI g M a0 11 11 fun x16 =>
    am_rt 1 x16 M
  else
  if v1 = 9 then
    am_gI g M a0 11 15 fun x17 =>
    am_rt 1 x17 M
  else
  if v1 = 10 then
    am_gI g M a0 11 13 fun x18 =>
    am_rt 1 x18 M
  else
  if v1 = 11 then
    am_gR g a0 11 4 fun q19 =>
    am_gI g M q19 10 1 fun x20 =>
    am_rt 1 x20 M
  else
  if v1 = 12 then
    am_gI g M a0 11 19 fun x21 =>
    am_rt 1 x21 M
  else
  if v1 = 13 then
    am_gR g a0 11 0 fun q22 =>
    am_gI g M q22 0 17 fun x23 =>
    am_rt 1 x23 M
  else
    am_rt 1 (-2) M) = some r) : F 71 0 [.ref a0, .int v1] [] M = some r := am_inF hF t_RunSayer_count h
theorem e_RunSayer_outside {g : am_G} {F : am_FT} (hF : F = am_F T0 g) {M : am_M} {v0 : Int32} {v1 : Int32} {v2 : Int32} {r : am_R} (h : (
  if v0 < v1 then
    am_rt 2 1 M
  else
    if v0 ≤ v2 then
      am_rt 2 0 M
    else
      am_rt 2 1 M) = some r) : F 72 0 [.int v0, .int v1, .int v2] [] M = some r := am_inF hF t_RunSayer_outside h
theorem e_Sheet_become {g : am_G} {F : am_FT} (hF : F = am_F T0 g) {M : am_M} {a0 : Nat} {v1 : Int32} {v2 : Int32} {r : am_R} (h : (
  am_pI g M a0 8 0 v1 fun M1 =>
  am_pI g M1 a0 8 1 v2 fun M2 =>
  F 73 12 [.ref a0, .int 0] [] M2) = some r) : F 73 0 [.ref a0, .int v1, .int v2] [] M = some r := am_inF hF t_Sheet_become h
theorem e_Sheet_become_12 {g : am_G} {F : am_FT} (hF : F = am_F T0 g) {M : am_M} {a0 : Nat} {v3 : Int32} {r : am_R} (h : (
  if 100 ≤ v3 then
    some (none, M)
  else
    am_gR g a0 8 2 fun q1 =>
    am_is g M q1 v3 0 fun M2 =>
    F 73 12 [.ref a0, .int (v3 + 1)] [] M2) = some r) : F 73 12 [.ref a0, .int v3] [] M = some r := am_inF hF t_Sheet_become h
set_option maxRecDepth 20000 in
set_option maxHeartbeats 2000000 in
theorem e_Sheet_hasRow {g : am_G} {F : am_FT} (hF : F = am_F T0 g) {M : am_M} {a0 : Nat} {v1 : Int32} {v2 : Int32} {r : am_R} (h : (
  if v1 < 0 then
    am_rt 2 0 M
  else
    if v2 < 0 then
      am_rt 2 0 M
    else
      am_gI g M a0 8 1 fun x1 =>
      if x1 < v2 then
        am_rt 2 0 M
      else
        am_gI g M a0 8 1 fun x2 =>
        if (x2 - v2) < v1 then
          am_rt 2 0 M
        else
          am_rt 2 1 M) = some r) : F 74 0 [.ref a0, .int v1, .int v2] [] M = some r := am_inF hF t_Sheet_hasRow h
set_option maxRecDepth 20000 in
set_option maxHeartbeats 2000000 in
theorem e_Sheet_put {g : am_G} {F : am_FT} (hF : F = am_F T0 g) {M : am_M} {a0 : Nat} {v1 : Int32} {v2 : Int32} {r : am_R} (h : (
  am_gI g M a0 8 0 fun x1 =>
  if x1 = 0 then
    am_gR g a0 8 2 fun q2 =>
    am_is g M q2 v1 v2.toInt8.toInt32 fun M3 =>
    some (none, M3)
  else
  if x1 = 1 then
    am_gR g a0 8 2 fun q4 =>
    am_is g M q4 v1 v2.toInt16.toInt32 fun M5 =>
    some (none, M5)
  else
    am_gR g a0 8 2 fun q6 =>
    am_is g M q6 v1 v2 fun M7 =>
    some (none, M7)) = some r) : F 75 0 [.ref a0, .int v1, .int v2] [] M = some r := am_inF hF t_Sheet_put h
theorem e_Speech_turnOf {g : am_G} {F : am_FT} (hF : F = am_F T0 g) {M : am_M} {w0 : Int64} {r : am_R} (h : (
  if (lg_cmp w0 1818584692) = 0 then
    am_rt 1 0 M
  else
    if (lg_cmp w0 491394656372) = 0 then
      am_rt 1 1 M
    else
      if (lg_cmp w0 418363302244) = 0 then
        am_rt 1 2 M
      else
        if (lg_cmp w0 109330228604025) = 0 then
          am_rt 1 (-1) M
        else
          am_rt 1 (-2) M) = some r) : F 76 0 [.long w0] [] M = some r := am_inF hF t_Speech_turnOf h
theorem e_Tape_append {g : am_G} {F : am_FT} (hF : F = am_F T0 g) {M : am_M} {a0 : Nat} {w1 : Int64} {v3 : Int32} {r : am_R} (h : (
  F 77 8 [.ref a0, .long w1, .int (8 * (v3 - 1))] [] M) = some r) : F 77 0 [.ref a0, .long w1, .int v3] [] M = some r := am_inF hF t_Tape_append h
theorem e_Tape_append_8 {g : am_G} {F : am_FT} (hF : F = am_F T0 g) {M : am_M} {a0 : Nat} {w1 : Int64} {v4 : Int32} {r : am_R} (h : (
  if v4 < 0 then
    some (none, M)
  else
    am_gI g M a0 10 1 fun x1 =>
    if 160 ≤ x1 then
      some (none, M)
    else
      am_gR g a0 10 0 fun q2 =>
      am_gI g M a0 10 1 fun x3 =>
      am_is g M q2 x3 ((w1.toUInt64 >>> (v4.toInt64.toUInt64 &&& Int64.toUInt64 63)).toInt64.toInt32 &&& 255) fun M4 =>
      am_gI g M4 a0 10 1 fun x5 =>
      am_pI g M4 a0 10 1 (x5 + 1) fun M6 =>
      F 77 8 [.ref a0, .long w1, .int (v4 + (-8))] [] M6) = some r) : F 77 8 [.ref a0, .long w1, .int v4] [] M = some r := am_inF hF t_Tape_append h
theorem e_Tape_clear {g : am_G} {F : am_FT} (hF : F = am_F T0 g) {M : am_M} {a0 : Nat} {r : am_R} (h : (
  am_pI g M a0 10 1 0 fun M1 =>
  some (none, M1)) = some r) : F 78 0 [.ref a0] [] M = some r := am_inF hF t_Tape_clear h
theorem e_Tape_isAtEnd {g : am_G} {F : am_FT} (hF : F = am_F T0 g) {M : am_M} {a0 : Nat} {r : am_R} (h : (
  am_gI g M a0 10 2 fun x1 =>
  am_gI g M a0 10 1 fun x2 =>
  if x1 < x2 then
    am_rt 2 0 M
  else
    am_rt 2 1 M) = some r) : F 79 0 [.ref a0] [] M = some r := am_inF hF t_Tape_isAtEnd h
theorem e_Tape_isDigit {g : am_G} {F : am_FT} (hF : F = am_F T0 g) {M : am_M} {v0 : Int32} {r : am_R} (h : (
  if v0 < 48 then
    am_rt 2 0 M
  else
    if 57 < v0 then
      am_rt 2 0 M
    else
      am_rt 2 1 M) = some r) : F 80 0 [.int v0] [] M = some r := am_inF hF t_Tape_isDigit h
theorem e_Tape_isLetter {g : am_G} {F : am_FT} (hF : F = am_F T0 g) {M : am_M} {v0 : Int32} {r : am_R} (h : (
  if v0 < 97 then
    am_rt 2 0 M
  else
    if 122 < v0 then
      am_rt 2 0 M
    else
      am_rt 2 1 M) = some r) : F 81 0 [.int v0] [] M = some r := am_inF hF t_Tape_isLetter h
theorem e_Tape_signAt {g : am_G} {F : am_FT} (hF : F = am_F T0 g) {M : am_M} {a0 : Nat} {v1 : Int32} {r : am_R} (h : (
  if v1 < 0 then
    am_rt 1 (-1) M
  else
    am_gI g M a0 10 1 fun x1 =>
    if x1 ≤ v1 then
      am_rt 1 (-1) M
    else
      am_gR g a0 10 0 fun q2 =>
      am_ia g M q2 v1 fun x3 =>
      am_rt 1 x3 M) = some r) : F 82 0 [.ref a0, .int v1] [] M = some r := am_inF hF t_Tape_signAt h
set_option maxRecDepth 20000 in
set_option maxHeartbeats 2000000 in
theorem e_City_addDoor {g : am_G} {F : am_FT} (hF : F = am_F T0 g) {M : am_M} {a0 : Nat} {v1 : Int32} {v2 : Int32} {v3 : Int32} {r : am_R} (h : (
  am_gI g M a0 0 14 fun x1 =>
  if x1 < 8 then
    am_gI g M a0 0 14 fun x2 =>
    am_gR g a0 0 11 fun q3 =>
    am_is g M q3 x2 v1 fun M4 =>
    am_gR g a0 0 12 fun q5 =>
    am_is g M4 q5 x2 v2 fun M6 =>
    am_gR g a0 0 13 fun q7 =>
    am_is g M6 q7 x2 v3 fun M8 =>
    am_gI g M8 a0 0 14 fun x9 =>
    am_pI g M8 a0 0 14 (x9 + 1) fun M10 =>
    am_rc g a0 0 <|
    am_cv (F 1 0 [.ref a0, .int 2, .int x2] [] M10) fun M11 => /- City_addThing -/
    am_rt 1 x2 M11
  else
    am_rt 1 (-4) M) = some r) : F 83 0 [.ref a0, .int v1, .int v2, .int v3] [] M = some r := am_inF hF t_City_addDoor h
theorem e_City_addJunction {g : am_G} {F : am_FT} (hF : F = am_F T0 g) {M : am_M} {a0 : Nat} {v1 : Int32} {v2 : Int32} {v3 : Int32} {r : am_R} (h : (
  F 84 3 [.ref a0, .int v1, .int v2, .int v3, .int 0] [] M) = some r) : F 84 0 [.ref a0, .int v1, .int v2, .int v3] [] M = some r := am_inF hF t_City_addJunction h
set_option maxRecDepth 20000 in
set_option maxHeartbeats 2000000 in
theorem e_City_addJunction_3 {g : am_G} {F : am_FT} (hF : F = am_F T0 g) {M : am_M} {a0 : Nat} {v1 : Int32} {v2 : Int32} {v3 : Int32} {v4 : Int32} {r : am_R} (h : (
  am_gI g M a0 0 3 fun x1 =>
  if x1 ≤ v4 then
    am_gI g M a0 0 3 fun x2 =>
    if x2 < 24 then
      am_gI g M a0 0 3 fun x3 =>
      am_gR g a0 0 0 fun q4 =>
      am_is g M q4 x3 v1 fun M5 =>
      am_gR g a0 0 1 fun q6 =>
      am_is g M5 q6 x3 v2 fun M7 =>
      am_gR g a0 0 2 fun q8 =>
      am_is g M7 q8 x3 v3 fun M9 =>
      am_gI g M9 a0 0 3 fun x10 =>
      am_pI g M9 a0 0 3 (x10 + 1) fun M11 =>
      am_rc g a0 0 <|
      am_cv (F 1 0 [.ref a0, .int 0, .int x3] [] M11) fun M12 => /- City_addThing -/
      am_rt 1 x3 M12
    else
      am_rt 1 (-4) M
  else
    am_gR g a0 0 0 fun q13 =>
    am_ia g M q13 v4 fun x14 =>
    if x14 = v1 then
      am_gR g a0 0 1 fun q15 =>
      am_ia g M q15 v4 fun x16 =>
      if x16 = v2 then
        am_rt 1 (-3) M
      else
        F 84 3 [.ref a0, .int v1, .int v2, .int v3, .int (v4 + 1)] [] M
    else
      F 84 3 [.ref a0, .int v1, .int v2, .int v3, .int (v4 + 1)] [] M) = some r) : F 84 3 [.ref a0, .int v1, .int v2, .int v3, .int v4] [] M = some r := am_inF hF t_City_addJunction h
set_option maxRecDepth 20000 in
set_option maxHeartbeats 2000000 in
theorem e_City_addWay {g : am_G} {F : am_FT} (hF : F = am_F T0 g) {M : am_M} {a0 : Nat} {v1 : Int32} {v2 : Int32} {v3 : Int32} {v4 : Int32} {v5 : Int32} {r : am_R} (h : (
  am_gI g M a0 0 7 fun x1 =>
  if x1 < 40 then
    am_gI g M a0 0 7 fun x2 =>
    am_gR g a0 0 4 fun q3 =>
    am_is g M q3 x2 v1 fun M4 =>
    am_gR g a0 0 5 fun q5 =>
    am_is g M4 q5 x2 v4 fun M6 =>
    am_gR g a0 0 6 fun q7 =>
    am_is g M6 q7 x2 v5 fun M8 =>
    am_gI g M8 a0 0 7 fun x9 =>
    am_pI g M8 a0 0 7 (x9 + 1) fun M10 =>
    am_rc g a0 0 <|
    am_cv (F 0 0 [.ref a0, .int (2 * x2), .int v2, .int v3] [] M10) fun M11 => /- City_addLeg -/
    am_rc g a0 0 <|
    am_cv (F 0 0 [.ref a0, .int ((2 * x2) + 1), .int v3, .int v2] [] M11) fun M12 => /- City_addLeg -/
    am_rc g a0 0 <|
    am_cv (F 1 0 [.ref a0, .int 1, .int x2] [] M12) fun M13 => /- City_addThing -/
    am_rt 1 x2 M13
  else
    am_rt 1 (-4) M) = some r) : F 85 0 [.ref a0, .int v1, .int v2, .int v3, .int v4, .int v5] [] M = some r := am_inF hF t_City_addWay h
theorem e_City_follows {g : am_G} {F : am_FT} (hF : F = am_F T0 g) {M : am_M} {a0 : Nat} {v1 : Int32} {v2 : Int32} {r : am_R} (h : (
  am_rc g a0 0 <|
  am_ci (F 4 0 [.ref a0, .int v1] [] M) fun x2 M1 => /- City_endOf -/
  am_rc g a0 0 <|
  am_ci (F 13 0 [.ref a0, .int v2] [] M1) fun x4 M3 => /- City_startOf -/
  if x2 = x4 then
    if (v1 >>> ((1 : Int32) &&& 31)) = (v2 >>> ((1 : Int32) &&& 31)) then
      am_rt 2 0 M3
    else
      am_rt 2 1 M3
  else
    am_rt 2 0 M3) = some r) : F 86 0 [.ref a0, .int v1, .int v2] [] M = some r := am_inF hF t_City_follows h
set_option maxRecDepth 20000 in
set_option maxHeartbeats 2000000 in
theorem e_City_isInFirstHalf {g : am_G} {F : am_FT} (hF : F = am_F T0 g) {M : am_M} {a0 : Nat} {v1 : Int32} {v2 : Int32} {r : am_R} (h : (
  am_rc g a0 0 <|
  am_ci (F 2 0 [.ref a0, .int v1, .int v2] [] M) fun x2 M1 => /- City_cross -/
  if x2 < 0 then
    am_rt 2 1 M1
  else
    if x2 = 0 then
      am_rc g a0 0 <|
      am_ci (F 3 0 [.ref a0, .int v1, .int v2] [] M1) fun x4 M3 => /- City_dot -/
      if x4 ≤ 0 then
        am_rt 2 0 M3
      else
        am_rt 2 1 M3
    else
      am_rt 2 0 M1) = some r) : F 87 0 [.ref a0, .int v1, .int v2] [] M = some r := am_inF hF t_City_isInFirstHalf h
set_option maxRecDepth 20000 in
set_option maxHeartbeats 2000000 in
theorem e_City_isPassable {g : am_G} {F : am_FT} (hF : F = am_F T0 g) {M : am_M} {a0 : Nat} {v1 : Int32} {v2 : Int32} {r : am_R} (h : (
  if (v1 &&& 1) = 1 then
    am_gR g a0 0 6 fun q3 =>
    am_ia g M q3 (v1 >>> ((1 : Int32) &&& 31)) fun x4 =>
    if x4 = 1 then
      if (1 : Int32) = 0 then
        am_rc g a0 0 <|
        am_ci (F 9 0 [.ref a0, .int (v1 >>> ((1 : Int32) &&& 31)), .int v2] [] M) fun x8 M7 => /- City_isOpen -/
        if x8 = 0 then
          am_rt 2 0 M7
        else
          am_rt 2 1 M7
      else
        am_rt 2 0 M
    else
      if (0 : Int32) = 0 then
        am_rc g a0 0 <|
        am_ci (F 9 0 [.ref a0, .int (v1 >>> ((1 : Int32) &&& 31)), .int v2] [] M) fun x6 M5 => /- City_isOpen -/
        if x6 = 0 then
          am_rt 2 0 M5
        else
          am_rt 2 1 M5
      else
        am_rt 2 0 M
  else
    if (0 : Int32) = 0 then
      am_rc g a0 0 <|
      am_ci (F 9 0 [.ref a0, .int (v1 >>> ((1 : Int32) &&& 31)), .int v2] [] M) fun x2 M1 => /- City_isOpen -/
      if x2 = 0 then
        am_rt 2 0 M1
      else
        am_rt 2 1 M1
    else
      am_rt 2 0 M) = some r) : F 88 0 [.ref a0, .int v1, .int v2] [] M = some r := am_inF hF t_City_isPassable h
set_option maxRecDepth 20000 in
set_option maxHeartbeats 2000000 in
theorem e_City_takeThing {g : am_G} {F : am_FT} (hF : F = am_F T0 g) {M : am_M} {a0 : Nat} {v1 : Int32} {v2 : Int32} {r : am_R} (h : (
  am_gR g a0 0 15 fun q1 =>
  am_ia g M q1 v1 fun x2 =>
  am_gR g a0 0 16 fun q3 =>
  am_ia g M q3 v1 fun x4 =>
  if v2 = 6 then
    if x2 = 0 then
      am_gR g a0 0 0 fun q5 =>
      am_ia g M q5 x4 fun x6 =>
      am_rt 1 x6 M
    else
      am_rt 1 (-13) M
  else
  if v2 = 7 then
    if x2 = 2 then
      am_gR g a0 0 12 fun q7 =>
      am_ia g M q7 x4 fun x8 =>
      am_rt 1 x8 M
    else
      am_rt 1 (-13) M
  else
  if v2 = 8 then
    am_rt 1 x2 M
  else
    if x2 = 1 then
      am_gR g a0 0 4 fun q9 =>
      am_ia g M q9 x4 fun x10 =>
      am_ci (F 8 0 [.int x10, .int v2] [] M) fun x12 M11 => /- City_isOfKind -/
      if x12 = 0 then
        am_rt 1 (-13) M11
      else
        am_gR g a0 0 5 fun q13 =>
        am_ia g M11 q13 x4 fun x14 =>
        am_rt 1 x14 M11
    else
      am_rt 1 (-13) M) = some r) : F 89 0 [.ref a0, .int v1, .int v2] [] M = some r := am_inF hF t_City_takeThing h
set_option maxRecDepth 20000 in
set_option maxHeartbeats 2000000 in
theorem e_City_tellWay {g : am_G} {F : am_FT} (hF : F = am_F T0 g) {M : am_M} {a0 : Nat} {v1 : Int32} {v2 : Int32} {v3 : Int32} {r : am_R} (h : (
  if v2 = 0 then
    am_gR g a0 0 4 fun q1 =>
    am_ia g M q1 v1 fun x2 =>
    am_rt 1 x2 M
  else
  if v2 = 1 then
    am_rc g a0 0 <|
    am_ci (F 13 0 [.ref a0, .int (2 * v1)] [] M) fun x4 M3 => /- City_startOf -/
    am_rt 1 x4 M3
  else
  if v2 = 2 then
    am_rc g a0 0 <|
    am_ci (F 4 0 [.ref a0, .int (2 * v1)] [] M) fun x6 M5 => /- City_endOf -/
    am_rt 1 x6 M5
  else
  if v2 = 3 then
    am_gR g a0 0 5 fun q7 =>
    am_ia g M q7 v1 fun x8 =>
    am_rt 1 x8 M
  else
  if v2 = 4 then
    am_gR g a0 0 6 fun q9 =>
    am_ia g M q9 v1 fun x10 =>
    am_rt 1 x10 M
  else
  if v2 = 5 then
    am_rc g a0 0 <|
    am_ci (F 12 0 [.ref a0, .int v1, .int v3] [] M) fun x12 M11 => /- City_priceOf -/
    am_rt 1 x12 M11
  else
    am_rc g a0 0 <|
    am_ci (F 9 0 [.ref a0, .int v1, .int v3] [] M) fun x14 M13 => /- City_isOpen -/
    if x14 = 0 then
      am_rt 1 0 M13
    else
      am_rt 1 1 M13) = some r) : F 90 0 [.ref a0, .int v1, .int v2, .int v3] [] M = some r := am_inF hF t_City_tellWay h
set_option maxRecDepth 20000 in
set_option maxHeartbeats 2000000 in
theorem e_Exam_valueOf {g : am_G} {F : am_FT} (hF : F = am_F T0 g) {M : am_M} {a0 : Nat} {v1 : Int32} {r : am_R} (h : (
  if v1 = 0 then
    am_gR g a0 1 5 fun q1 =>
    am_gI g M q1 6 5 fun x2 =>
    am_ci (F 25 0 [.int x2, .int 1] [] M) fun x4 M3 => /- JMath_min_III -/
    am_rt 1 x4 M3
  else
  if v1 = 1 then
    am_gI g M a0 1 3 fun x5 =>
    am_rt 1 x5 M
  else
  if v1 = 2 then
    am_gI g M a0 1 4 fun x6 =>
    am_rt 1 x6 M
  else
  if v1 = 3 then
    am_gR g a0 1 5 fun q7 =>
    am_gI g M q7 6 5 fun x8 =>
    am_ci (F 24 0 [.int (x8 - 1), .int 0] [] M) fun x10 M9 => /- JMath_max -/
    am_rt 1 x10 M9
  else
  if v1 = 4 then
    am_gR g a0 1 5 fun q11 =>
    am_gI g M q11 6 7 fun x12 =>
    am_ci (F 24 0 [.int x12, .int 0] [] M) fun x14 M13 => /- JMath_max -/
    am_rt 1 x14 M13
  else
    am_gR g a0 1 5 fun q15 =>
    am_gI g M q15 6 2 fun x16 =>
    am_rt 1 x16 M) = some r) : F 91 0 [.ref a0, .int v1] [] M = some r := am_inF hF t_Exam_valueOf h
theorem e_Finder_allows {g : am_G} {F : am_FT} (hF : F = am_F T0 g) {M : am_M} {a0 : Nat} {a1 : Nat} {r : am_R} (h : (
  F 92 2 [.ref a0, .ref a1, .int 0] [] M) = some r) : F 92 0 [.ref a0, .ref a1] [] M = some r := am_inF hF t_Finder_allows h
set_option maxRecDepth 20000 in
set_option maxHeartbeats 2000000 in
theorem e_Finder_allows_2 {g : am_G} {F : am_FT} (hF : F = am_F T0 g) {M : am_M} {a0 : Nat} {a1 : Nat} {v2 : Int32} {r : am_R} (h : (
  am_gI g M a1 6 5 fun x1 =>
  if x1 ≤ v2 then
    am_rt 2 1 M
  else
    am_gR g a0 2 2 fun q2 =>
    am_gR g a1 6 4 fun q3 =>
    am_ia g M q3 v2 fun x4 =>
    am_za g M q2 x4 fun x5 =>
    if x5 = 0 then
      am_rt 2 0 M
    else
      if v2 ≤ 0 then
        F 92 2 [.ref a0, .ref a1, .int (v2 + 1)] [] M
      else
        am_gR g a1 6 4 fun q6 =>
        am_ia g M q6 (v2 - 1) fun x7 =>
        am_gR g a1 6 4 fun q8 =>
        am_ia g M q8 v2 fun x9 =>
        am_rc g a0 2 <|
        am_ci (F 19 0 [.ref a0, .int x7, .int x9] [] M) fun x11 M10 => /- Finder_mayTurn -/
        if x11 = 0 then
          am_rt 2 0 M10
        else
          F 92 2 [.ref a0, .ref a1, .int (v2 + 1)] [] M10) = some r) : F 92 2 [.ref a0, .ref a1, .int v2] [] M = some r := am_inF hF t_Finder_allows h
set_option maxRecDepth 20000 in
set_option maxHeartbeats 2000000 in
theorem e_Finder_costAlone {g : am_G} {F : am_FT} (hF : F = am_F T0 g) {M : am_M} {a0 : Nat} {v1 : Int32} {v2 : Int32} {v3 : Int32} {r : am_R} (h : (
  am_gR g a0 2 0 fun q1 =>
  am_gR g q1 0 11 fun q2 =>
  am_ia g M q2 v2 fun x3 =>
  am_gR g a0 2 0 fun q4 =>
  am_gR g q4 0 11 fun q5 =>
  am_ia g M q5 v3 fun x6 =>
  if x3 = x6 then
    am_gR g a0 2 0 fun q9 =>
    am_rc g q9 0 <|
    am_ci (F 5 0 [.ref q9, .int v1, .int v2, .int v3] [] M) fun x11 M10 => /- City_feetAhead -/
    if x11 ≤ 0 then
      some (some (.long 9223372036854775807), M10)
    else
      am_rc g a0 2 <|
      am_cj (F 17 0 [.ref a0, .int 0, .int x11] [] M10) fun l13 M12 => /- Finder_key -/
      some (some (.long l13), M12)
  else
    if (0 : Int32) ≤ 0 then
      some (some (.long 9223372036854775807), M)
    else
      am_rc g a0 2 <|
      am_cj (F 17 0 [.ref a0, .int 0, .int 0] [] M) fun l8 M7 => /- Finder_key -/
      some (some (.long l8), M7)) = some r) : F 93 0 [.ref a0, .int v1, .int v2, .int v3] [] M = some r := am_inF hF t_Finder_costAlone h
theorem e_Finder_isRightAt {g : am_G} {F : am_FT} (hF : F = am_F T0 g) {M : am_M} {a0 : Nat} {v1 : Int32} {a2 : Nat} {v3 : Int32} {r : am_R} (h : (
  am_gR g a0 2 0 fun q1 =>
  am_rc g q1 0 <|
  am_ci (F 4 0 [.ref q1, .int v1] [] M) fun x3 M2 => /- City_endOf -/
  F 94 13 [.ref a0, .int v1, .ref a2, .int v3, .int x3, .int 0] [] M2) = some r) : F 94 0 [.ref a0, .int v1, .ref a2, .int v3] [] M = some r := am_inF hF t_Finder_isRightAt h
set_option maxRecDepth 20000 in
set_option maxHeartbeats 2000000 in
theorem e_Finder_isRightAt_13 {g : am_G} {F : am_FT} (hF : F = am_F T0 g) {M : am_M} {a0 : Nat} {v1 : Int32} {a2 : Nat} {v3 : Int32} {v4 : Int32} {v5 : Int32} {r : am_R} (h : (
  am_gR g a0 2 0 fun q1 =>
  am_gR g q1 0 19 fun q2 =>
  am_ia g M q2 v4 fun x3 =>
  if x3 ≤ v5 then
    am_rt 2 1 M
  else
    am_gR g a0 2 0 fun q4 =>
    am_rc g q4 0 <|
    am_ci (F 11 0 [.ref q4, .int v4, .int v5] [] M) fun x6 M5 => /- City_outLeg -/
    am_rc g a0 2 <|
    am_ci (F 19 0 [.ref a0, .int v1, .int x6] [] M5) fun x8 M7 => /- Finder_mayTurn -/
    if x8 = 0 then
      F 94 13 [.ref a0, .int v1, .ref a2, .int v3, .int v4, .int (v5 + 1)] [] M7
    else
      am_gR g a0 2 0 fun q9 =>
      am_gR g q9 0 11 fun q10 =>
      am_ia g M7 q10 v3 fun x11 =>
      if (x6 >>> ((1 : Int32) &&& 31)) = x11 then
        am_ia g M7 a2 x6 fun x15 =>
        if x15 < 0 then
          am_ia g M7 a2 v1 fun x16 =>
          if 0 ≤ x16 then
            F 94 109 [.ref a0, .int v1, .ref a2, .int v3, .int v4, .int v5, .int x6, .int 1, .int 0] [] M7
          else
            if (1 : Int32) = 0 then
              if (0 : Int32) = 0 then
                F 94 109 [.ref a0, .int v1, .ref a2, .int v3, .int v4, .int v5, .int x6, .int 1, .int 0] [] M7
              else
                am_rt 2 0 M7
            else
              am_rt 2 0 M7
        else
          am_ia g M7 a2 v1 fun x17 =>
          if 0 ≤ x17 then
            F 94 109 [.ref a0, .int v1, .ref a2, .int v3, .int v4, .int v5, .int x6, .int 1, .int 1] [] M7
          else
            if (1 : Int32) = 0 then
              if (1 : Int32) = 0 then
                F 94 109 [.ref a0, .int v1, .ref a2, .int v3, .int v4, .int v5, .int x6, .int 1, .int 1] [] M7
              else
                am_rt 2 0 M7
            else
              am_rt 2 0 M7
      else
        am_ia g M7 a2 x6 fun x12 =>
        if x12 < 0 then
          am_ia g M7 a2 v1 fun x13 =>
          if 0 ≤ x13 then
            F 94 109 [.ref a0, .int v1, .ref a2, .int v3, .int v4, .int v5, .int x6, .int 0, .int 0] [] M7
          else
            if (0 : Int32) = 0 then
              if (0 : Int32) = 0 then
                F 94 109 [.ref a0, .int v1, .ref a2, .int v3, .int v4, .int v5, .int x6, .int 0, .int 0] [] M7
              else
                am_rt 2 0 M7
            else
              am_rt 2 0 M7
        else
          am_ia g M7 a2 v1 fun x14 =>
          if 0 ≤ x14 then
            F 94 109 [.ref a0, .int v1, .ref a2, .int v3, .int v4, .int v5, .int x6, .int 0, .int 1] [] M7
          else
            if (0 : Int32) = 0 then
              if (1 : Int32) = 0 then
                F 94 109 [.ref a0, .int v1, .ref a2, .int v3, .int v4, .int v5, .int x6, .int 0, .int 1] [] M7
              else
                am_rt 2 0 M7
            else
              am_rt 2 0 M7) = some r) : F 94 13 [.ref a0, .int v1, .ref a2, .int v3, .int v4, .int v5] [] M = some r := am_inF hF t_Finder_isRightAt h
set_option maxRecDepth 20000 in
set_option maxHeartbeats 2000000 in
theorem e_Finder_isRightAt_109 {g : am_G} {F : am_FT} (hF : F = am_F T0 g) {M : am_M} {a0 : Nat} {v1 : Int32} {a2 : Nat} {v3 : Int32} {v4 : Int32} {v5 : Int32} {v6 : Int32} {v7 : Int32} {v8 : Int32} {r : am_R} (h : (
  if v7 = 0 then
    if v8 = 0 then
      F 94 13 [.ref a0, .int v1, .ref a2, .int v3, .int v4, .int (v5 + 1)] [] M
    else
      am_ia g M a2 v1 fun x1 =>
      am_gR g a0 2 3 fun q2 =>
      am_ia g M q2 (v6 >>> ((1 : Int32) &&& 31)) fun x3 =>
      am_ia g M a2 v6 fun x4 =>
      if (lg_cmp x1.toInt64 (x3.toInt64 + x4.toInt64)) ≤ 0 then
        F 94 13 [.ref a0, .int v1, .ref a2, .int v3, .int v4, .int (v5 + 1)] [] M
      else
        am_rt 2 0 M
  else
    am_ia g M a2 v1 fun x5 =>
    am_gR g a0 2 0 fun q6 =>
    am_rc g q6 0 <|
    am_ci (F 6 0 [.ref q6, .int v6, .int v3] [] M) fun x8 M7 => /- City_feetFromStart -/
    if x5 ≤ x8 then
      if v8 = 0 then
        F 94 13 [.ref a0, .int v1, .ref a2, .int v3, .int v4, .int (v5 + 1)] [] M7
      else
        am_ia g M7 a2 v1 fun x9 =>
        am_gR g a0 2 3 fun q10 =>
        am_ia g M7 q10 (v6 >>> ((1 : Int32) &&& 31)) fun x11 =>
        am_ia g M7 a2 v6 fun x12 =>
        if (lg_cmp x9.toInt64 (x11.toInt64 + x12.toInt64)) ≤ 0 then
          F 94 13 [.ref a0, .int v1, .ref a2, .int v3, .int v4, .int (v5 + 1)] [] M7
        else
          am_rt 2 0 M7
    else
      am_rt 2 0 M7) = some r) : F 94 109 [.ref a0, .int v1, .ref a2, .int v3, .int v4, .int v5, .int v6, .int v7, .int v8] [] M = some r := am_inF hF t_Finder_isRightAt h
theorem e_Finder_leastByProof {g : am_G} {F : am_FT} (hF : F = am_F T0 g) {M : am_M} {a0 : Nat} {a1 : Nat} {v2 : Int32} {v3 : Int32} {r : am_R} (h : (
  am_gR g a0 2 0 fun q1 =>
  am_gR g q1 0 11 fun q2 =>
  am_ia g M q2 v2 fun x3 =>
  F 95 22 [.ref a0, .ref a1, .int v2, .int v3, .long 9223372036854775807, .int (2 * x3), .int (2 * x3)] [] M) = some r) : F 95 0 [.ref a0, .ref a1, .int v2, .int v3] [] M = some r := am_inF hF t_Finder_leastByProof h
set_option maxRecDepth 20000 in
set_option maxHeartbeats 2000000 in
theorem e_Finder_leastByProof_22 {g : am_G} {F : am_FT} (hF : F = am_F T0 g) {M : am_M} {a0 : Nat} {a1 : Nat} {v2 : Int32} {v3 : Int32} {w4 : Int64} {v6 : Int32} {v7 : Int32} {r : am_R} (h : (
  if (v6 + 1) < v7 then
    some (some (.long w4), M)
  else
    am_gR g a0 2 2 fun q1 =>
    am_za g M q1 v7 fun x2 =>
    if x2 = 0 then
      F 95 22 [.ref a0, .ref a1, .int v2, .int v3, .long w4, .int v6, .int (v7 + 1)] [] M
    else
      am_ia g M a1 v7 fun x3 =>
      if x3 < 0 then
        am_gR g a0 2 0 fun q4 =>
        am_gR g q4 0 11 fun q5 =>
        am_ia g M q5 v3 fun x6 =>
        am_gR g a0 2 0 fun q7 =>
        am_gR g q7 0 11 fun q8 =>
        am_ia g M q8 v2 fun x9 =>
        if x6 = x9 then
          am_gR g a0 2 0 fun q10 =>
          am_rc g q10 0 <|
          am_ci (F 5 0 [.ref q10, .int v7, .int v2, .int v3] [] M) fun x12 M11 => /- City_feetAhead -/
          if x12 ≤ 0 then
            F 95 22 [.ref a0, .ref a1, .int v2, .int v3, .long w4, .int v6, .int (v7 + 1)] [] M11
          else
            am_gR g a0 2 0 fun q13 =>
            am_rc g q13 0 <|
            am_ci (F 5 0 [.ref q13, .int v7, .int v2, .int v3] [] M11) fun x15 M14 => /- City_feetAhead -/
            am_cj (F 26 0 [.long w4, .long x15.toInt64] [] M14) fun l17 M16 => /- JMath_min_JJJ -/
            F 95 22 [.ref a0, .ref a1, .int v2, .int v3, .long l17, .int v6, .int (v7 + 1)] [] M16
        else
          F 95 22 [.ref a0, .ref a1, .int v2, .int v3, .long w4, .int v6, .int (v7 + 1)] [] M
      else
        am_gR g a0 2 0 fun q18 =>
        am_rc g q18 0 <|
        am_ci (F 7 0 [.ref q18, .int v7, .int v2] [] M) fun x20 M19 => /- City_feetToEnd -/
        am_ia g M19 a1 v7 fun x21 =>
        am_cj (F 26 0 [.long w4, .long (x20.toInt64 + x21.toInt64)] [] M19) fun l23 M22 => /- JMath_min_JJJ -/
        am_gR g a0 2 0 fun q24 =>
        am_gR g q24 0 11 fun q25 =>
        am_ia g M22 q25 v3 fun x26 =>
        am_gR g a0 2 0 fun q27 =>
        am_gR g q27 0 11 fun q28 =>
        am_ia g M22 q28 v2 fun x29 =>
        if x26 = x29 then
          am_gR g a0 2 0 fun q30 =>
          am_rc g q30 0 <|
          am_ci (F 5 0 [.ref q30, .int v7, .int v2, .int v3] [] M22) fun x32 M31 => /- City_feetAhead -/
          if x32 ≤ 0 then
            F 95 22 [.ref a0, .ref a1, .int v2, .int v3, .long l23, .int v6, .int (v7 + 1)] [] M31
          else
            am_gR g a0 2 0 fun q33 =>
            am_rc g q33 0 <|
            am_ci (F 5 0 [.ref q33, .int v7, .int v2, .int v3] [] M31) fun x35 M34 => /- City_feetAhead -/
            am_cj (F 26 0 [.long l23, .long x35.toInt64] [] M34) fun l37 M36 => /- JMath_min_JJJ -/
            F 95 22 [.ref a0, .ref a1, .int v2, .int v3, .long l37, .int v6, .int (v7 + 1)] [] M36
        else
          F 95 22 [.ref a0, .ref a1, .int v2, .int v3, .long l23, .int v6, .int (v7 + 1)] [] M22) = some r) : F 95 22 [.ref a0, .ref a1, .int v2, .int v3, .long w4, .int v6, .int v7] [] M = some r := am_inF hF t_Finder_leastByProof h
theorem e_Finder_nextLeg {g : am_G} {F : am_FT} (hF : F = am_F T0 g) {M : am_M} {a0 : Nat} {v1 : Int32} {r : am_R} (h : (
  am_gR g a0 2 0 fun q1 =>
  am_rc g q1 0 <|
  am_ci (F 4 0 [.ref q1, .int v1] [] M) fun x3 M2 => /- City_endOf -/
  F 96 11 [.ref a0, .int v1, .int x3, .int 0] [] M2) = some r) : F 96 0 [.ref a0, .int v1] [] M = some r := am_inF hF t_Finder_nextLeg h
set_option maxRecDepth 20000 in
set_option maxHeartbeats 2000000 in
theorem e_Finder_nextLeg_11 {g : am_G} {F : am_FT} (hF : F = am_F T0 g) {M : am_M} {a0 : Nat} {v1 : Int32} {v2 : Int32} {v3 : Int32} {r : am_R} (h : (
  am_gR g a0 2 0 fun q1 =>
  am_gR g q1 0 19 fun q2 =>
  am_ia g M q2 v2 fun x3 =>
  if x3 ≤ v3 then
    am_rt 1 (-1) M
  else
    am_gR g a0 2 0 fun q4 =>
    am_rc g q4 0 <|
    am_ci (F 11 0 [.ref q4, .int v2, .int v3] [] M) fun x6 M5 => /- City_outLeg -/
    am_rc g a0 2 <|
    am_ci (F 19 0 [.ref a0, .int v1, .int x6] [] M5) fun x8 M7 => /- Finder_mayTurn -/
    if x8 = 0 then
      F 96 11 [.ref a0, .int v1, .int v2, .int (v3 + 1)] [] M7
    else
      am_gR g a0 2 10 fun q9 =>
      am_la g M7 q9 x6 fun l10 =>
      am_rc g a0 2 <|
      am_cj (F 16 0 [.ref a0, .int x6] [] M7) fun l12 M11 => /- Finder_costThrough -/
      am_cj (F 26 0 [.long l10, .long l12] [] M11) fun l14 M13 => /- JMath_min_JJJ -/
      am_gR g a0 2 11 fun q15 =>
      am_la g M13 q15 v1 fun l16 =>
      if (lg_cmp l14 l16) = 0 then
        am_rt 1 x6 M13
      else
        F 96 11 [.ref a0, .int v1, .int v2, .int (v3 + 1)] [] M13) = some r) : F 96 11 [.ref a0, .int v1, .int v2, .int v3] [] M = some r := am_inF hF t_Finder_nextLeg h
theorem e_Finder_offer {g : am_G} {F : am_FT} (hF : F = am_F T0 g) {M : am_M} {a0 : Nat} {v1 : Int32} {w2 : Int64} {r : am_R} (h : (
  am_gR g a0 2 0 fun q1 =>
  am_rc g q1 0 <|
  am_ci (F 13 0 [.ref q1, .int v1] [] M) fun x3 M2 => /- City_startOf -/
  F 97 13 [.ref a0, .int v1, .long w2, .int x3, .int 0] [] M2) = some r) : F 97 0 [.ref a0, .int v1, .long w2] [] M = some r := am_inF hF t_Finder_offer h
set_option maxRecDepth 20000 in
set_option maxHeartbeats 2000000 in
theorem e_Finder_offer_13 {g : am_G} {F : am_FT} (hF : F = am_F T0 g) {M : am_M} {a0 : Nat} {v1 : Int32} {w2 : Int64} {v4 : Int32} {v5 : Int32} {r : am_R} (h : (
  am_gR g a0 2 0 fun q1 =>
  am_gR g q1 0 19 fun q2 =>
  am_ia g M q2 v4 fun x3 =>
  if x3 ≤ v5 then
    some (none, M)
  else
    am_gR g a0 2 0 fun q4 =>
    am_rc g q4 0 <|
    am_ci (F 11 0 [.ref q4, .int v4, .int v5] [] M) fun x6 M5 => /- City_outLeg -/
    am_gR g a0 2 11 fun q7 =>
    am_la g M5 q7 (x6 ^^^ 1) fun l8 =>
    if 0 ≤ (lg_cmp w2 l8) then
      F 97 13 [.ref a0, .int v1, .long w2, .int v4, .int (v5 + 1)] [] M5
    else
      am_rc g a0 2 <|
      am_ci (F 19 0 [.ref a0, .int (x6 ^^^ 1), .int v1] [] M5) fun x10 M9 => /- Finder_mayTurn -/
      if x10 = 0 then
        F 97 13 [.ref a0, .int v1, .long w2, .int v4, .int (v5 + 1)] [] M9
      else
        am_gR g a0 2 11 fun q11 =>
        am_ls g M9 q11 (x6 ^^^ 1) w2 fun M12 =>
        F 97 13 [.ref a0, .int v1, .long w2, .int v4, .int (v5 + 1)] [] M12) = some r) : F 97 13 [.ref a0, .int v1, .long w2, .int v4, .int v5] [] M = some r := am_inF hF t_Finder_offer h
set_option maxRecDepth 20000 in
set_option maxHeartbeats 2000000 in
theorem e_Finder_stretchString {g : am_G} {F : am_FT} (hF : F = am_F T0 g) {M : am_M} {a0 : Nat} {v1 : Int32} {v2 : Int32} {r : am_R} (h : (
  am_gR g a0 2 0 fun q1 =>
  am_gR g a0 2 0 fun q2 =>
  am_gR g q2 0 11 fun q3 =>
  am_ia g M q3 v1 fun x4 =>
  am_rc g q1 0 <|
  am_ci (F 13 0 [.ref q1, .int (2 * x4)] [] M) fun x6 M5 => /- City_startOf -/
  am_gR g a0 2 0 fun q7 =>
  am_gR g a0 2 0 fun q8 =>
  am_gR g q8 0 11 fun q9 =>
  am_ia g M5 q9 v2 fun x10 =>
  am_rc g q7 0 <|
  am_ci (F 13 0 [.ref q7, .int (2 * x10)] [] M5) fun x12 M11 => /- City_startOf -/
  am_gR g a0 2 0 fun q13 =>
  am_gR g q13 0 0 fun q14 =>
  am_ia g M11 q14 x12 fun x15 =>
  am_gR g a0 2 0 fun q16 =>
  am_gR g q16 0 0 fun q17 =>
  am_ia g M11 q17 x6 fun x18 =>
  am_gR g a0 2 0 fun q19 =>
  am_gR g q19 0 1 fun q20 =>
  am_ia g M11 q20 x12 fun x21 =>
  am_gR g a0 2 0 fun q22 =>
  am_gR g q22 0 1 fun q23 =>
  am_ia g M11 q23 x6 fun x24 =>
  F 98 86 [.ref a0, .int x6, .int (x15 - x18), .int (x21 - x24), .int 0] [] M11) = some r) : F 98 0 [.ref a0, .int v1, .int v2] [] M = some r := am_inF hF t_Finder_stretchString h
set_option maxRecDepth 20000 in
set_option maxHeartbeats 2000000 in
theorem e_Finder_stretchString_86 {g : am_G} {F : am_FT} (hF : F = am_F T0 g) {M : am_M} {a0 : Nat} {v3 : Int32} {v5 : Int32} {v6 : Int32} {v7 : Int32} {r : am_R} (h : (
  am_gR g a0 2 0 fun q1 =>
  am_gI g M q1 0 3 fun x2 =>
  if x2 ≤ v7 then
    some (none, M)
  else
    am_gR g a0 2 8 fun q3 =>
    am_gR g a0 2 0 fun q4 =>
    am_gR g q4 0 1 fun q5 =>
    am_ia g M q5 v7 fun x6 =>
    am_gR g a0 2 0 fun q7 =>
    am_gR g q7 0 1 fun q8 =>
    am_ia g M q8 v3 fun x9 =>
    am_gR g a0 2 0 fun q10 =>
    am_gR g q10 0 0 fun q11 =>
    am_ia g M q11 v7 fun x12 =>
    am_gR g a0 2 0 fun q13 =>
    am_gR g q13 0 0 fun q14 =>
    am_ia g M q14 v3 fun x15 =>
    am_ci (F 23 0 [.int ((v5 * (x6 - x9)) - (v6 * (x12 - x15)))] [] M) fun x17 M16 => /- JMath_abs -/
    am_is g M16 q3 v7 x17 fun M18 =>
    F 98 86 [.ref a0, .int v3, .int v5, .int v6, .int (v7 + 1)] [] M18) = some r) : F 98 86 [.ref a0, .int v3, .int v5, .int v6, .int v7] [] M = some r := am_inF hF t_Finder_stretchString h
theorem e_Finder_weighLegs {g : am_G} {F : am_FT} (hF : F = am_F T0 g) {M : am_M} {a0 : Nat} {v1 : Int32} {r : am_R} (h : (
  F 99 2 [.ref a0, .int v1, .int 0] [] M) = some r) : F 99 0 [.ref a0, .int v1] [] M = some r := am_inF hF t_Finder_weighLegs h
set_option maxRecDepth 20000 in
set_option maxHeartbeats 2000000 in
theorem e_Finder_weighLegs_2 {g : am_G} {F : am_FT} (hF : F = am_F T0 g) {M : am_M} {a0 : Nat} {v1 : Int32} {v2 : Int32} {r : am_R} (h : (
  am_gR g a0 2 0 fun q1 =>
  am_rc g q1 0 <|
  am_ci (F 10 0 [.ref q1] [] M) fun x3 M2 => /- City_legCount -/
  if x3 ≤ v2 then
    some (none, M2)
  else
    am_gR g a0 2 9 fun q4 =>
    am_gR g a0 2 8 fun q5 =>
    am_gR g a0 2 0 fun q6 =>
    am_rc g q6 0 <|
    am_ci (F 4 0 [.ref q6, .int v2] [] M2) fun x8 M7 => /- City_endOf -/
    am_ia g M7 q5 x8 fun x9 =>
    am_gR g a0 2 3 fun q10 =>
    am_ia g M7 q10 (v2 >>> ((1 : Int32) &&& 31)) fun x11 =>
    am_rc g a0 2 <|
    am_cj (F 17 0 [.ref a0, .int x9, .int x11] [] M7) fun l13 M12 => /- Finder_key -/
    am_ls g M12 q4 v2 l13 fun M14 =>
    am_gR g a0 2 10 fun q15 =>
    am_gR g a0 2 0 fun q16 =>
    am_gR g q16 0 11 fun q17 =>
    am_ia g M14 q17 v1 fun x18 =>
    if (v2 >>> ((1 : Int32) &&& 31)) = x18 then
      am_gR g a0 2 0 fun q20 =>
      am_rc g q20 0 <|
      am_ci (F 6 0 [.ref q20, .int v2, .int v1] [] M14) fun x22 M21 => /- City_feetFromStart -/
      am_rc g a0 2 <|
      am_cj (F 17 0 [.ref a0, .int 0, .int x22] [] M21) fun l24 M23 => /- Finder_key -/
      am_ls g M23 q15 v2 l24 fun M25 =>
      F 99 2 [.ref a0, .int v1, .int (v2 + 1)] [] M25
    else
      am_ls g M14 q15 v2 9223372036854775807 fun M19 =>
      F 99 2 [.ref a0, .int v1, .int (v2 + 1)] [] M19) = some r) : F 99 2 [.ref a0, .int v1, .int v2] [] M = some r := am_inF hF t_Finder_weighLegs h
theorem e_Finder_whyNotInto {g : am_G} {F : am_FT} (hF : F = am_F T0 g) {M : am_M} {a0 : Nat} {v1 : Int32} {v2 : Int32} {r : am_R} (h : (
  am_gR g a0 2 2 fun q1 =>
  am_za g M q1 v2 fun x2 =>
  if x2 = 0 then
    am_rt 1 4 M
  else
    am_rc g a0 2 <|
    am_ci (F 19 0 [.ref a0, .int v1, .int v2] [] M) fun x4 M3 => /- Finder_mayTurn -/
    if x4 = 0 then
      am_rt 1 5 M3
    else
      am_rt 1 0 M3) = some r) : F 100 0 [.ref a0, .int v1, .int v2] [] M = some r := am_inF hF t_Finder_whyNotInto h
set_option maxRecDepth 20000 in
set_option maxHeartbeats 2000000 in
theorem e_Finder_whyNotSetDown {g : am_G} {F : am_FT} (hF : F = am_F T0 g) {M : am_M} {a0 : Nat} {v1 : Int32} {a2 : Nat} {v3 : Int32} {r : am_R} (h : (
  am_gR g a0 2 0 fun q1 =>
  am_gR g q1 0 11 fun q2 =>
  am_gI g M a2 6 1 fun x3 =>
  am_ia g M q2 x3 fun x4 =>
  if (v1 >>> ((1 : Int32) &&& 31)) = x4 then
    am_gI g M a2 6 5 fun x5 =>
    if x5 = 1 then
      am_gR g a0 2 0 fun q10 =>
      am_gI g M a2 6 0 fun x11 =>
      am_gI g M a2 6 1 fun x12 =>
      am_rc g q10 0 <|
      am_ci (F 5 0 [.ref q10, .int v1, .int x11, .int x12] [] M) fun x14 M13 => /- City_feetAhead -/
      if 0 < x14 then
        am_gR g a0 2 0 fun q15 =>
        am_gR g q15 0 13 fun q16 =>
        am_gI g M13 a2 6 1 fun x17 =>
        am_ia g M13 q16 x17 fun x18 =>
        if x18 = ((v1 &&& 1) ^^^ v3) then
          am_rt 1 0 M13
        else
          am_rt 1 7 M13
      else
        am_rt 1 6 M13
    else
      am_gR g a0 2 0 fun q6 =>
      am_gR g q6 0 13 fun q7 =>
      am_gI g M a2 6 1 fun x8 =>
      am_ia g M q7 x8 fun x9 =>
      if x9 = ((v1 &&& 1) ^^^ v3) then
        am_rt 1 0 M
      else
        am_rt 1 7 M
  else
    am_rt 1 6 M) = some r) : F 101 0 [.ref a0, .int v1, .ref a2, .int v3] [] M = some r := am_inF hF t_Finder_whyNotSetDown h
theorem e_JString_checkIndex {g : am_G} {F : am_FT} (hF : F = am_F T0 g) {M : am_M} {v0 : Int32} {v1 : Int32} {r : am_R} (h : (
  am_ci (F 27 0 [.int v0, .int v1, .ref 1000050] [] M) fun x2 M1 => /- JPrec_checkIndex -/
  some (none, M1)) = some r) : F 102 0 [.int v0, .int v1] [] M = some r := am_inF hF t_JString_checkIndex h
theorem e_JString_length {g : am_G} {F : am_FT} (hF : F = am_F T0 g) {M : am_M} {a0 : Nat} {r : am_R} (h : (
  am_gS g a0 0 fun q1 =>
  am_ln g q1 fun x2 =>
  am_rc g a0 13 <|
  am_ci (F 28 0 [.ref a0] [] M) fun x4 M3 => /- JString_coder -/
  am_rt 1 (x2 >>> (x4 &&& 31)) M3) = some r) : F 103 0 [.ref a0] [] M = some r := am_inF hF t_JString_length h
theorem e_Ledger_isWord {g : am_G} {F : am_FT} (hF : F = am_F T0 g) {M : am_M} {w0 : Int64} {r : am_R} (h : (
  F 104 5 [.long w0, .long w0, .int 0] [] M) = some r) : F 104 0 [.long w0] [] M = some r := am_inF hF t_Ledger_isWord h
set_option maxRecDepth 20000 in
set_option maxHeartbeats 2000000 in
theorem e_Ledger_isWord_5 {g : am_G} {F : am_FT} (hF : F = am_F T0 g) {M : am_M} {w0 : Int64} {w2 : Int64} {v4 : Int32} {r : am_R} (h : (
  if 8 ≤ v4 then
    if (lg_cmp w0 0) = 0 then
      am_rt 2 0 M
    else
      am_rt 2 1 M
  else
    if (lg_cmp w2 0) = 0 then
      if (lg_cmp w0 0) = 0 then
        am_rt 2 0 M
      else
        am_rt 2 1 M
    else
      am_ci (F 81 0 [.int (w2 &&& 255).toInt32] [] M) fun x2 M1 => /- Tape_isLetter -/
      if x2 = 0 then
        am_rt 2 0 M1
      else
        F 104 5 [.long w0, .long (w2.toUInt64 >>> ((8 : Int32).toInt64.toUInt64 &&& Int64.toUInt64 63)).toInt64, .int (v4 + 1)] [] M1) = some r) : F 104 5 [.long w0, .long w2, .int v4] [] M = some r := am_inF hF t_Ledger_isWord h
set_option maxRecDepth 20000 in
set_option maxHeartbeats 2000000 in
theorem e_Links_numberedLink {g : am_G} {F : am_FT} (hF : F = am_F T0 g) {M : am_M} {a0 : Nat} {v1 : Int32} {v2 : Int32} {r : am_R} (h : (
  am_rc g a0 4 <|
  am_ci (F 39 0 [.ref a0, .int v1, .int v2] [] M) fun x2 M1 => /- Links_numberOf -/
  if 0 ≤ x2 then
    am_rc g a0 4 <|
    am_ci (F 39 0 [.ref a0, .int v1, .int v2] [] M1) fun x4 M3 => /- Links_numberOf -/
    am_rt 1 x4 M3
  else
    am_gI g M1 a0 4 2 fun x5 =>
    if 200 ≤ x5 then
      am_rc g a0 4 <|
      am_ci (F 39 0 [.ref a0, .int v1, .int v2] [] M1) fun x7 M6 => /- Links_numberOf -/
      am_rt 1 x7 M6
    else
      am_gR g a0 4 0 fun q8 =>
      am_gI g M1 a0 4 2 fun x9 =>
      am_is g M1 q8 x9 v1 fun M10 =>
      am_gR g a0 4 1 fun q11 =>
      am_gI g M10 a0 4 2 fun x12 =>
      am_is g M10 q11 x12 v2 fun M13 =>
      am_gI g M13 a0 4 2 fun x14 =>
      am_pI g M13 a0 4 2 (x14 + 1) fun M15 =>
      am_gR g a0 4 3 fun q16 =>
      am_gI g M15 a0 4 2 fun x17 =>
      am_is g M15 q16 ((v1 * 80) + v2) x17 fun M18 =>
      am_rc g a0 4 <|
      am_ci (F 39 0 [.ref a0, .int v1, .int v2] [] M18) fun x20 M19 => /- Links_numberOf -/
      am_rt 1 x20 M19) = some r) : F 105 0 [.ref a0, .int v1, .int v2] [] M = some r := am_inF hF t_Links_numberedLink h
theorem e_Pupil_rideLink {g : am_G} {F : am_FT} (hF : F = am_F T0 g) {M : am_M} {a0 : Nat} {v1 : Int32} {v2 : Int32} {r : am_R} (h : (
  am_gR g a0 5 1 fun q1 =>
  am_gR g a0 5 1 fun q2 =>
  am_ia g M q2 v1 fun x3 =>
  am_ci (F 25 0 [.int (x3 + 1), .int 6] [] M) fun x5 M4 => /- JMath_min_III -/
  am_is g M4 q1 v1 x5 fun M6 =>
  am_gR g a0 5 2 fun q7 =>
  am_is g M6 q7 v1 v2 fun M8 =>
  some (none, M8)) = some r) : F 143 0 [.ref a0, .int v1, .int v2] [] M = some r := am_inF hF t_Pupil_rideLink h
theorem e_Pupil_wouldHold {g : am_G} {F : am_FT} (hF : F = am_F T0 g) {M : am_M} {a0 : Nat} {v1 : Int32} {v2 : Int32} {v3 : Int32} {r : am_R} (h : (
  if v1 ≤ 0 then
    am_rt 2 0 M
  else
    if v2 ≤ v3 then
      am_gI g M a0 5 0 fun x1 =>
      am_ci (F 25 0 [.int v1, .int 6] [] M) fun x3 M2 => /- JMath_min_III -/
      if (x1 <<< ((x3 - 1) &&& 31)) < (v3 - v2) then
        am_rt 2 0 M2
      else
        am_rt 2 1 M2
    else
      am_rt 2 0 M) = some r) : F 144 0 [.ref a0, .int v1, .int v2, .int v3] [] M = some r := am_inF hF t_Pupil_wouldHold h
set_option maxRecDepth 20000 in
set_option maxHeartbeats 2000000 in
theorem e_RunSayer_examTold {g : am_G} {F : am_FT} (hF : F = am_F T0 g) {M : am_M} {a0 : Nat} {v1 : Int32} {v2 : Int32} {r : am_R} (h : (
  am_gI g M a0 11 15 fun x1 =>
  am_ci (F 72 0 [.int v1, .int 0, .int (x1 - 1)] [] M) fun x3 M2 => /- RunSayer_outside -/
  if x3 = 0 then
    if v2 = 0 then
      am_gR g a0 11 14 fun q4 =>
      am_qa g q4 v1 fun q5 =>
      am_gI g M2 q5 1 0 fun x6 =>
      am_rt 1 x6 M2
    else
    if v2 = 1 then
      am_gR g a0 11 14 fun q7 =>
      am_qa g q7 v1 fun q8 =>
      am_gR g q8 1 5 fun q9 =>
      am_gI g M2 q9 6 0 fun x10 =>
      am_rt 1 x10 M2
    else
    if v2 = 2 then
      am_gR g a0 11 14 fun q11 =>
      am_qa g q11 v1 fun q12 =>
      am_gR g q12 1 5 fun q13 =>
      am_gI g M2 q13 6 1 fun x14 =>
      am_rt 1 x14 M2
    else
    if v2 = 3 then
      am_gR g a0 11 14 fun q15 =>
      am_qa g q15 v1 fun q16 =>
      am_gR g q16 1 5 fun q17 =>
      am_gI g M2 q17 6 2 fun x18 =>
      am_rt 1 x18 M2
    else
    if v2 = 4 then
      am_gR g a0 11 14 fun q19 =>
      am_qa g q19 v1 fun q20 =>
      am_gR g q20 1 5 fun q21 =>
      am_gI g M2 q21 6 3 fun x22 =>
      am_rt 1 x22 M2
    else
    if v2 = 5 then
      am_gR g a0 11 14 fun q23 =>
      am_qa g q23 v1 fun q24 =>
      am_gI g M2 q24 1 1 fun x25 =>
      am_rt 1 x25 M2
    else
    if v2 = 6 then
      am_gR g a0 11 14 fun q26 =>
      am_qa g q26 v1 fun q27 =>
      am_gR g q27 1 5 fun q28 =>
      am_gI g M2 q28 6 5 fun x29 =>
      am_rt 1 x29 M2
    else
    if v2 = 7 then
      am_gR g a0 11 14 fun q30 =>
      am_qa g q30 v1 fun q31 =>
      am_gI g M2 q31 1 2 fun x32 =>
      am_rt 1 x32 M2
    else
      am_rt 1 (-2) M2
  else
    am_rt 1 (-1) M2) = some r) : F 145 0 [.ref a0, .int v1, .int v2] [] M = some r := am_inF hF t_RunSayer_examTold h
set_option maxRecDepth 20000 in
set_option maxHeartbeats 2000000 in
theorem e_RunSayer_feed {g : am_G} {F : am_FT} (hF : F = am_F T0 g) {M : am_M} {a0 : Nat} {w1 : Int64} {v3 : Int32} {r : am_R} (h : (
  am_ci (F 72 0 [.int v3, .int 1, .int 8] [] M) fun x2 M1 => /- RunSayer_outside -/
  if x2 = 0 then
    am_gR g a0 11 4 fun q3 =>
    am_gI g M1 q3 10 1 fun x4 =>
    if (x4 + v3) ≤ 160 then
      am_gR g a0 11 4 fun q5 =>
      am_rc g q5 10 <|
      am_cv (F 77 0 [.ref q5, .long w1, .int v3] [] M1) fun M6 => /- Tape_append -/
      am_gR g a0 11 4 fun q7 =>
      am_gI g M6 q7 10 1 fun x8 =>
      am_rt 1 x8 M6
    else
      am_rt 1 (-4) M1
  else
    am_rt 1 (-2) M1) = some r) : F 146 0 [.ref a0, .long w1, .int v3] [] M = some r := am_inF hF t_RunSayer_feed h
theorem e_RunSayer_leg {g : am_G} {F : am_FT} (hF : F = am_F T0 g) {M : am_M} {a0 : Nat} {v1 : Int32} {r : am_R} (h : (
  am_gR g a0 11 6 fun q1 =>
  am_gI g M q1 6 5 fun x2 =>
  am_ci (F 72 0 [.int v1, .int 0, .int (x2 - 1)] [] M) fun x4 M3 => /- RunSayer_outside -/
  if x4 = 0 then
    am_gR g a0 11 6 fun q5 =>
    am_gR g q5 6 4 fun q6 =>
    am_ia g M3 q6 v1 fun x7 =>
    am_rt 1 x7 M3
  else
    am_rt 1 (-1) M3) = some r) : F 147 0 [.ref a0, .int v1] [] M = some r := am_inF hF t_RunSayer_leg h
theorem e_RunSayer_noBit {g : am_G} {F : am_FT} (hF : F = am_F T0 g) {M : am_M} {v0 : Int32} {r : am_R} (h : (
  am_ci (F 72 0 [.int v0, .int 0, .int 1] [] M) fun x2 M1 => /- RunSayer_outside -/
  am_rt 2 x2 M1) = some r) : F 148 0 [.int v0] [] M = some r := am_inF hF t_RunSayer_noBit h
set_option maxRecDepth 20000 in
set_option maxHeartbeats 2000000 in
theorem e_RunSayer_noDoors {g : am_G} {F : am_FT} (hF : F = am_F T0 g) {M : am_M} {a0 : Nat} {v1 : Int32} {v2 : Int32} {r : am_R} (h : (
  am_gR g a0 11 0 fun q1 =>
  am_gI g M q1 0 14 fun x2 =>
  am_ci (F 72 0 [.int v1, .int 0, .int (x2 - 1)] [] M) fun x4 M3 => /- RunSayer_outside -/
  if x4 = 0 then
    am_gR g a0 11 0 fun q5 =>
    am_gI g M3 q5 0 14 fun x6 =>
    am_ci (F 72 0 [.int v2, .int 0, .int (x6 - 1)] [] M3) fun x8 M7 => /- RunSayer_outside -/
    if x8 = 0 then
      am_rt 2 0 M7
    else
      am_rt 2 1 M7
  else
    am_rt 2 1 M3) = some r) : F 149 0 [.ref a0, .int v1, .int v2] [] M = some r := am_inF hF t_RunSayer_noDoors h
theorem e_RunSayer_noHour {g : am_G} {F : am_FT} (hF : F = am_F T0 g) {M : am_M} {v0 : Int32} {r : am_R} (h : (
  am_ci (F 72 0 [.int v0, .int 0, .int 23] [] M) fun x2 M1 => /- RunSayer_outside -/
  am_rt 2 x2 M1) = some r) : F 150 0 [.int v0] [] M = some r := am_inF hF t_RunSayer_noHour h
theorem e_RunSayer_noLeg {g : am_G} {F : am_FT} (hF : F = am_F T0 g) {M : am_M} {a0 : Nat} {v1 : Int32} {r : am_R} (h : (
  am_gR g a0 11 0 fun q1 =>
  am_rc g q1 0 <|
  am_ci (F 10 0 [.ref q1] [] M) fun x3 M2 => /- City_legCount -/
  am_ci (F 72 0 [.int v1, .int 0, .int (x3 - 1)] [] M2) fun x5 M4 => /- RunSayer_outside -/
  am_rt 2 x5 M4) = some r) : F 151 0 [.ref a0, .int v1] [] M = some r := am_inF hF t_RunSayer_noLeg h
theorem e_RunSayer_noPupil {g : am_G} {F : am_FT} (hF : F = am_F T0 g) {M : am_M} {a0 : Nat} {v1 : Int32} {r : am_R} (h : (
  am_gI g M a0 11 11 fun x1 =>
  am_ci (F 72 0 [.int v1, .int 0, .int (x1 - 1)] [] M) fun x3 M2 => /- RunSayer_outside -/
  am_rt 2 x3 M2) = some r) : F 152 0 [.ref a0, .int v1] [] M = some r := am_inF hF t_RunSayer_noPupil h
theorem e_RunSayer_noSheet {g : am_G} {F : am_FT} (hF : F = am_F T0 g) {M : am_M} {v0 : Int32} {r : am_R} (h : (
  am_ci (F 72 0 [.int v0, .int 0, .int 3] [] M) fun x2 M1 => /- RunSayer_outside -/
  am_rt 2 x2 M1) = some r) : F 153 0 [.int v0] [] M = some r := am_inF hF t_RunSayer_noSheet h
theorem e_RunSayer_noWay {g : am_G} {F : am_FT} (hF : F = am_F T0 g) {M : am_M} {a0 : Nat} {v1 : Int32} {r : am_R} (h : (
  am_gR g a0 11 0 fun q1 =>
  am_gI g M q1 0 7 fun x2 =>
  am_ci (F 72 0 [.int v1, .int 0, .int (x2 - 1)] [] M) fun x4 M3 => /- RunSayer_outside -/
  am_rt 2 x4 M3) = some r) : F 154 0 [.ref a0, .int v1] [] M = some r := am_inF hF t_RunSayer_noWay h
theorem e_RunSayer_notKnown {g : am_G} {F : am_FT} (hF : F = am_F T0 g) {M : am_M} {a0 : Nat} {v1 : Int32} {r : am_R} (h : (
  am_gR g a0 11 1 fun q1 =>
  am_gI g M q1 3 0 fun x2 =>
  am_ci (F 72 0 [.int v1, .int 0, .int x2] [] M) fun x4 M3 => /- RunSayer_outside -/
  am_rt 2 x4 M3) = some r) : F 155 0 [.ref a0, .int v1] [] M = some r := am_inF hF t_RunSayer_notKnown h
set_option maxRecDepth 20000 in
set_option maxHeartbeats 2000000 in
theorem e_RunSayer_pass {g : am_G} {F : am_FT} (hF : F = am_F T0 g) {M : am_M} {a0 : Nat} {v1 : Int32} {r : am_R} (h : (
  am_ci (F 72 0 [.int v1, .int 1, .int 100] [] M) fun x2 M1 => /- RunSayer_outside -/
  if x2 = 0 then
    am_gR g a0 11 1 fun q3 =>
    am_gI g M1 q3 3 0 fun x4 =>
    if (x4 + v1) ≤ 299 then
      am_gR g a0 11 1 fun q5 =>
      am_gI g M1 q5 3 0 fun x6 =>
      am_pI g M1 q5 3 0 (x6 + v1) fun M7 =>
      am_gR g a0 11 1 fun q8 =>
      am_gI g M7 q8 3 0 fun x9 =>
      am_rt 1 x9 M7
    else
      am_rt 1 (-4) M1
  else
    am_rt 1 (-2) M1) = some r) : F 156 0 [.ref a0, .int v1] [] M = some r := am_inF hF t_RunSayer_pass h
theorem e_RunSayer_planned {g : am_G} {F : am_FT} (hF : F = am_F T0 g) {M : am_M} {a0 : Nat} {v1 : Int32} {r : am_R} (h : (
  am_gI g M a0 11 18 fun x1 =>
  am_ci (F 72 0 [.int v1, .int 0, .int (x1 - 1)] [] M) fun x3 M2 => /- RunSayer_outside -/
  if x3 = 0 then
    am_gR g a0 11 17 fun q4 =>
    am_ia g M2 q4 v1 fun x5 =>
    am_rt 1 x5 M2
  else
    am_rt 1 (-1) M2) = some r) : F 157 0 [.ref a0, .int v1] [] M = some r := am_inF hF t_RunSayer_planned h
set_option maxRecDepth 20000 in
set_option maxHeartbeats 2000000 in
theorem e_RunSayer_pupil {g : am_G} {F : am_FT} (hF : F = am_F T0 g) {M : am_M} {a0 : Nat} {v1 : Int32} {r : am_R} (h : (
  am_ci (F 72 0 [.int v1, .int 1, .int 30] [] M) fun x2 M1 => /- RunSayer_outside -/
  if x2 = 0 then
    am_gI g M1 a0 11 11 fun x3 =>
    if x3 < 4 then
      am_gR g a0 11 10 fun q4 =>
      am_gI g M1 a0 11 11 fun x5 =>
      am_qa g q4 x5 fun q6 =>
      am_pI g M1 q6 5 0 v1 fun M7 =>
      am_gI g M7 a0 11 11 fun x8 =>
      am_pI g M7 a0 11 11 (x8 + 1) fun M9 =>
      am_gI g M9 a0 11 11 fun x10 =>
      am_rt 1 (x10 - 1) M9
    else
      am_rt 1 (-4) M1
  else
    am_rt 1 (-2) M1) = some r) : F 158 0 [.ref a0, .int v1] [] M = some r := am_inF hF t_RunSayer_pupil h
set_option maxRecDepth 20000 in
set_option maxHeartbeats 2000000 in
theorem e_RunSayer_run {g : am_G} {F : am_FT} (hF : F = am_F T0 g) {M : am_M} {a0 : Nat} {v1 : Int32} {v2 : Int32} {r : am_R} (h : (
  am_gI g M a0 11 9 fun x1 =>
  am_ci (F 72 0 [.int v1, .int 0, .int (x1 - 1)] [] M) fun x3 M2 => /- RunSayer_outside -/
  if x3 = 0 then
    am_gR g a0 11 8 fun q4 =>
    am_qa g q4 v1 fun q5 =>
    am_gI g M2 q5 6 5 fun x6 =>
    am_ci (F 72 0 [.int v2, .int (-1), .int (x6 - 1)] [] M2) fun x8 M7 => /- RunSayer_outside -/
    if x8 = 0 then
      if 0 ≤ v2 then
        am_gR g a0 11 8 fun q9 =>
        am_qa g q9 v1 fun q10 =>
        am_gR g q10 6 4 fun q11 =>
        am_ia g M7 q11 v2 fun x12 =>
        am_rt 1 x12 M7
      else
        am_gR g a0 11 8 fun q13 =>
        am_qa g q13 v1 fun q14 =>
        am_gI g M7 q14 6 5 fun x15 =>
        am_rt 1 x15 M7
    else
      am_rt 1 (-2) M7
  else
    am_rt 1 (-1) M2) = some r) : F 159 0 [.ref a0, .int v1, .int v2] [] M = some r := am_inF hF t_RunSayer_run h
set_option maxRecDepth 20000 in
set_option maxHeartbeats 2000000 in
theorem e_RunSayer_runTold {g : am_G} {F : am_FT} (hF : F = am_F T0 g) {M : am_M} {a0 : Nat} {v1 : Int32} {v2 : Int32} {r : am_R} (h : (
  am_gI g M a0 11 9 fun x1 =>
  am_ci (F 72 0 [.int v1, .int 0, .int (x1 - 1)] [] M) fun x3 M2 => /- RunSayer_outside -/
  if x3 = 0 then
    if v2 = 0 then
      am_gR g a0 11 8 fun q4 =>
      am_qa g q4 v1 fun q5 =>
      am_gI g M2 q5 6 0 fun x6 =>
      am_rt 1 x6 M2
    else
    if v2 = 1 then
      am_gR g a0 11 8 fun q7 =>
      am_qa g q7 v1 fun q8 =>
      am_gI g M2 q8 6 1 fun x9 =>
      am_rt 1 x9 M2
    else
    if v2 = 2 then
      am_gR g a0 11 8 fun q10 =>
      am_qa g q10 v1 fun q11 =>
      am_gI g M2 q11 6 2 fun x12 =>
      am_rt 1 x12 M2
    else
    if v2 = 3 then
      am_gR g a0 11 8 fun q13 =>
      am_qa g q13 v1 fun q14 =>
      am_gI g M2 q14 6 3 fun x15 =>
      am_rt 1 x15 M2
    else
    if v2 = 4 then
      am_gR g a0 11 8 fun q16 =>
      am_qa g q16 v1 fun q17 =>
      am_gI g M2 q17 6 7 fun x18 =>
      am_rt 1 x18 M2
    else
    if v2 = 5 then
      am_gR g a0 11 8 fun q19 =>
      am_qa g q19 v1 fun q20 =>
      am_gI g M2 q20 6 6 fun x21 =>
      am_rt 1 x21 M2
    else
      am_rt 1 (-2) M2
  else
    am_rt 1 (-1) M2) = some r) : F 160 0 [.ref a0, .int v1, .int v2] [] M = some r := am_inF hF t_RunSayer_runTold h
theorem e_RunSayer_wipe {g : am_G} {F : am_FT} (hF : F = am_F T0 g) {M : am_M} {a0 : Nat} {r : am_R} (h : (
  am_gR g a0 11 4 fun q1 =>
  am_gI g M q1 10 1 fun x2 =>
  am_gR g a0 11 4 fun q3 =>
  am_rc g q3 10 <|
  am_cv (F 78 0 [.ref q3] [] M) fun M4 => /- Tape_clear -/
  am_rt 1 x2 M4) = some r) : F 161 0 [.ref a0] [] M = some r := am_inF hF t_RunSayer_wipe h
set_option maxRecDepth 20000 in
set_option maxHeartbeats 2000000 in
theorem e_Tape_skipBlanks {g : am_G} {F : am_FT} (hF : F = am_F T0 g) {M : am_M} {a0 : Nat} {r : am_R} (h : (
  am_gI g M a0 10 2 fun x1 =>
  am_gI g M a0 10 1 fun x2 =>
  if x2 ≤ x1 then
    some (none, M)
  else
    am_gI g M a0 10 2 fun x3 =>
    am_rc g a0 10 <|
    am_ci (F 82 0 [.ref a0, .int x3] [] M) fun x5 M4 => /- Tape_signAt -/
    if x5 = 32 then
      am_gI g M4 a0 10 2 fun x6 =>
      am_pI g M4 a0 10 2 (x6 + 1) fun M7 =>
      F 162 0 [.ref a0] [] M7
    else
      some (none, M4)) = some r) : F 162 0 [.ref a0] [] M = some r := am_inF hF t_Tape_skipBlanks h
set_option maxRecDepth 20000 in
set_option maxHeartbeats 2000000 in
theorem e_Tape_takeLoneDigit {g : am_G} {F : am_FT} (hF : F = am_F T0 g) {M : am_M} {a0 : Nat} {r : am_R} (h : (
  am_gI g M a0 10 2 fun x1 =>
  am_rc g a0 10 <|
  am_ci (F 82 0 [.ref a0, .int x1] [] M) fun x3 M2 => /- Tape_signAt -/
  am_ci (F 80 0 [.int x3] [] M2) fun x5 M4 => /- Tape_isDigit -/
  if x5 = 0 then
    am_rt 1 0 M4
  else
    if x3 = 48 then
      am_rt 1 0 M4
    else
      am_gI g M4 a0 10 2 fun x6 =>
      am_rc g a0 10 <|
      am_ci (F 82 0 [.ref a0, .int (x6 + 1)] [] M4) fun x8 M7 => /- Tape_signAt -/
      am_ci (F 80 0 [.int x8] [] M7) fun x10 M9 => /- Tape_isDigit -/
      if x10 = 0 then
        am_gI g M9 a0 10 2 fun x11 =>
        am_pI g M9 a0 10 2 (x11 + 1) fun M12 =>
        am_rt 1 (x3 - 48) M12
      else
        am_rt 1 0 M9) = some r) : F 163 0 [.ref a0] [] M = some r := am_inF hF t_Tape_takeLoneDigit h
theorem e_Tape_takeNumber {g : am_G} {F : am_FT} (hF : F = am_F T0 g) {M : am_M} {a0 : Nat} {r : am_R} (h : (
  am_gI g M a0 10 2 fun x1 =>
  am_rc g a0 10 <|
  am_ci (F 82 0 [.ref a0, .int x1] [] M) fun x3 M2 => /- Tape_signAt -/
  am_ci (F 80 0 [.int x3] [] M2) fun x5 M4 => /- Tape_isDigit -/
  if x5 = 0 then
    am_rt 1 (-1) M4
  else
    F 164 20 [.ref a0, .int 0, .int 0] [] M4) = some r) : F 164 0 [.ref a0] [] M = some r := am_inF hF t_Tape_takeNumber h
set_option maxRecDepth 20000 in
set_option maxHeartbeats 2000000 in
theorem e_Tape_takeNumber_20 {g : am_G} {F : am_FT} (hF : F = am_F T0 g) {M : am_M} {a0 : Nat} {v1 : Int32} {v2 : Int32} {r : am_R} (h : (
  if 4 ≤ v2 then
    am_rt 1 v1 M
  else
    am_gI g M a0 10 2 fun x1 =>
    am_rc g a0 10 <|
    am_ci (F 82 0 [.ref a0, .int x1] [] M) fun x3 M2 => /- Tape_signAt -/
    am_ci (F 80 0 [.int x3] [] M2) fun x5 M4 => /- Tape_isDigit -/
    if x5 = 0 then
      am_rt 1 v1 M4
    else
      am_gI g M4 a0 10 2 fun x6 =>
      am_rc g a0 10 <|
      am_ci (F 82 0 [.ref a0, .int x6] [] M4) fun x8 M7 => /- Tape_signAt -/
      am_gI g M7 a0 10 2 fun x9 =>
      am_pI g M7 a0 10 2 (x9 + 1) fun M10 =>
      F 164 20 [.ref a0, .int (((10 * v1) + x8) - 48), .int (v2 + 1)] [] M10) = some r) : F 164 20 [.ref a0, .int v1, .int v2] [] M = some r := am_inF hF t_Tape_takeNumber h
theorem e_Tape_takeWord {g : am_G} {F : am_FT} (hF : F = am_F T0 g) {M : am_M} {a0 : Nat} {r : am_R} (h : (
  F 165 4 [.ref a0, .long 0, .int 0] [] M) = some r) : F 165 0 [.ref a0] [] M = some r := am_inF hF t_Tape_takeWord h
set_option maxRecDepth 20000 in
set_option maxHeartbeats 2000000 in
theorem e_Tape_takeWord_4 {g : am_G} {F : am_FT} (hF : F = am_F T0 g) {M : am_M} {a0 : Nat} {w1 : Int64} {v3 : Int32} {r : am_R} (h : (
  am_gI g M a0 10 2 fun x1 =>
  am_gI g M a0 10 1 fun x2 =>
  if x2 ≤ x1 then
    if v3 ≤ 8 then
      some (some (.long w1), M)
    else
      some (some (.long 0), M)
  else
    am_gI g M a0 10 2 fun x3 =>
    am_rc g a0 10 <|
    am_ci (F 82 0 [.ref a0, .int x3] [] M) fun x5 M4 => /- Tape_signAt -/
    am_ci (F 81 0 [.int x5] [] M4) fun x7 M6 => /- Tape_isLetter -/
    if x7 = 0 then
      if v3 ≤ 8 then
        some (some (.long w1), M6)
      else
        some (some (.long 0), M6)
    else
      am_gI g M6 a0 10 2 fun x8 =>
      am_rc g a0 10 <|
      am_ci (F 82 0 [.ref a0, .int x8] [] M6) fun x10 M9 => /- Tape_signAt -/
      am_gI g M9 a0 10 2 fun x11 =>
      am_pI g M9 a0 10 2 (x11 + 1) fun M12 =>
      F 165 4 [.ref a0, .long ((w1 <<< ((8 : Int32).toInt64 &&& 63)) ||| x10.toInt64), .int (v3 + 1)] [] M12) = some r) : F 165 4 [.ref a0, .long w1, .int v3] [] M = some r := am_inF hF t_Tape_takeWord h
theorem e_City_exitsAhead {g : am_G} {F : am_FT} (hF : F = am_F T0 g) {M : am_M} {a0 : Nat} {v1 : Int32} {v2 : Int32} {r : am_R} (h : (
  am_rc g a0 0 <|
  am_ci (F 4 0 [.ref a0, .int v1] [] M) fun x2 M1 => /- City_endOf -/
  am_rc g a0 0 <|
  am_ci (F 87 0 [.ref a0, .int (v1 ^^^ 1), .int v2] [] M1) fun x4 M3 => /- City_isInFirstHalf -/
  F 166 22 [.ref a0, .int v1, .int v2, .int x2, .int 0, .int x4, .int 0] [] M3) = some r) : F 166 0 [.ref a0, .int v1, .int v2] [] M = some r := am_inF hF t_City_exitsAhead h
set_option maxRecDepth 20000 in
set_option maxHeartbeats 2000000 in
theorem e_City_exitsAhead_22 {g : am_G} {F : am_FT} (hF : F = am_F T0 g) {M : am_M} {a0 : Nat} {v1 : Int32} {v2 : Int32} {v3 : Int32} {v4 : Int32} {v5 : Int32} {v6 : Int32} {r : am_R} (h : (
  am_gR g a0 0 19 fun q1 =>
  am_ia g M q1 v3 fun x2 =>
  if x2 ≤ v6 then
    am_rt 1 v4 M
  else
    am_rc g a0 0 <|
    am_ci (F 11 0 [.ref a0, .int v3, .int v6] [] M) fun x4 M3 => /- City_outLeg -/
    if x4 = v2 then
      F 166 22 [.ref a0, .int v1, .int v2, .int v3, .int v4, .int v5, .int (v6 + 1)] [] M3
    else
      if (x4 >>> ((1 : Int32) &&& 31)) = (v1 >>> ((1 : Int32) &&& 31)) then
        F 166 22 [.ref a0, .int v1, .int v2, .int v3, .int v4, .int v5, .int (v6 + 1)] [] M3
      else
        am_rc g a0 0 <|
        am_ci (F 87 0 [.ref a0, .int (v1 ^^^ 1), .int x4] [] M3) fun x6 M5 => /- City_isInFirstHalf -/
        if x6 = v5 then
          am_rc g a0 0 <|
          am_ci (F 2 0 [.ref a0, .int x4, .int v2] [] M5) fun x8 M7 => /- City_cross -/
          if x8 < 0 then
            if (1 : Int32) = 0 then
              F 166 22 [.ref a0, .int v1, .int v2, .int v3, .int v4, .int v5, .int (v6 + 1)] [] M7
            else
              F 166 22 [.ref a0, .int v1, .int v2, .int v3, .int (v4 + 1), .int v5, .int (v6 + 1)] [] M7
          else
            if x8 = 0 then
              if v2 ≤ x4 then
                if (0 : Int32) = 0 then
                  F 166 22 [.ref a0, .int v1, .int v2, .int v3, .int v4, .int v5, .int (v6 + 1)] [] M7
                else
                  F 166 22 [.ref a0, .int v1, .int v2, .int v3, .int (v4 + 1), .int v5, .int (v6 + 1)] [] M7
              else
                if (1 : Int32) = 0 then
                  F 166 22 [.ref a0, .int v1, .int v2, .int v3, .int v4, .int v5, .int (v6 + 1)] [] M7
                else
                  F 166 22 [.ref a0, .int v1, .int v2, .int v3, .int (v4 + 1), .int v5, .int (v6 + 1)] [] M7
            else
              if (0 : Int32) = 0 then
                F 166 22 [.ref a0, .int v1, .int v2, .int v3, .int v4, .int v5, .int (v6 + 1)] [] M7
              else
                F 166 22 [.ref a0, .int v1, .int v2, .int v3, .int (v4 + 1), .int v5, .int (v6 + 1)] [] M7
        else
          if x6 = 0 then
            F 166 22 [.ref a0, .int v1, .int v2, .int v3, .int v4, .int v5, .int (v6 + 1)] [] M5
          else
            F 166 22 [.ref a0, .int v1, .int v2, .int v3, .int (v4 + 1), .int v5, .int (v6 + 1)] [] M5) = some r) : F 166 22 [.ref a0, .int v1, .int v2, .int v3, .int v4, .int v5, .int v6] [] M = some r := am_inF hF t_City_exitsAhead h
set_option maxRecDepth 20000 in
set_option maxHeartbeats 2000000 in
theorem e_Finder_costFrom {g : am_G} {F : am_FT} (hF : F = am_F T0 g) {M : am_M} {a0 : Nat} {v1 : Int32} {v2 : Int32} {v3 : Int32} {r : am_R} (h : (
  am_gR g a0 2 2 fun q1 =>
  am_za g M q1 v1 fun x2 =>
  if x2 = 0 then
    some (some (.long 9223372036854775807), M)
  else
    am_gR g a0 2 11 fun q3 =>
    am_la g M q3 v1 fun l4 =>
    if (lg_cmp l4 9223372036854775807) = 0 then
      am_rc g a0 2 <|
      am_cj (F 93 0 [.ref a0, .int v1, .int v2, .int v3] [] M) fun l22 M21 => /- Finder_costAlone -/
      am_cj (F 26 0 [.long 9223372036854775807, .long l22] [] M21) fun l24 M23 => /- JMath_min_JJJ -/
      some (some (.long l24), M23)
    else
      am_gR g a0 2 11 fun q5 =>
      am_la g M q5 v1 fun l6 =>
      am_gR g a0 2 8 fun q7 =>
      am_gR g a0 2 0 fun q8 =>
      am_rc g q8 0 <|
      am_ci (F 4 0 [.ref q8, .int v1] [] M) fun x10 M9 => /- City_endOf -/
      am_ia g M9 q7 x10 fun x11 =>
      am_gR g a0 2 0 fun q12 =>
      am_rc g q12 0 <|
      am_ci (F 7 0 [.ref q12, .int v1, .int v2] [] M9) fun x14 M13 => /- City_feetToEnd -/
      am_rc g a0 2 <|
      am_cj (F 17 0 [.ref a0, .int x11, .int x14] [] M13) fun l16 M15 => /- Finder_key -/
      am_rc g a0 2 <|
      am_cj (F 93 0 [.ref a0, .int v1, .int v2, .int v3] [] M15) fun l18 M17 => /- Finder_costAlone -/
      am_cj (F 26 0 [.long (l6 + l16), .long l18] [] M17) fun l20 M19 => /- JMath_min_JJJ -/
      some (some (.long l20), M19)) = some r) : F 167 0 [.ref a0, .int v1, .int v2, .int v3] [] M = some r := am_inF hF t_Finder_costFrom h
theorem e_Finder_firstWrong {g : am_G} {F : am_FT} (hF : F = am_F T0 g) {M : am_M} {a0 : Nat} {a1 : Nat} {v2 : Int32} {r : am_R} (h : (
  F 168 2 [.ref a0, .ref a1, .int v2, .int 0] [] M) = some r) : F 168 0 [.ref a0, .ref a1, .int v2] [] M = some r := am_inF hF t_Finder_firstWrong h
set_option maxRecDepth 20000 in
set_option maxHeartbeats 2000000 in
theorem e_Finder_firstWrong_2 {g : am_G} {F : am_FT} (hF : F = am_F T0 g) {M : am_M} {a0 : Nat} {a1 : Nat} {v2 : Int32} {v3 : Int32} {r : am_R} (h : (
  am_gR g a0 2 0 fun q1 =>
  am_rc g q1 0 <|
  am_ci (F 10 0 [.ref q1] [] M) fun x3 M2 => /- City_legCount -/
  if x3 ≤ v3 then
    am_rt 1 (-1) M2
  else
    am_ln g a1 fun x4 =>
    if x4 ≤ v3 then
      am_rt 1 (-1) M2
    else
      am_ia g M2 a1 v3 fun x5 =>
      if x5 < (-1) then
        am_rt 1 v3 M2
      else
        am_rc g a0 2 <|
        am_ci (F 94 0 [.ref a0, .int v3, .ref a1, .int v2] [] M2) fun x7 M6 => /- Finder_isRightAt -/
        if x7 = 0 then
          am_rt 1 v3 M6
        else
          F 168 2 [.ref a0, .ref a1, .int v2, .int (v3 + 1)] [] M6) = some r) : F 168 2 [.ref a0, .ref a1, .int v2, .int v3] [] M = some r := am_inF hF t_Finder_firstWrong h
set_option maxRecDepth 20000 in
set_option maxHeartbeats 2000000 in
theorem e_Finder_measure {g : am_G} {F : am_FT} (hF : F = am_F T0 g) {M : am_M} {a0 : Nat} {a1 : Nat} {r : am_R} (h : (
  am_gI g M a1 6 5 fun x1 =>
  if 0 ≤ (x1 - 1) then
    am_gI g M a1 6 0 fun x2 =>
    am_gI g M a1 6 1 fun x3 =>
    am_rc g a0 2 <|
    am_cv (F 98 0 [.ref a0, .int x2, .int x3] [] M) fun M4 => /- Finder_stretchString -/
    am_pI g M4 a1 6 6 0 fun M5 =>
    if (x1 - 1) = 0 then
      am_gR g a0 2 0 fun q19 =>
      am_gR g a1 6 4 fun q20 =>
      am_ia g M5 q20 0 fun x21 =>
      am_gI g M5 a1 6 0 fun x22 =>
      am_gI g M5 a1 6 1 fun x23 =>
      am_rc g q19 0 <|
      am_ci (F 5 0 [.ref q19, .int x21, .int x22, .int x23] [] M5) fun x25 M24 => /- City_feetAhead -/
      am_pI g M24 a1 6 7 x25 fun M26 =>
      some (none, M26)
    else
      am_gR g a0 2 0 fun q6 =>
      am_gR g a1 6 4 fun q7 =>
      am_ia g M5 q7 0 fun x8 =>
      am_gI g M5 a1 6 0 fun x9 =>
      am_rc g q6 0 <|
      am_ci (F 7 0 [.ref q6, .int x8, .int x9] [] M5) fun x11 M10 => /- City_feetToEnd -/
      am_gR g a0 2 0 fun q12 =>
      am_gR g a1 6 4 fun q13 =>
      am_ia g M10 q13 (x1 - 1) fun x14 =>
      am_gI g M10 a1 6 1 fun x15 =>
      am_rc g q12 0 <|
      am_ci (F 6 0 [.ref q12, .int x14, .int x15] [] M10) fun x17 M16 => /- City_feetFromStart -/
      am_pI g M16 a1 6 7 (x11 + x17) fun M18 =>
      F 169 110 [.ref a0, .ref a1, .int (x1 - 1), .int 0] [] M18
  else
    am_pI g M a1 6 6 (-1) fun M27 =>
    am_pI g M27 a1 6 7 (-1) fun M28 =>
    some (none, M28)) = some r) : F 169 0 [.ref a0, .ref a1] [] M = some r := am_inF hF t_Finder_measure h
set_option maxRecDepth 20000 in
set_option maxHeartbeats 2000000 in
theorem e_Finder_measure_110 {g : am_G} {F : am_FT} (hF : F = am_F T0 g) {M : am_M} {a0 : Nat} {a1 : Nat} {v2 : Int32} {v3 : Int32} {r : am_R} (h : (
  if v2 ≤ v3 then
    some (none, M)
  else
    am_gI g M a1 6 6 fun x1 =>
    am_gR g a0 2 8 fun q2 =>
    am_gR g a0 2 0 fun q3 =>
    am_gR g a1 6 4 fun q4 =>
    am_ia g M q4 v3 fun x5 =>
    am_rc g q3 0 <|
    am_ci (F 4 0 [.ref q3, .int x5] [] M) fun x7 M6 => /- City_endOf -/
    am_ia g M6 q2 x7 fun x8 =>
    am_pI g M6 a1 6 6 (x1 + x8) fun M9 =>
    if v3 ≤ 0 then
      F 169 110 [.ref a0, .ref a1, .int v2, .int (v3 + 1)] [] M9
    else
      am_gI g M9 a1 6 7 fun x10 =>
      am_gR g a0 2 3 fun q11 =>
      am_gR g a1 6 4 fun q12 =>
      am_ia g M9 q12 v3 fun x13 =>
      am_ia g M9 q11 (x13 >>> ((1 : Int32) &&& 31)) fun x14 =>
      am_pI g M9 a1 6 7 (x10 + x14) fun M15 =>
      F 169 110 [.ref a0, .ref a1, .int v2, .int (v3 + 1)] [] M15) = some r) : F 169 110 [.ref a0, .ref a1, .int v2, .int v3] [] M = some r := am_inF hF t_Finder_measure h
theorem e_Finder_setHour {g : am_G} {F : am_FT} (hF : F = am_F T0 g) {M : am_M} {a0 : Nat} {v1 : Int32} {r : am_R} (h : (
  F 170 2 [.ref a0, .int v1, .int 0] [] M) = some r) : F 170 0 [.ref a0, .int v1] [] M = some r := am_inF hF t_Finder_setHour h
theorem e_Finder_setHour_2 {g : am_G} {F : am_FT} (hF : F = am_F T0 g) {M : am_M} {a0 : Nat} {v1 : Int32} {v2 : Int32} {r : am_R} (h : (
  am_gR g a0 2 0 fun q1 =>
  am_rc g q1 0 <|
  am_ci (F 10 0 [.ref q1] [] M) fun x3 M2 => /- City_legCount -/
  if x3 ≤ v2 then
    F 170 36 [.ref a0, .int v1, .int 0] [] M2
  else
    am_gR g a0 2 2 fun q4 =>
    am_gR g a0 2 0 fun q5 =>
    am_rc g q5 0 <|
    am_ci (F 88 0 [.ref q5, .int v2, .int v1] [] M2) fun x7 M6 => /- City_isPassable -/
    am_zs g M6 q4 v2 x7 fun M8 =>
    F 170 2 [.ref a0, .int v1, .int (v2 + 1)] [] M8) = some r) : F 170 2 [.ref a0, .int v1, .int v2] [] M = some r := am_inF hF t_Finder_setHour h
theorem e_Finder_setHour_36 {g : am_G} {F : am_FT} (hF : F = am_F T0 g) {M : am_M} {a0 : Nat} {v1 : Int32} {v2 : Int32} {r : am_R} (h : (
  am_gR g a0 2 0 fun q1 =>
  am_gI g M q1 0 7 fun x2 =>
  if x2 ≤ v2 then
    some (none, M)
  else
    am_gR g a0 2 3 fun q3 =>
    am_gR g a0 2 0 fun q4 =>
    am_rc g q4 0 <|
    am_ci (F 12 0 [.ref q4, .int v2, .int v1] [] M) fun x6 M5 => /- City_priceOf -/
    am_is g M5 q3 v2 x6 fun M7 =>
    F 170 36 [.ref a0, .int v1, .int (v2 + 1)] [] M7) = some r) : F 170 36 [.ref a0, .int v1, .int v2] [] M = some r := am_inF hF t_Finder_setHour h
set_option maxRecDepth 20000 in
set_option maxHeartbeats 2000000 in
theorem e_Finder_spread {g : am_G} {F : am_FT} (hF : F = am_F T0 g) {M : am_M} {a0 : Nat} {v1 : Int32} {v2 : Int32} {v3 : Int32} {r : am_R} (h : (
  am_pZ g M a0 2 13 v3 fun M1 =>
  am_rc g a0 2 <|
  am_cv (F 98 0 [.ref a0, .int v1, .int v2] [] M1) fun M2 => /- Finder_stretchString -/
  am_rc g a0 2 <|
  am_cv (F 99 0 [.ref a0, .int v2] [] M2) fun M3 => /- Finder_weighLegs -/
  am_gR g a0 2 0 fun q4 =>
  am_rc g q4 0 <|
  am_ci (F 10 0 [.ref q4] [] M3) fun x6 M5 => /- City_legCount -/
  am_gR g a0 2 0 fun q7 =>
  am_gR g q7 0 11 fun q8 =>
  am_ia g M5 q8 v2 fun x9 =>
  F 171 41 [.ref a0, .int x6, .int (2 * x9), .int 0] [] M5) = some r) : F 171 0 [.ref a0, .int v1, .int v2, .int v3] [] M = some r := am_inF hF t_Finder_spread h
set_option maxRecDepth 20000 in
set_option maxHeartbeats 2000000 in
theorem e_Finder_spread_41 {g : am_G} {F : am_FT} (hF : F = am_F T0 g) {M : am_M} {a0 : Nat} {v4 : Int32} {v5 : Int32} {v6 : Int32} {r : am_R} (h : (
  if v4 ≤ v6 then
    am_gR g a0 2 10 fun q1 =>
    am_la g M q1 v5 fun l2 =>
    am_rc g a0 2 <|
    am_cv (F 97 0 [.ref a0, .int v5, .long l2] [] M) fun M3 => /- Finder_offer -/
    am_gR g a0 2 10 fun q4 =>
    am_la g M3 q4 (v5 + 1) fun l5 =>
    am_rc g a0 2 <|
    am_cv (F 97 0 [.ref a0, .int (v5 + 1), .long l5] [] M3) fun M6 => /- Finder_offer -/
    F 171 105 [.ref a0, .int v4, .int 0] [] M6
  else
    am_gR g a0 2 11 fun q7 =>
    am_ls g M q7 v6 9223372036854775807 fun M8 =>
    am_gR g a0 2 12 fun q9 =>
    am_zs g M8 q9 v6 0 fun M10 =>
    F 171 41 [.ref a0, .int v4, .int v5, .int (v6 + 1)] [] M10) = some r) : F 171 41 [.ref a0, .int v4, .int v5, .int v6] [] M = some r := am_inF hF t_Finder_spread h
set_option maxRecDepth 20000 in
set_option maxHeartbeats 2000000 in
theorem e_Finder_spread_105 {g : am_G} {F : am_FT} (hF : F = am_F T0 g) {M : am_M} {a0 : Nat} {v4 : Int32} {v6 : Int32} {r : am_R} (h : (
  if v4 ≤ v6 then
    some (none, M)
  else
    am_rc g a0 2 <|
    am_ci (F 20 0 [.ref a0, .int v4] [] M) fun x2 M1 => /- Finder_nearest -/
    if 0 ≤ x2 then
      am_gR g a0 2 12 fun q3 =>
      am_zs g M1 q3 x2 1 fun M4 =>
      am_rc g a0 2 <|
      am_cj (F 16 0 [.ref a0, .int x2] [] M4) fun l6 M5 => /- Finder_costThrough -/
      am_rc g a0 2 <|
      am_cv (F 97 0 [.ref a0, .int x2, .long l6] [] M5) fun M7 => /- Finder_offer -/
      F 171 105 [.ref a0, .int v4, .int (v6 + 1)] [] M7
    else
      some (none, M1)) = some r) : F 171 105 [.ref a0, .int v4, .int v6] [] M = some r := am_inF hF t_Finder_spread h
theorem e_Finder_trace {g : am_G} {F : am_FT} (hF : F = am_F T0 g) {M : am_M} {a0 : Nat} {a1 : Nat} {v2 : Int32} {w3 : Int64} {r : am_R} (h : (
  am_rc g a1 6 <|
  am_cv (F 66 0 [.ref a1, .int v2] [] M) fun M1 => /- Route_add -/
  am_gI g M1 a1 6 0 fun x2 =>
  am_gI g M1 a1 6 1 fun x3 =>
  am_rc g a0 2 <|
  am_cj (F 93 0 [.ref a0, .int v2, .int x2, .int x3] [] M1) fun l5 M4 => /- Finder_costAlone -/
  if (lg_cmp l5 w3) = 0 then
    some (none, M4)
  else
    F 172 30 [.ref a0, .ref a1, .int v2, .int 0] [] M4) = some r) : F 172 0 [.ref a0, .ref a1, .int v2, .long w3] [] M = some r := am_inF hF t_Finder_trace h
set_option maxRecDepth 20000 in
set_option maxHeartbeats 2000000 in
theorem e_Finder_trace_30 {g : am_G} {F : am_FT} (hF : F = am_F T0 g) {M : am_M} {a0 : Nat} {a1 : Nat} {v5 : Int32} {v6 : Int32} {r : am_R} (h : (
  am_gR g a0 2 0 fun q1 =>
  am_rc g q1 0 <|
  am_ci (F 10 0 [.ref q1] [] M) fun x3 M2 => /- City_legCount -/
  if x3 ≤ v6 then
    some (none, M2)
  else
    am_rc g a0 2 <|
    am_ci (F 96 0 [.ref a0, .int v5] [] M2) fun x5 M4 => /- Finder_nextLeg -/
    if 0 ≤ x5 then
      am_rc g a1 6 <|
      am_cv (F 66 0 [.ref a1, .int x5] [] M4) fun M6 => /- Route_add -/
      am_gR g a0 2 10 fun q7 =>
      am_la g M6 q7 x5 fun l8 =>
      am_gR g a0 2 11 fun q9 =>
      am_la g M6 q9 v5 fun l10 =>
      if (lg_cmp l8 l10) = 0 then
        some (none, M6)
      else
        F 172 30 [.ref a0, .ref a1, .int x5, .int (v6 + 1)] [] M6
    else
      some (none, M4)) = some r) : F 172 30 [.ref a0, .ref a1, .int v5, .int v6] [] M = some r := am_inF hF t_Finder_trace h
theorem e_JLatin1_charAt {g : am_G} {F : am_FT} (hF : F = am_F T0 g) {M : am_M} {a0 : Nat} {v1 : Int32} {r : am_R} (h : (
  am_ln g a0 fun x1 =>
  am_cv (F 102 0 [.int v1, .int x1] [] M) fun M2 => /- JString_checkIndex -/
  am_za g M2 a0 v1 fun x3 =>
  am_rt 6 ((x3 &&& 255).toUInt32 % 65536).toInt32 M2) = some r) : F 173 0 [.ref a0, .int v1] [] M = some r := am_inF hF t_JLatin1_charAt h
theorem e_Links_addRun {g : am_G} {F : am_FT} (hF : F = am_F T0 g) {M : am_M} {a0 : Nat} {v1 : Int32} {a2 : Nat} {r : am_R} (h : (
  am_gR g a0 4 5 fun q1 =>
  am_is g M q1 v1 0 fun M2 =>
  F 174 9 [.ref a0, .int v1, .ref a2, .int 1] [] M2) = some r) : F 174 0 [.ref a0, .int v1, .ref a2] [] M = some r := am_inF hF t_Links_addRun h
set_option maxRecDepth 20000 in
set_option maxHeartbeats 2000000 in
theorem e_Links_addRun_9 {g : am_G} {F : am_FT} (hF : F = am_F T0 g) {M : am_M} {a0 : Nat} {v1 : Int32} {a2 : Nat} {v3 : Int32} {r : am_R} (h : (
  am_gI g M a2 6 5 fun x1 =>
  if x1 ≤ v3 then
    some (none, M)
  else
    am_gR g a2 6 4 fun q2 =>
    am_ia g M q2 (v3 - 1) fun x3 =>
    am_gR g a2 6 4 fun q4 =>
    am_ia g M q4 v3 fun x5 =>
    am_rc g a0 4 <|
    am_ci (F 105 0 [.ref a0, .int x3, .int x5] [] M) fun x7 M6 => /- Links_numberedLink -/
    if x7 < 0 then
      F 174 9 [.ref a0, .int v1, .ref a2, .int (v3 + 1)] [] M6
    else
      am_rc g a0 4 <|
      am_ci (F 38 0 [.ref a0, .int v1, .int x7] [] M6) fun x9 M8 => /- Links_isInRun -/
      if x9 = 0 then
        am_gR g a0 4 5 fun q10 =>
        am_ia g M8 q10 v1 fun x11 =>
        if 20 ≤ x11 then
          F 174 9 [.ref a0, .int v1, .ref a2, .int (v3 + 1)] [] M8
        else
          am_gR g a0 4 4 fun q12 =>
          am_qa g q12 v1 fun q13 =>
          am_gR g a0 4 5 fun q14 =>
          am_ia g M8 q14 v1 fun x15 =>
          am_is g M8 q13 x15 x7 fun M16 =>
          am_gR g a0 4 5 fun q17 =>
          am_ia g M16 q17 v1 fun x18 =>
          am_is g M16 q17 v1 (x18 + 1) fun M19 =>
          F 174 9 [.ref a0, .int v1, .ref a2, .int (v3 + 1)] [] M19
      else
        F 174 9 [.ref a0, .int v1, .ref a2, .int (v3 + 1)] [] M8) = some r) : F 174 9 [.ref a0, .int v1, .ref a2, .int v3] [] M = some r := am_inF hF t_Links_addRun h
theorem e_Links_heldAfter {g : am_G} {F : am_FT} (hF : F = am_F T0 g) {M : am_M} {a0 : Nat} {a1 : Nat} {v2 : Int32} {v3 : Int32} {v4 : Int32} {r : am_R} (h : (
  F 175 6 [.ref a0, .ref a1, .int v2, .int v3, .int v4, .int 0, .int 0] [] M) = some r) : F 175 0 [.ref a0, .ref a1, .int v2, .int v3, .int v4] [] M = some r := am_inF hF t_Links_heldAfter h
theorem e_Links_heldAfter_6 {g : am_G} {F : am_FT} (hF : F = am_F T0 g) {M : am_M} {a0 : Nat} {a1 : Nat} {v2 : Int32} {v3 : Int32} {v4 : Int32} {v5 : Int32} {v6 : Int32} {r : am_R} (h : (
  am_gI g M a0 4 2 fun x1 =>
  if x1 ≤ v6 then
    am_rt 1 v5 M
  else
    am_gR g a1 5 1 fun q2 =>
    am_ia g M q2 v6 fun x3 =>
    am_gR g a1 5 2 fun q4 =>
    am_ia g M q4 v6 fun x5 =>
    F 175 36 [.ref a0, .ref a1, .int v2, .int v3, .int v4, .int v5, .int v6, .int x3, .int x5, .int 0] [] M) = some r) : F 175 6 [.ref a0, .ref a1, .int v2, .int v3, .int v4, .int v5, .int v6] [] M = some r := am_inF hF t_Links_heldAfter h
theorem e_Links_heldAfter_36 {g : am_G} {F : am_FT} (hF : F = am_F T0 g) {M : am_M} {a0 : Nat} {a1 : Nat} {v2 : Int32} {v3 : Int32} {v4 : Int32} {v5 : Int32} {v6 : Int32} {v7 : Int32} {v8 : Int32} {v9 : Int32} {r : am_R} (h : (
  if v2 ≤ v9 then
    am_rc g a1 5 <|
    am_ci (F 144 0 [.ref a1, .int v7, .int v8, .int v4] [] M) fun x2 M1 => /- Pupil_wouldHold -/
    if x2 = 0 then
      F 175 6 [.ref a0, .ref a1, .int v2, .int v3, .int v4, .int v5, .int (v6 + 1)] [] M1
    else
      F 175 6 [.ref a0, .ref a1, .int v2, .int v3, .int v4, .int (v5 + 1), .int (v6 + 1)] [] M1
  else
    am_gR g a0 4 8 fun q3 =>
    am_ia g M q3 v6 fun x4 =>
    am_gR g a0 4 9 fun q5 =>
    am_ia g M q5 v9 fun x6 =>
    if ((x4 >>> (x6 &&& 31)) &&& 1) = 1 then
      F 175 36 [.ref a0, .ref a1, .int v2, .int v3, .int v4, .int v5, .int v6, .int (v7 + 1), .int (v3 + v9), .int (v9 + 1)] [] M
    else
      F 175 36 [.ref a0, .ref a1, .int v2, .int v3, .int v4, .int v5, .int v6, .int v7, .int v8, .int (v9 + 1)] [] M) = some r) : F 175 36 [.ref a0, .ref a1, .int v2, .int v3, .int v4, .int v5, .int v6, .int v7, .int v8, .int v9] [] M = some r := am_inF hF t_Links_heldAfter h
theorem e_Links_rideRun {g : am_G} {F : am_FT} (hF : F = am_F T0 g) {M : am_M} {a0 : Nat} {a1 : Nat} {v2 : Int32} {v3 : Int32} {r : am_R} (h : (
  F 176 3 [.ref a0, .ref a1, .int v2, .int v3, .int 0] [] M) = some r) : F 176 0 [.ref a0, .ref a1, .int v2, .int v3] [] M = some r := am_inF hF t_Links_rideRun h
theorem e_Links_rideRun_3 {g : am_G} {F : am_FT} (hF : F = am_F T0 g) {M : am_M} {a0 : Nat} {a1 : Nat} {v2 : Int32} {v3 : Int32} {v4 : Int32} {r : am_R} (h : (
  am_gR g a0 4 5 fun q1 =>
  am_ia g M q1 v2 fun x2 =>
  if x2 ≤ v4 then
    some (none, M)
  else
    am_gR g a0 4 4 fun q3 =>
    am_qa g q3 v2 fun q4 =>
    am_ia g M q4 v4 fun x5 =>
    am_rc g a1 5 <|
    am_cv (F 143 0 [.ref a1, .int x5, .int v3] [] M) fun M6 => /- Pupil_rideLink -/
    F 176 3 [.ref a0, .ref a1, .int v2, .int v3, .int (v4 + 1)] [] M6) = some r) : F 176 3 [.ref a0, .ref a1, .int v2, .int v3, .int v4] [] M = some r := am_inF hF t_Links_rideRun h
theorem e_Pupil_isHeld {g : am_G} {F : am_FT} (hF : F = am_F T0 g) {M : am_M} {a0 : Nat} {v1 : Int32} {v2 : Int32} {r : am_R} (h : (
  am_gR g a0 5 1 fun q1 =>
  am_ia g M q1 v1 fun x2 =>
  am_gR g a0 5 2 fun q3 =>
  am_ia g M q3 v1 fun x4 =>
  am_rc g a0 5 <|
  am_ci (F 144 0 [.ref a0, .int x2, .int x4, .int v2] [] M) fun x6 M5 => /- Pupil_wouldHold -/
  am_rt 2 x6 M5) = some r) : F 195 0 [.ref a0, .int v1, .int v2] [] M = some r := am_inF hF t_Pupil_isHeld h
theorem e_Rule_appliesTo {g : am_G} {F : am_FT} (hF : F = am_F T0 g) {M : am_M} {a0 : Nat} {a1 : Nat} {r : am_R} (h : (
  F 196 2 [.ref a0, .ref a1, .int 0] [] M) = some r) : F 196 0 [.ref a0, .ref a1] [] M = some r := am_inF hF t_Rule_appliesTo h
set_option maxRecDepth 20000 in
set_option maxHeartbeats 2000000 in
theorem e_Rule_appliesTo_2 {g : am_G} {F : am_FT} (hF : F = am_F T0 g) {M : am_M} {a0 : Nat} {a1 : Nat} {v2 : Int32} {r : am_R} (h : (
  am_gI g M a0 7 1 fun x1 =>
  if x1 ≤ v2 then
    am_rt 2 1 M
  else
    am_gR g a0 7 2 fun q2 =>
    am_ia g M q2 v2 fun x3 =>
    am_rc g a1 1 <|
    am_ci (F 91 0 [.ref a1, .int x3] [] M) fun x5 M4 => /- Exam_valueOf -/
    am_gR g a0 7 4 fun q6 =>
    am_ia g M4 q6 v2 fun x7 =>
    am_ci (F 70 0 [.int (x5 - x7)] [] M4) fun x9 M8 => /- Rule_signOf -/
    am_gR g a0 7 3 fun q10 =>
    am_ia g M8 q10 v2 fun x11 =>
    if x9 = x11 then
      F 196 2 [.ref a0, .ref a1, .int (v2 + 1)] [] M8
    else
      am_rt 2 0 M8) = some r) : F 196 2 [.ref a0, .ref a1, .int v2] [] M = some r := am_inF hF t_Rule_appliesTo h
set_option maxRecDepth 20000 in
set_option maxHeartbeats 2000000 in
theorem e_RunSayer_about {g : am_G} {F : am_FT} (hF : F = am_F T0 g) {M : am_M} {a0 : Nat} {v1 : Int32} {v2 : Int32} {v3 : Int32} {r : am_R} (h : (
  am_rc g a0 11 <|
  am_ci (F 154 0 [.ref a0, .int v1] [] M) fun x2 M1 => /- RunSayer_noWay -/
  if x2 = 0 then
    am_ci (F 72 0 [.int v2, .int 0, .int 6] [] M1) fun x4 M3 => /- RunSayer_outside -/
    if x4 = 0 then
      am_ci (F 150 0 [.int v3] [] M3) fun x6 M5 => /- RunSayer_noHour -/
      if x6 = 0 then
        am_gR g a0 11 0 fun q7 =>
        am_rc g q7 0 <|
        am_ci (F 90 0 [.ref q7, .int v1, .int v2, .int v3] [] M5) fun x9 M8 => /- City_tellWay -/
        am_rt 1 x9 M8
      else
        am_rt 1 (-2) M5
    else
      am_rt 1 (-2) M3
  else
    am_rt 1 (-1) M1) = some r) : F 197 0 [.ref a0, .int v1, .int v2, .int v3] [] M = some r := am_inF hF t_RunSayer_about h
set_option maxRecDepth 20000 in
set_option maxHeartbeats 2000000 in
theorem e_RunSayer_answers {g : am_G} {F : am_FT} (hF : F = am_F T0 g) {M : am_M} {a0 : Nat} {v1 : Int32} {w2 : Int64} {v4 : Int32} {r : am_R} (h : (
  am_rc g a0 11 <|
  am_ci (F 154 0 [.ref a0, .int v1] [] M) fun x2 M1 => /- RunSayer_noWay -/
  if x2 = 0 then
    am_ci (F 104 0 [.long w2] [] M1) fun x4 M3 => /- Ledger_isWord -/
    if x4 = 0 then
      am_rt 1 (-2) M3
    else
      am_rc g a0 11 <|
      am_ci (F 155 0 [.ref a0, .int v4] [] M3) fun x6 M5 => /- RunSayer_notKnown -/
      if x6 = 0 then
        am_gR g a0 11 1 fun q7 =>
        am_rc g q7 3 <|
        am_ci (F 33 0 [.ref q7, .int v1, .long w2, .int v4] [] M5) fun x9 M8 => /- Ledger_answersTo -/
        if x9 = 0 then
          am_rt 1 0 M8
        else
          am_rt 1 1 M8
      else
        am_rt 1 (-2) M5
  else
    am_rt 1 (-1) M1) = some r) : F 198 0 [.ref a0, .int v1, .long w2, .int v4] [] M = some r := am_inF hF t_RunSayer_answers h
set_option maxRecDepth 20000 in
set_option maxHeartbeats 2000000 in
theorem e_RunSayer_ban {g : am_G} {F : am_FT} (hF : F = am_F T0 g) {M : am_M} {a0 : Nat} {v1 : Int32} {v2 : Int32} {v3 : Int32} {v4 : Int32} {r : am_R} (h : (
  am_rc g a0 11 <|
  am_ci (F 151 0 [.ref a0, .int v1] [] M) fun x2 M1 => /- RunSayer_noLeg -/
  if x2 = 0 then
    am_rc g a0 11 <|
    am_ci (F 151 0 [.ref a0, .int v2] [] M1) fun x4 M3 => /- RunSayer_noLeg -/
    if x4 = 0 then
      am_dv 100 <|
      am_dv 100 <|
      am_ci (F 150 0 [.int (v3 / 100)] [] M3) fun x6 M5 => /- RunSayer_noHour -/
      if x6 = 0 then
        am_ci (F 72 0 [.int (v3 - v3 / 100 * 100), .int ((v3 / 100) + 1), .int 24] [] M5) fun x8 M7 => /- RunSayer_outside -/
        if x8 = 0 then
          am_ci (F 72 0 [.int v4, .int 1, .int 127] [] M7) fun x10 M9 => /- RunSayer_outside -/
          if x10 = 0 then
            am_gR g a0 11 0 fun q11 =>
            am_rc g q11 0 <|
            am_ci (F 86 0 [.ref q11, .int v1, .int v2] [] M9) fun x13 M12 => /- City_follows -/
            if x13 = 0 then
              am_rt 1 (-3) M12
            else
              am_gR g a0 11 1 fun q14 =>
              am_rc g q14 3 <|
              am_ci (F 30 0 [.ref q14, .int v1, .int v2, .int (v3 / 100), .int (v3 - v3 / 100 * 100), .int v4] [] M12) fun x16 M15 => /- Ledger_addBan -/
              am_rt 1 x16 M15
          else
            am_rt 1 (-2) M9
        else
          am_rt 1 (-2) M7
      else
        am_rt 1 (-2) M5
    else
      am_rt 1 (-1) M3
  else
    am_rt 1 (-1) M1) = some r) : F 199 0 [.ref a0, .int v1, .int v2, .int v3, .int v4] [] M = some r := am_inF hF t_RunSayer_ban h
set_option maxRecDepth 20000 in
set_option maxHeartbeats 2000000 in
theorem e_RunSayer_cell {g : am_G} {F : am_FT} (hF : F = am_F T0 g) {M : am_M} {a0 : Nat} {v1 : Int32} {v2 : Int32} {v3 : Int32} {r : am_R} (h : (
  am_ci (F 153 0 [.int v1] [] M) fun x2 M1 => /- RunSayer_noSheet -/
  if x2 = 0 then
    am_gR g a0 11 16 fun q3 =>
    am_qa g q3 v1 fun q4 =>
    am_gI g M1 q4 8 0 fun x5 =>
    if x5 = (-1) then
      am_rt 1 (-11) M1
    else
      am_gR g a0 11 16 fun q6 =>
      am_qa g q6 v1 fun q7 =>
      am_gI g M1 q7 8 1 fun x8 =>
      am_ci (F 72 0 [.int v2, .int 0, .int (x8 - 1)] [] M1) fun x10 M9 => /- RunSayer_outside -/
      if x10 = 0 then
        am_gR g a0 11 16 fun q11 =>
        am_qa g q11 v1 fun q12 =>
        am_rc g q12 8 <|
        am_cv (F 75 0 [.ref q12, .int v2, .int v3] [] M9) fun M13 => /- Sheet_put -/
        am_rt 1 1 M13
      else
        am_rt 1 (-12) M9
  else
    am_rt 1 (-2) M1) = some r) : F 200 0 [.ref a0, .int v1, .int v2, .int v3] [] M = some r := am_inF hF t_RunSayer_cell h
set_option maxRecDepth 20000 in
set_option maxHeartbeats 2000000 in
theorem e_RunSayer_copy {g : am_G} {F : am_FT} (hF : F = am_F T0 g) {M : am_M} {a0 : Nat} {v1 : Int32} {v2 : Int32} {v3 : Int32} {v4 : Int32} {v5 : Int32} {r : am_R} (h : (
  am_ci (F 153 0 [.int v1] [] M) fun x2 M1 => /- RunSayer_noSheet -/
  if x2 = 0 then
    am_ci (F 153 0 [.int v3] [] M1) fun x4 M3 => /- RunSayer_noSheet -/
    if x4 = 0 then
      am_gR g a0 11 16 fun q5 =>
      am_qa g q5 v1 fun q6 =>
      am_gR g a0 11 16 fun q7 =>
      am_qa g q7 v3 fun q8 =>
      am_gI g M3 q6 8 0 fun x9 =>
      if x9 = (-1) then
        am_rt 1 (-11) M3
      else
        am_gI g M3 q8 8 0 fun x10 =>
        if x10 = (-1) then
          am_rt 1 (-11) M3
        else
          am_gI g M3 q6 8 0 fun x11 =>
          am_gI g M3 q8 8 0 fun x12 =>
          if x11 = x12 then
            am_rc g q6 8 <|
            am_ci (F 74 0 [.ref q6, .int v2, .int v5] [] M3) fun x14 M13 => /- Sheet_hasRow -/
            if x14 = 0 then
              am_rt 1 (-12) M13
            else
              am_rc g q8 8 <|
              am_ci (F 74 0 [.ref q8, .int v4, .int v5] [] M13) fun x16 M15 => /- Sheet_hasRow -/
              if x16 = 0 then
                am_rt 1 (-12) M15
              else
                am_gR g q6 8 2 fun q17 =>
                am_gR g q8 8 2 fun q18 =>
                am_cp g M15 q17 v2 q18 v4 v5 fun M19 =>
                am_rt 1 v5 M19
          else
            am_rt 1 (-13) M3
    else
      am_rt 1 (-2) M3
  else
    am_rt 1 (-2) M1) = some r) : F 201 0 [.ref a0, .int v1, .int v2, .int v3, .int v4, .int v5] [] M = some r := am_inF hF t_RunSayer_copy h
theorem e_RunSayer_cost {g : am_G} {F : am_FT} (hF : F = am_F T0 g) {M : am_M} {a0 : Nat} {v1 : Int32} {r : am_R} (h : (
  am_ci (F 148 0 [.int v1] [] M) fun x2 M1 => /- RunSayer_noBit -/
  if x2 = 0 then
    if v1 = 0 then
      am_gR g a0 11 6 fun q5 =>
      am_gI g M1 q5 6 6 fun x6 =>
      some (some (.long x6.toInt64), M1)
    else
      am_gR g a0 11 6 fun q3 =>
      am_gI g M1 q3 6 7 fun x4 =>
      some (some (.long x4.toInt64), M1)
  else
    some (some (.long (-4611686018427387904)), M1)) = some r) : F 202 0 [.ref a0, .int v1] [] M = some r := am_inF hF t_RunSayer_cost h
set_option maxRecDepth 20000 in
set_option maxHeartbeats 2000000 in
theorem e_RunSayer_door {g : am_G} {F : am_FT} (hF : F = am_F T0 g) {M : am_M} {a0 : Nat} {v1 : Int32} {v2 : Int32} {v3 : Int32} {r : am_R} (h : (
  am_rc g a0 11 <|
  am_ci (F 154 0 [.ref a0, .int v1] [] M) fun x2 M1 => /- RunSayer_noWay -/
  if x2 = 0 then
    am_gR g a0 11 0 fun q3 =>
    am_gR g q3 0 5 fun q4 =>
    am_ia g M1 q4 v1 fun x5 =>
    am_ci (F 72 0 [.int v2, .int 1, .int (x5 - 1)] [] M1) fun x7 M6 => /- RunSayer_outside -/
    if x7 = 0 then
      am_ci (F 148 0 [.int v3] [] M6) fun x9 M8 => /- RunSayer_noBit -/
      if x9 = 0 then
        am_gR g a0 11 0 fun q10 =>
        am_rc g q10 0 <|
        am_ci (F 83 0 [.ref q10, .int v1, .int v2, .int v3] [] M8) fun x12 M11 => /- City_addDoor -/
        am_rt 1 x12 M11
      else
        am_rt 1 (-2) M8
    else
      am_rt 1 (-2) M6
  else
    am_rt 1 (-1) M1) = some r) : F 203 0 [.ref a0, .int v1, .int v2, .int v3] [] M = some r := am_inF hF t_RunSayer_door h
set_option maxRecDepth 20000 in
set_option maxHeartbeats 2000000 in
theorem e_RunSayer_drivable {g : am_G} {F : am_FT} (hF : F = am_F T0 g) {M : am_M} {a0 : Nat} {v1 : Int32} {v2 : Int32} {v3 : Int32} {v4 : Int32} {r : am_R} (h : (
  am_rc g a0 11 <|
  am_ci (F 151 0 [.ref a0, .int v1] [] M) fun x2 M1 => /- RunSayer_noLeg -/
  if x2 = 0 then
    am_ci (F 72 0 [.int v2, .int 0, .int 299] [] M1) fun x4 M3 => /- RunSayer_outside -/
    if x4 = 0 then
      am_ci (F 150 0 [.int v3] [] M3) fun x6 M5 => /- RunSayer_noHour -/
      if x6 = 0 then
        am_rc g a0 11 <|
        am_ci (F 155 0 [.ref a0, .int v4] [] M5) fun x8 M7 => /- RunSayer_notKnown -/
        if x8 = 0 then
          am_gR g a0 11 0 fun q9 =>
          am_rc g q9 0 <|
          am_ci (F 88 0 [.ref q9, .int v1, .int v3] [] M7) fun x11 M10 => /- City_isPassable -/
          if x11 = 0 then
            am_rt 1 0 M10
          else
            am_gR g a0 11 1 fun q12 =>
            am_rc g q12 3 <|
            am_ci (F 35 0 [.ref q12, .int (v1 >>> ((1 : Int32) &&& 31)), .int v2, .int v4] [] M10) fun x14 M13 => /- Ledger_isShut -/
            if x14 = 0 then
              am_rt 1 1 M13
            else
              am_rt 1 0 M13
        else
          am_rt 1 (-2) M7
      else
        am_rt 1 (-2) M5
    else
      am_rt 1 (-2) M3
  else
    am_rt 1 (-1) M1) = some r) : F 204 0 [.ref a0, .int v1, .int v2, .int v3, .int v4] [] M = some r := am_inF hF t_RunSayer_drivable h
set_option maxRecDepth 20000 in
set_option maxHeartbeats 2000000 in
theorem e_RunSayer_junction {g : am_G} {F : am_FT} (hF : F = am_F T0 g) {M : am_M} {a0 : Nat} {v1 : Int32} {v2 : Int32} {v3 : Int32} {r : am_R} (h : (
  am_ci (F 72 0 [.int v1, .int 0, .int 99] [] M) fun x2 M1 => /- RunSayer_outside -/
  if x2 = 0 then
    am_ci (F 72 0 [.int v2, .int 0, .int 99] [] M1) fun x4 M3 => /- RunSayer_outside -/
    if x4 = 0 then
      am_ci (F 148 0 [.int v3] [] M3) fun x6 M5 => /- RunSayer_noBit -/
      if x6 = 0 then
        am_gR g a0 11 0 fun q7 =>
        am_rc g q7 0 <|
        am_ci (F 84 0 [.ref q7, .int v1, .int v2, .int v3] [] M5) fun x9 M8 => /- City_addJunction -/
        am_rt 1 x9 M8
      else
        am_rt 1 (-2) M5
    else
      am_rt 1 (-2) M3
  else
    am_rt 1 (-2) M1) = some r) : F 205 0 [.ref a0, .int v1, .int v2, .int v3] [] M = some r := am_inF hF t_RunSayer_junction h
set_option maxRecDepth 20000 in
set_option maxHeartbeats 2000000 in
theorem e_RunSayer_name {g : am_G} {F : am_FT} (hF : F = am_F T0 g) {M : am_M} {a0 : Nat} {v1 : Int32} {w2 : Int64} {r : am_R} (h : (
  am_rc g a0 11 <|
  am_ci (F 154 0 [.ref a0, .int v1] [] M) fun x2 M1 => /- RunSayer_noWay -/
  if x2 = 0 then
    am_ci (F 104 0 [.long w2] [] M1) fun x4 M3 => /- Ledger_isWord -/
    if x4 = 0 then
      am_rt 1 (-2) M3
    else
      am_gR g a0 11 1 fun q5 =>
      am_rc g q5 3 <|
      am_ci (F 31 0 [.ref q5, .int v1, .long w2] [] M3) fun x7 M6 => /- Ledger_addName -/
      am_rt 1 x7 M6
  else
    am_rt 1 (-1) M1) = some r) : F 206 0 [.ref a0, .int v1, .long w2] [] M = some r := am_inF hF t_RunSayer_name h
set_option maxRecDepth 20000 in
set_option maxHeartbeats 2000000 in
theorem e_RunSayer_read {g : am_G} {F : am_FT} (hF : F = am_F T0 g) {M : am_M} {a0 : Nat} {v1 : Int32} {v2 : Int32} {r : am_R} (h : (
  am_ci (F 153 0 [.int v1] [] M) fun x2 M1 => /- RunSayer_noSheet -/
  if x2 = 0 then
    am_gR g a0 11 16 fun q3 =>
    am_qa g q3 v1 fun q4 =>
    am_gI g M1 q4 8 1 fun x5 =>
    am_ci (F 72 0 [.int v2, .int 0, .int (x5 - 1)] [] M1) fun x7 M6 => /- RunSayer_outside -/
    if x7 = 0 then
      am_gR g a0 11 16 fun q8 =>
      am_qa g q8 v1 fun q9 =>
      am_gR g q9 8 2 fun q10 =>
      am_ia g M6 q10 v2 fun x11 =>
      am_rt 1 x11 M6
    else
      am_rt 1 0 M6
  else
    am_rt 1 (-2) M1) = some r) : F 207 0 [.ref a0, .int v1, .int v2] [] M = some r := am_inF hF t_RunSayer_read h
set_option maxRecDepth 20000 in
set_option maxHeartbeats 2000000 in
theorem e_RunSayer_ring {g : am_G} {F : am_FT} (hF : F = am_F T0 g) {M : am_M} {a0 : Nat} {v1 : Int32} {v2 : Int32} {r : am_R} (h : (
  am_gR g a0 11 0 fun q1 =>
  am_gI g M q1 0 3 fun x2 =>
  am_ci (F 72 0 [.int v1, .int 0, .int (x2 - 1)] [] M) fun x4 M3 => /- RunSayer_outside -/
  if x4 = 0 then
    am_ci (F 148 0 [.int v2] [] M3) fun x6 M5 => /- RunSayer_noBit -/
    if x6 = 0 then
      am_gR g a0 11 0 fun q7 =>
      am_gR g q7 0 2 fun q8 =>
      am_ia g M5 q8 v1 fun x9 =>
      am_gR g a0 11 0 fun q10 =>
      am_gR g q10 0 2 fun q11 =>
      am_is g M5 q11 v1 v2 fun M12 =>
      am_rt 1 x9 M12
    else
      am_rt 1 (-2) M5
  else
    am_rt 1 (-1) M3) = some r) : F 208 0 [.ref a0, .int v1, .int v2] [] M = some r := am_inF hF t_RunSayer_ring h
set_option maxRecDepth 20000 in
set_option maxHeartbeats 2000000 in
theorem e_RunSayer_sheet {g : am_G} {F : am_FT} (hF : F = am_F T0 g) {M : am_M} {a0 : Nat} {v1 : Int32} {v2 : Int32} {v3 : Int32} {r : am_R} (h : (
  am_ci (F 153 0 [.int v1] [] M) fun x2 M1 => /- RunSayer_noSheet -/
  if x2 = 0 then
    am_ci (F 72 0 [.int v2, .int (-1), .int 2] [] M1) fun x4 M3 => /- RunSayer_outside -/
    if x4 = 0 then
      if v2 = (-1) then
        am_gR g a0 11 16 fun q8 =>
        am_qa g q8 v1 fun q9 =>
        am_rc g q9 8 <|
        am_cv (F 73 0 [.ref q9, .int (-1), .int 0] [] M3) fun M10 => /- Sheet_become -/
        am_rt 1 1 M10
      else
        if v3 ≤ 100 then
          if 0 ≤ v3 then
            am_gR g a0 11 16 fun q5 =>
            am_qa g q5 v1 fun q6 =>
            am_rc g q6 8 <|
            am_cv (F 73 0 [.ref q6, .int v2, .int v3] [] M3) fun M7 => /- Sheet_become -/
            am_rt 1 1 M7
          else
            am_rt 1 (-14) M3
        else
          am_rt 1 (-2) M3
    else
      am_rt 1 (-2) M3
  else
    am_rt 1 (-2) M1) = some r) : F 209 0 [.ref a0, .int v1, .int v2, .int v3] [] M = some r := am_inF hF t_RunSayer_sheet h
set_option maxRecDepth 20000 in
set_option maxHeartbeats 2000000 in
theorem e_RunSayer_shut {g : am_G} {F : am_FT} (hF : F = am_F T0 g) {M : am_M} {a0 : Nat} {v1 : Int32} {v2 : Int32} {v3 : Int32} {r : am_R} (h : (
  am_rc g a0 11 <|
  am_ci (F 154 0 [.ref a0, .int v1] [] M) fun x2 M1 => /- RunSayer_noWay -/
  if x2 = 0 then
    if v2 < 0 then
      am_rt 1 (-2) M1
    else
      if 300 < v3 then
        am_rt 1 (-2) M1
      else
        if v2 < v3 then
          am_gR g a0 11 1 fun q3 =>
          am_rc g q3 3 <|
          am_ci (F 32 0 [.ref q3, .int v1, .int v2, .int v3] [] M1) fun x5 M4 => /- Ledger_addShut -/
          am_rt 1 x5 M4
        else
          am_rt 1 (-2) M1
  else
    am_rt 1 (-1) M1) = some r) : F 210 0 [.ref a0, .int v1, .int v2, .int v3] [] M = some r := am_inF hF t_RunSayer_shut h
set_option maxRecDepth 20000 in
set_option maxHeartbeats 2000000 in
theorem e_RunSayer_taken {g : am_G} {F : am_FT} (hF : F = am_F T0 g) {M : am_M} {a0 : Nat} {v1 : Int32} {v2 : Int32} {r : am_R} (h : (
  am_ci (F 72 0 [.int v2, .int 0, .int 8] [] M) fun x2 M1 => /- RunSayer_outside -/
  if x2 = 0 then
    am_gI g M1 a0 11 19 fun x3 =>
    am_pI g M1 a0 11 19 (x3 + 1) fun M4 =>
    am_gR g a0 11 0 fun q5 =>
    am_gI g M4 q5 0 17 fun x6 =>
    am_ci (F 72 0 [.int v1, .int 0, .int (x6 - 1)] [] M4) fun x8 M7 => /- RunSayer_outside -/
    if x8 = 0 then
      am_gR g a0 11 0 fun q9 =>
      am_rc g q9 0 <|
      am_ci (F 89 0 [.ref q9, .int v1, .int v2] [] M7) fun x11 M10 => /- City_takeThing -/
      am_rt 1 x11 M10
    else
      am_rt 1 (-11) M7
  else
    am_rt 1 (-2) M1) = some r) : F 211 0 [.ref a0, .int v1, .int v2] [] M = some r := am_inF hF t_RunSayer_taken h
set_option maxRecDepth 20000 in
set_option maxHeartbeats 2000000 in
theorem e_RunSayer_wasShut {g : am_G} {F : am_FT} (hF : F = am_F T0 g) {M : am_M} {a0 : Nat} {v1 : Int32} {v2 : Int32} {v3 : Int32} {r : am_R} (h : (
  am_rc g a0 11 <|
  am_ci (F 154 0 [.ref a0, .int v1] [] M) fun x2 M1 => /- RunSayer_noWay -/
  if x2 = 0 then
    am_ci (F 72 0 [.int v2, .int 0, .int 299] [] M1) fun x4 M3 => /- RunSayer_outside -/
    if x4 = 0 then
      am_rc g a0 11 <|
      am_ci (F 155 0 [.ref a0, .int v3] [] M3) fun x6 M5 => /- RunSayer_notKnown -/
      if x6 = 0 then
        am_gR g a0 11 1 fun q7 =>
        am_rc g q7 3 <|
        am_ci (F 35 0 [.ref q7, .int v1, .int v2, .int v3] [] M5) fun x9 M8 => /- Ledger_isShut -/
        if x9 = 0 then
          am_rt 1 0 M8
        else
          am_rt 1 1 M8
      else
        am_rt 1 (-2) M5
    else
      am_rt 1 (-2) M3
  else
    am_rt 1 (-1) M1) = some r) : F 212 0 [.ref a0, .int v1, .int v2, .int v3] [] M = some r := am_inF hF t_RunSayer_wasShut h
set_option maxRecDepth 20000 in
set_option maxHeartbeats 2000000 in
theorem e_RunSayer_way {g : am_G} {F : am_FT} (hF : F = am_F T0 g) {M : am_M} {a0 : Nat} {v1 : Int32} {v2 : Int32} {v3 : Int32} {v4 : Int32} {v5 : Int32} {r : am_R} (h : (
  am_gR g a0 11 0 fun q1 =>
  am_gI g M q1 0 3 fun x2 =>
  am_ci (F 72 0 [.int v2, .int 0, .int (x2 - 1)] [] M) fun x4 M3 => /- RunSayer_outside -/
  if x4 = 0 then
    am_gR g a0 11 0 fun q5 =>
    am_gI g M3 q5 0 3 fun x6 =>
    am_ci (F 72 0 [.int v3, .int 0, .int (x6 - 1)] [] M3) fun x8 M7 => /- RunSayer_outside -/
    if x8 = 0 then
      am_ci (F 72 0 [.int v1, .int 0, .int 5] [] M7) fun x10 M9 => /- RunSayer_outside -/
      if x10 = 0 then
        if v2 = v3 then
          am_rt 1 (-2) M9
        else
          am_ci (F 72 0 [.int v4, .int 2, .int 999] [] M9) fun x12 M11 => /- RunSayer_outside -/
          if x12 = 0 then
            am_ci (F 148 0 [.int v5] [] M11) fun x14 M13 => /- RunSayer_noBit -/
            if x14 = 0 then
              am_gR g a0 11 0 fun q15 =>
              am_rc g q15 0 <|
              am_ci (F 85 0 [.ref q15, .int v1, .int v2, .int v3, .int v4, .int v5] [] M13) fun x17 M16 => /- City_addWay -/
              am_rt 1 x17 M16
            else
              am_rt 1 (-2) M13
          else
            am_rt 1 (-2) M11
      else
        am_rt 1 (-2) M9
    else
      am_rt 1 (-1) M7
  else
    am_rt 1 (-1) M3) = some r) : F 213 0 [.ref a0, .int v1, .int v2, .int v3, .int v4, .int v5] [] M = some r := am_inF hF t_RunSayer_way h
set_option maxRecDepth 20000 in
set_option maxHeartbeats 2000000 in
theorem e_Speech_readSetDown {g : am_G} {F : am_FT} (hF : F = am_F T0 g) {M : am_M} {a0 : Nat} {a1 : Nat} {r : am_R} (h : (
  am_rc g a1 10 <|
  am_cv (F 162 0 [.ref a1] [] M) fun M1 => /- Tape_skipBlanks -/
  am_gI g M1 a1 10 2 fun x2 =>
  am_rc g a1 10 <|
  am_cj (F 165 0 [.ref a1] [] M1) fun l4 M3 => /- Tape_takeWord -/
  if (lg_cmp l4 1818584692) = 0 then
    if (lg_cmp l4 491394656372) = 0 then
      am_pI g M3 a0 9 1 1 fun M10 =>
      am_rc g a1 10 <|
      am_cv (F 162 0 [.ref a1] [] M10) fun M11 => /- Tape_skipBlanks -/
      am_rc g a1 10 <|
      am_ci (F 79 0 [.ref a1] [] M11) fun x13 M12 => /- Tape_isAtEnd -/
      if x13 = 0 then
        am_gI g M12 a1 10 2 fun x14 =>
        am_rt 1 x14 M12
      else
        am_rt 1 (-1) M12
    else
      am_pI g M3 a0 9 1 0 fun M5 =>
      am_rc g a1 10 <|
      am_cv (F 162 0 [.ref a1] [] M5) fun M6 => /- Tape_skipBlanks -/
      am_rc g a1 10 <|
      am_ci (F 79 0 [.ref a1] [] M6) fun x8 M7 => /- Tape_isAtEnd -/
      if x8 = 0 then
        am_gI g M7 a1 10 2 fun x9 =>
        am_rt 1 x9 M7
      else
        am_rt 1 (-1) M7
  else
    if (lg_cmp l4 491394656372) = 0 then
      if (lg_cmp l4 491394656372) = 0 then
        am_pI g M3 a0 9 1 1 fun M20 =>
        am_rc g a1 10 <|
        am_cv (F 162 0 [.ref a1] [] M20) fun M21 => /- Tape_skipBlanks -/
        am_rc g a1 10 <|
        am_ci (F 79 0 [.ref a1] [] M21) fun x23 M22 => /- Tape_isAtEnd -/
        if x23 = 0 then
          am_gI g M22 a1 10 2 fun x24 =>
          am_rt 1 x24 M22
        else
          am_rt 1 (-1) M22
      else
        am_pI g M3 a0 9 1 0 fun M15 =>
        am_rc g a1 10 <|
        am_cv (F 162 0 [.ref a1] [] M15) fun M16 => /- Tape_skipBlanks -/
        am_rc g a1 10 <|
        am_ci (F 79 0 [.ref a1] [] M16) fun x18 M17 => /- Tape_isAtEnd -/
        if x18 = 0 then
          am_gI g M17 a1 10 2 fun x19 =>
          am_rt 1 x19 M17
        else
          am_rt 1 (-1) M17
    else
      am_rt 1 x2 M3) = some r) : F 214 0 [.ref a0, .ref a1] [] M = some r := am_inF hF t_Speech_readSetDown h
set_option maxRecDepth 20000 in
set_option maxHeartbeats 2000000 in
theorem e_Speech_readTurn {g : am_G} {F : am_FT} (hF : F = am_F T0 g) {M : am_M} {a0 : Nat} {a1 : Nat} {w2 : Int64} {v4 : Int32} {r : am_R} (h : (
  am_ci (F 76 0 [.long w2] [] M) fun x2 M1 => /- Speech_turnOf -/
  if x2 = (-2) then
    am_rt 1 v4 M1
  else
    if x2 = (-1) then
      am_rc g a1 10 <|
      am_cv (F 162 0 [.ref a1] [] M1) fun M15 => /- Tape_skipBlanks -/
      am_rc g a1 10 <|
      am_ci (F 163 0 [.ref a1] [] M15) fun x17 M16 => /- Tape_takeLoneDigit -/
      if x17 = 0 then
        am_gI g M16 a1 10 2 fun x30 =>
        am_rt 1 x30 M16
      else
        am_rc g a1 10 <|
        am_cv (F 162 0 [.ref a1] [] M16) fun M18 => /- Tape_skipBlanks -/
        am_gI g M18 a1 10 2 fun x19 =>
        am_rc g a1 10 <|
        am_cj (F 165 0 [.ref a1] [] M18) fun l21 M20 => /- Tape_takeWord -/
        if (lg_cmp l21 0) = 0 then
          am_rt 1 x19 M20
        else
          am_gR g a0 9 3 fun q22 =>
          am_gI g M20 a0 9 2 fun x23 =>
          am_is g M20 q22 x23 (2 + x17) fun M24 =>
          am_gR g a0 9 4 fun q25 =>
          am_gI g M24 a0 9 2 fun x26 =>
          am_ls g M24 q25 x26 l21 fun M27 =>
          am_gI g M27 a0 9 2 fun x28 =>
          am_pI g M27 a0 9 2 (x28 + 1) fun M29 =>
          am_rt 1 (-1) M29
    else
      am_rc g a1 10 <|
      am_cv (F 162 0 [.ref a1] [] M1) fun M3 => /- Tape_skipBlanks -/
      am_gI g M3 a1 10 2 fun x4 =>
      am_rc g a1 10 <|
      am_cj (F 165 0 [.ref a1] [] M3) fun l6 M5 => /- Tape_takeWord -/
      if (lg_cmp l6 0) = 0 then
        am_rt 1 x4 M5
      else
        am_gR g a0 9 3 fun q7 =>
        am_gI g M5 a0 9 2 fun x8 =>
        am_is g M5 q7 x8 x2 fun M9 =>
        am_gR g a0 9 4 fun q10 =>
        am_gI g M9 a0 9 2 fun x11 =>
        am_ls g M9 q10 x11 l6 fun M12 =>
        am_gI g M12 a0 9 2 fun x13 =>
        am_pI g M12 a0 9 2 (x13 + 1) fun M14 =>
        am_rt 1 (-1) M14) = some r) : F 215 0 [.ref a0, .ref a1, .long w2, .int v4] [] M = some r := am_inF hF t_Speech_readTurn h
set_option maxRecDepth 20000 in
set_option maxHeartbeats 2000000 in
theorem e_City_howTurned {g : am_G} {F : am_FT} (hF : F = am_F T0 g) {M : am_M} {a0 : Nat} {v1 : Int32} {v2 : Int32} {r : am_R} (h : (
  am_gR g a0 0 2 fun q1 =>
  am_rc g a0 0 <|
  am_ci (F 4 0 [.ref a0, .int v1] [] M) fun x3 M2 => /- City_endOf -/
  am_ia g M2 q1 x3 fun x4 =>
  if x4 = 1 then
    am_rc g a0 0 <|
    am_ci (F 166 0 [.ref a0, .int v1, .int v2] [] M2) fun x10 M9 => /- City_exitsAhead -/
    am_rt 1 (3 + x10) M9
  else
    am_rc g a0 0 <|
    am_ci (F 2 0 [.ref a0, .int v1, .int v2] [] M2) fun x6 M5 => /- City_cross -/
    if 0 ≤ x6 then
      if x6 = 0 then
        am_rc g a0 0 <|
        am_ci (F 3 0 [.ref a0, .int v1, .int v2] [] M5) fun x8 M7 => /- City_dot -/
        if x8 ≤ 0 then
          am_rt 1 0 M7
        else
          am_rt 1 2 M7
      else
        am_rt 1 0 M5
    else
      am_rt 1 1 M5) = some r) : F 216 0 [.ref a0, .int v1, .int v2] [] M = some r := am_inF hF t_City_howTurned h
set_option maxRecDepth 20000 in
set_option maxHeartbeats 2000000 in
theorem e_Finder_findBest {g : am_G} {F : am_FT} (hF : F = am_F T0 g) {M : am_M} {a0 : Nat} {a1 : Nat} {v2 : Int32} {v3 : Int32} {v4 : Int32} {r : am_R} (h : (
  am_rc g a1 6 <|
  am_cv (F 67 0 [.ref a1, .int v2, .int v3] [] M) fun M1 => /- Route_begin -/
  am_rc g a0 2 <|
  am_cv (F 171 0 [.ref a0, .int v2, .int v3, .int v4] [] M1) fun M2 => /- Finder_spread -/
  am_gR g a0 2 0 fun q3 =>
  am_gR g q3 0 11 fun q4 =>
  am_ia g M2 q4 v2 fun x5 =>
  am_rc g a0 2 <|
  am_cj (F 167 0 [.ref a0, .int (2 * x5), .int v2, .int v3] [] M2) fun l7 M6 => /- Finder_costFrom -/
  am_rc g a0 2 <|
  am_cj (F 167 0 [.ref a0, .int ((2 * x5) + 1), .int v2, .int v3] [] M6) fun l9 M8 => /- Finder_costFrom -/
  if (lg_cmp l7 9223372036854775807) = 0 then
    if (lg_cmp l9 9223372036854775807) = 0 then
      am_rc g a0 2 <|
      am_cv (F 169 0 [.ref a0, .ref a1] [] M8) fun M10 => /- Finder_measure -/
      am_gI g M10 a1 6 5 fun x11 =>
      am_rt 1 x11 M10
    else
      am_rc g a0 2 <|
      am_cv (F 172 0 [.ref a0, .ref a1, .int ((2 * x5) + 1), .long l9] [] M8) fun M12 => /- Finder_trace -/
      am_rc g a0 2 <|
      am_cv (F 169 0 [.ref a0, .ref a1] [] M12) fun M13 => /- Finder_measure -/
      am_gI g M13 a1 6 5 fun x14 =>
      am_rt 1 x14 M13
  else
    if 0 < (lg_cmp l7 l9) then
      if (lg_cmp l9 9223372036854775807) = 0 then
        am_rc g a0 2 <|
        am_cv (F 169 0 [.ref a0, .ref a1] [] M8) fun M15 => /- Finder_measure -/
        am_gI g M15 a1 6 5 fun x16 =>
        am_rt 1 x16 M15
      else
        am_rc g a0 2 <|
        am_cv (F 172 0 [.ref a0, .ref a1, .int ((2 * x5) + 1), .long l9] [] M8) fun M17 => /- Finder_trace -/
        am_rc g a0 2 <|
        am_cv (F 169 0 [.ref a0, .ref a1] [] M17) fun M18 => /- Finder_measure -/
        am_gI g M18 a1 6 5 fun x19 =>
        am_rt 1 x19 M18
    else
      am_rc g a0 2 <|
      am_cv (F 172 0 [.ref a0, .ref a1, .int (2 * x5), .long l7] [] M8) fun M20 => /- Finder_trace -/
      am_rc g a0 2 <|
      am_cv (F 169 0 [.ref a0, .ref a1] [] M20) fun M21 => /- Finder_measure -/
      am_gI g M21 a1 6 5 fun x22 =>
      am_rt 1 x22 M21) = some r) : F 217 0 [.ref a0, .ref a1, .int v2, .int v3, .int v4] [] M = some r := am_inF hF t_Finder_findBest h
theorem e_Finder_setCity {g : am_G} {F : am_FT} (hF : F = am_F T0 g) {M : am_M} {a0 : Nat} {v1 : Int32} {v2 : Int32} {v3 : Int32} {r : am_R} (h : (
  am_rc g a0 2 <|
  am_cv (F 170 0 [.ref a0, .int v2] [] M) fun M1 => /- Finder_setHour -/
  F 218 8 [.ref a0, .int v1, .int v2, .int v3, .int 0] [] M1) = some r) : F 218 0 [.ref a0, .int v1, .int v2, .int v3] [] M = some r := am_inF hF t_Finder_setCity h
set_option maxRecDepth 20000 in
set_option maxHeartbeats 2000000 in
theorem e_Finder_setCity_8 {g : am_G} {F : am_FT} (hF : F = am_F T0 g) {M : am_M} {a0 : Nat} {v1 : Int32} {v2 : Int32} {v3 : Int32} {v4 : Int32} {r : am_R} (h : (
  am_gR g a0 2 0 fun q1 =>
  am_rc g q1 0 <|
  am_ci (F 10 0 [.ref q1] [] M) fun x3 M2 => /- City_legCount -/
  if x3 ≤ v4 then
    am_rc g a0 2 <|
    am_cv (F 21 0 [.ref a0] [] M2) fun M4 => /- Finder_unmark -/
    am_pZ g M4 a0 2 7 0 fun M5 =>
    F 218 76 [.ref a0, .int v1, .int v2, .int 0] [] M5
  else
    am_gR g a0 2 2 fun q6 =>
    am_gR g a0 2 2 fun q7 =>
    am_za g M2 q7 v4 fun x8 =>
    if x8 = 0 then
      am_zs g M2 q6 v4 0 fun M9 =>
      F 218 8 [.ref a0, .int v1, .int v2, .int v3, .int (v4 + 1)] [] M9
    else
      am_gR g a0 2 1 fun q10 =>
      am_rc g q10 3 <|
      am_ci (F 35 0 [.ref q10, .int (v4 >>> ((1 : Int32) &&& 31)), .int v1, .int v3] [] M2) fun x12 M11 => /- Ledger_isShut -/
      if x12 = 0 then
        am_zs g M11 q6 v4 1 fun M14 =>
        F 218 8 [.ref a0, .int v1, .int v2, .int v3, .int (v4 + 1)] [] M14
      else
        am_zs g M11 q6 v4 0 fun M13 =>
        F 218 8 [.ref a0, .int v1, .int v2, .int v3, .int (v4 + 1)] [] M13) = some r) : F 218 8 [.ref a0, .int v1, .int v2, .int v3, .int v4] [] M = some r := am_inF hF t_Finder_setCity h
set_option maxRecDepth 20000 in
set_option maxHeartbeats 2000000 in
theorem e_Finder_setCity_76 {g : am_G} {F : am_FT} (hF : F = am_F T0 g) {M : am_M} {a0 : Nat} {v1 : Int32} {v2 : Int32} {v4 : Int32} {r : am_R} (h : (
  am_gR g a0 2 1 fun q1 =>
  am_gI g M q1 3 16 fun x2 =>
  if x2 ≤ v4 then
    some (none, M)
  else
    am_gR g a0 2 1 fun q3 =>
    am_rc g q3 3 <|
    am_ci (F 34 0 [.ref q3, .int v4, .int v1, .int v2] [] M) fun x5 M4 => /- Ledger_isBanOn -/
    if x5 = 0 then
      F 218 76 [.ref a0, .int v1, .int v2, .int (v4 + 1)] [] M4
    else
      am_gR g a0 2 1 fun q6 =>
      am_gR g q6 3 10 fun q7 =>
      am_ia g M4 q7 v4 fun x8 =>
      am_gR g a0 2 1 fun q9 =>
      am_gR g q9 3 11 fun q10 =>
      am_ia g M4 q10 v4 fun x11 =>
      am_rc g a0 2 <|
      am_cv (F 18 0 [.ref a0, .int x8, .int x11] [] M4) fun M12 => /- Finder_mark -/
      F 218 76 [.ref a0, .int v1, .int v2, .int (v4 + 1)] [] M12) = some r) : F 218 76 [.ref a0, .int v1, .int v2, .int v4] [] M = some r := am_inF hF t_Finder_setCity h
theorem e_Finder_setHeld {g : am_G} {F : am_FT} (hF : F = am_F T0 g) {M : am_M} {a0 : Nat} {a1 : Nat} {a2 : Nat} {r : am_R} (h : (
  am_rc g a0 2 <|
  am_cv (F 21 0 [.ref a0] [] M) fun M1 => /- Finder_unmark -/
  am_pZ g M1 a0 2 7 1 fun M2 =>
  F 219 11 [.ref a0, .ref a1, .ref a2, .int 0] [] M2) = some r) : F 219 0 [.ref a0, .ref a1, .ref a2] [] M = some r := am_inF hF t_Finder_setHeld h
set_option maxRecDepth 20000 in
set_option maxHeartbeats 2000000 in
theorem e_Finder_setHeld_11 {g : am_G} {F : am_FT} (hF : F = am_F T0 g) {M : am_M} {a0 : Nat} {a1 : Nat} {a2 : Nat} {v3 : Int32} {r : am_R} (h : (
  am_gI g M a1 4 2 fun x1 =>
  if x1 ≤ v3 then
    some (none, M)
  else
    am_gR g a0 2 1 fun q2 =>
    am_gI g M q2 3 0 fun x3 =>
    am_rc g a2 5 <|
    am_ci (F 195 0 [.ref a2, .int v3, .int x3] [] M) fun x5 M4 => /- Pupil_isHeld -/
    if x5 = 0 then
      F 219 11 [.ref a0, .ref a1, .ref a2, .int (v3 + 1)] [] M4
    else
      am_gR g a1 4 0 fun q6 =>
      am_ia g M4 q6 v3 fun x7 =>
      am_gR g a1 4 1 fun q8 =>
      am_ia g M4 q8 v3 fun x9 =>
      am_rc g a0 2 <|
      am_cv (F 18 0 [.ref a0, .int x7, .int x9] [] M4) fun M10 => /- Finder_mark -/
      F 219 11 [.ref a0, .ref a1, .ref a2, .int (v3 + 1)] [] M10) = some r) : F 219 11 [.ref a0, .ref a1, .ref a2, .int v3] [] M = some r := am_inF hF t_Finder_setHeld h
theorem e_Finder_writeProof {g : am_G} {F : am_FT} (hF : F = am_F T0 g) {M : am_M} {a0 : Nat} {a1 : Nat} {v2 : Int32} {v3 : Int32} {r : am_R} (h : (
  am_rc g a0 2 <|
  am_cv (F 171 0 [.ref a0, .int v2, .int v3, .int 1] [] M) fun M1 => /- Finder_spread -/
  F 220 10 [.ref a0, .ref a1, .int 0] [] M1) = some r) : F 220 0 [.ref a0, .ref a1, .int v2, .int v3] [] M = some r := am_inF hF t_Finder_writeProof h
set_option maxRecDepth 20000 in
set_option maxHeartbeats 2000000 in
theorem e_Finder_writeProof_10 {g : am_G} {F : am_FT} (hF : F = am_F T0 g) {M : am_M} {a0 : Nat} {a1 : Nat} {v4 : Int32} {r : am_R} (h : (
  am_gR g a0 2 0 fun q1 =>
  am_rc g q1 0 <|
  am_ci (F 10 0 [.ref q1] [] M) fun x3 M2 => /- City_legCount -/
  if x3 ≤ v4 then
    some (none, M2)
  else
    am_ln g a1 fun x4 =>
    if x4 ≤ v4 then
      some (none, M2)
    else
      am_gR g a0 2 11 fun q5 =>
      am_la g M2 q5 v4 fun l6 =>
      if (lg_cmp l6 9223372036854775807) = 0 then
        am_is g M2 a1 v4 (-1) fun M10 =>
        F 220 10 [.ref a0, .ref a1, .int (v4 + 1)] [] M10
      else
        am_gR g a0 2 11 fun q7 =>
        am_la g M2 q7 v4 fun l8 =>
        am_is g M2 a1 v4 (l8 >>> ((32 : Int32).toInt64 &&& 63)).toInt32 fun M9 =>
        F 220 10 [.ref a0, .ref a1, .int (v4 + 1)] [] M9) = some r) : F 220 10 [.ref a0, .ref a1, .int v4] [] M = some r := am_inF hF t_Finder_writeProof h
theorem e_Links_heldCount {g : am_G} {F : am_FT} (hF : F = am_F T0 g) {M : am_M} {a0 : Nat} {a1 : Nat} {v2 : Int32} {r : am_R} (h : (
  F 221 5 [.ref a0, .ref a1, .int v2, .int 0, .int 0] [] M) = some r) : F 221 0 [.ref a0, .ref a1, .int v2] [] M = some r := am_inF hF t_Links_heldCount h
theorem e_Links_heldCount_5 {g : am_G} {F : am_FT} (hF : F = am_F T0 g) {M : am_M} {a0 : Nat} {a1 : Nat} {v2 : Int32} {v3 : Int32} {v4 : Int32} {r : am_R} (h : (
  am_gI g M a0 4 2 fun x1 =>
  if x1 ≤ v4 then
    am_rt 1 v3 M
  else
    am_rc g a1 5 <|
    am_ci (F 195 0 [.ref a1, .int v4, .int v2] [] M) fun x3 M2 => /- Pupil_isHeld -/
    if x3 = 0 then
      F 221 5 [.ref a0, .ref a1, .int v2, .int v3, .int (v4 + 1)] [] M2
    else
      F 221 5 [.ref a0, .ref a1, .int v2, .int (v3 + 1), .int (v4 + 1)] [] M2) = some r) : F 221 5 [.ref a0, .ref a1, .int v2, .int v3, .int v4] [] M = some r := am_inF hF t_Links_heldCount h
theorem e_Links_planRides {g : am_G} {F : am_FT} (hF : F = am_F T0 g) {M : am_M} {a0 : Nat} {a1 : Nat} {a2 : Nat} {v3 : Int32} {v4 : Int32} {v5 : Int32} {r : am_R} (h : (
  F 222 6 [.ref a0, .ref a1, .ref a2, .int v3, .int v4, .int v5, .int 1, .int 0] [] M) = some r) : F 222 0 [.ref a0, .ref a1, .ref a2, .int v3, .int v4, .int v5] [] M = some r := am_inF hF t_Links_planRides h
theorem e_Links_planRides_6 {g : am_G} {F : am_FT} (hF : F = am_F T0 g) {M : am_M} {a0 : Nat} {a1 : Nat} {a2 : Nat} {v3 : Int32} {v4 : Int32} {v5 : Int32} {v6 : Int32} {v7 : Int32} {r : am_R} (h : (
  if v3 ≤ v7 then
    F 222 33 [.ref a0, .ref a1, .ref a2, .int v3, .int v4, .int v5, .int v6, .int (-1), .int 0] [] M
  else
    am_gI g M a0 4 7 fun x1 =>
    F 222 6 [.ref a0, .ref a1, .ref a2, .int v3, .int v4, .int v5, .int (v6 * x1), .int (v7 + 1)] [] M) = some r) : F 222 6 [.ref a0, .ref a1, .ref a2, .int v3, .int v4, .int v5, .int v6, .int v7] [] M = some r := am_inF hF t_Links_planRides h
theorem e_Links_planRides_33 {g : am_G} {F : am_FT} (hF : F = am_F T0 g) {M : am_M} {a0 : Nat} {a1 : Nat} {a2 : Nat} {v3 : Int32} {v4 : Int32} {v5 : Int32} {v6 : Int32} {v7 : Int32} {v8 : Int32} {r : am_R} (h : (
  if v6 ≤ v8 then
    am_rt 1 v7 M
  else
    am_rc g a0 4 <|
    am_cv (F 36 0 [.ref a0, .int v8, .int v3] [] M) fun M1 => /- Links_chooseRow -/
    am_rc g a0 4 <|
    am_ci (F 175 0 [.ref a0, .ref a1, .int v3, .int v4, .int v5] [] M1) fun x3 M2 => /- Links_heldAfter -/
    if x3 ≤ v7 then
      F 222 33 [.ref a0, .ref a1, .ref a2, .int v3, .int v4, .int v5, .int v6, .int v7, .int (v8 + 1)] [] M2
    else
      F 222 73 [.ref a0, .ref a1, .ref a2, .int v3, .int v4, .int v5, .int v6, .int x3, .int v8, .int 0] [] M2) = some r) : F 222 33 [.ref a0, .ref a1, .ref a2, .int v3, .int v4, .int v5, .int v6, .int v7, .int v8] [] M = some r := am_inF hF t_Links_planRides h
theorem e_Links_planRides_73 {g : am_G} {F : am_FT} (hF : F = am_F T0 g) {M : am_M} {a0 : Nat} {a1 : Nat} {a2 : Nat} {v3 : Int32} {v4 : Int32} {v5 : Int32} {v6 : Int32} {v7 : Int32} {v8 : Int32} {v10 : Int32} {r : am_R} (h : (
  if v3 ≤ v10 then
    F 222 33 [.ref a0, .ref a1, .ref a2, .int v3, .int v4, .int v5, .int v6, .int v7, .int (v8 + 1)] [] M
  else
    am_gR g a0 4 6 fun q1 =>
    am_gR g a0 4 9 fun q2 =>
    am_ia g M q2 v10 fun x3 =>
    am_ia g M q1 x3 fun x4 =>
    am_is g M a2 v10 x4 fun M5 =>
    F 222 73 [.ref a0, .ref a1, .ref a2, .int v3, .int v4, .int v5, .int v6, .int v7, .int v8, .int (v10 + 1)] [] M5) = some r) : F 222 73 [.ref a0, .ref a1, .ref a2, .int v3, .int v4, .int v5, .int v6, .int v7, .int v8, .int v10] [] M = some r := am_inF hF t_Links_planRides h
set_option maxRecDepth 20000 in
set_option maxHeartbeats 2000000 in
theorem e_RunSayer_holds {g : am_G} {F : am_FT} (hF : F = am_F T0 g) {M : am_M} {a0 : Nat} {v1 : Int32} {v2 : Int32} {v3 : Int32} {v4 : Int32} {r : am_R} (h : (
  am_rc g a0 11 <|
  am_ci (F 152 0 [.ref a0, .int v1] [] M) fun x2 M1 => /- RunSayer_noPupil -/
  if x2 = 0 then
    am_rc g a0 11 <|
    am_ci (F 151 0 [.ref a0, .int v2] [] M1) fun x4 M3 => /- RunSayer_noLeg -/
    if x4 = 0 then
      am_rc g a0 11 <|
      am_ci (F 151 0 [.ref a0, .int v3] [] M3) fun x6 M5 => /- RunSayer_noLeg -/
      if x6 = 0 then
        am_gR g a0 11 1 fun q7 =>
        am_gI g M5 q7 3 0 fun x8 =>
        am_ci (F 72 0 [.int v4, .int x8, .int 2000] [] M5) fun x10 M9 => /- RunSayer_outside -/
        if x10 = 0 then
          am_gR g a0 11 3 fun q11 =>
          am_rc g q11 4 <|
          am_ci (F 39 0 [.ref q11, .int v2, .int v3] [] M9) fun x13 M12 => /- Links_numberOf -/
          if x13 < 0 then
            am_rt 1 0 M12
          else
            am_gR g a0 11 10 fun q14 =>
            am_qa g q14 v1 fun q15 =>
            am_rc g q15 5 <|
            am_ci (F 195 0 [.ref q15, .int x13, .int v4] [] M12) fun x17 M16 => /- Pupil_isHeld -/
            if x17 = 0 then
              am_rt 1 0 M16
            else
              am_rt 1 1 M16
        else
          am_rt 1 (-2) M9
      else
        am_rt 1 (-1) M5
    else
      am_rt 1 (-1) M3
  else
    am_rt 1 (-1) M1) = some r) : F 229 0 [.ref a0, .int v1, .int v2, .int v3, .int v4] [] M = some r := am_inF hF t_RunSayer_holds h
set_option maxRecDepth 20000 in
set_option maxHeartbeats 2000000 in
theorem e_RunSayer_junctions {g : am_G} {F : am_FT} (hF : F = am_F T0 g) {M : am_M} {a0 : Nat} {v1 : Int32} {v2 : Int32} {v3 : Int32} {v4 : Int32} {r : am_R} (h : (
  am_ci (F 153 0 [.int v1] [] M) fun x2 M1 => /- RunSayer_noSheet -/
  if x2 = 0 then
    am_ci (F 72 0 [.int v2, .int 0, .int 2] [] M1) fun x4 M3 => /- RunSayer_outside -/
    if x4 = 0 then
      am_ci (F 72 0 [.int v4, .int 0, .int 30] [] M3) fun x6 M5 => /- RunSayer_outside -/
      if x6 = 0 then
        am_gR g a0 11 16 fun q7 =>
        am_qa g q7 v1 fun q8 =>
        am_gI g M5 q8 8 0 fun x9 =>
        if x9 = (-1) then
          am_rt 1 (-11) M5
        else
          am_gI g M5 q8 8 0 fun x10 =>
          if x10 = v2 then
            F 230 68 [.ref a0, .int v3, .int v4, .ref q8, .int 0, .int 0] [] M5
          else
            am_rt 1 (-13) M5
      else
        am_rt 1 (-2) M5
    else
      am_rt 1 (-2) M3
  else
    am_rt 1 (-2) M1) = some r) : F 230 0 [.ref a0, .int v1, .int v2, .int v3, .int v4] [] M = some r := am_inF hF t_RunSayer_junctions h
set_option maxRecDepth 20000 in
set_option maxHeartbeats 2000000 in
theorem e_RunSayer_junctions_68 {g : am_G} {F : am_FT} (hF : F = am_F T0 g) {M : am_M} {a0 : Nat} {v3 : Int32} {v4 : Int32} {a5 : Nat} {v6 : Int32} {v7 : Int32} {r : am_R} (h : (
  if v4 ≤ v7 then
    am_rt 1 v6 M
  else
    if v3 < 0 then
      am_rt 1 (-12) M
    else
      if 100 < v3 then
        am_rt 1 (-12) M
      else
        am_rc g a5 8 <|
        am_ci (F 74 0 [.ref a5, .int (v3 + (3 * v7)), .int 3] [] M) fun x2 M1 => /- Sheet_hasRow -/
        if x2 = 0 then
          am_rt 1 (-12) M1
        else
          am_gR g a5 8 2 fun q3 =>
          am_ia g M1 q3 (v3 + (3 * v7)) fun x4 =>
          am_gR g a5 8 2 fun q5 =>
          am_ia g M1 q5 ((v3 + (3 * v7)) + 1) fun x6 =>
          am_gR g a5 8 2 fun q7 =>
          am_ia g M1 q7 ((v3 + (3 * v7)) + 2) fun x8 =>
          am_rc g a0 11 <|
          am_ci (F 205 0 [.ref a0, .int x4, .int x6, .int x8] [] M1) fun x10 M9 => /- RunSayer_junction -/
          if x10 < 0 then
            F 230 68 [.ref a0, .int v3, .int v4, .ref a5, .int v6, .int (v7 + 1)] [] M9
          else
            F 230 68 [.ref a0, .int v3, .int v4, .ref a5, .int (v6 + 1), .int (v7 + 1)] [] M9) = some r) : F 230 68 [.ref a0, .int v3, .int v4, .ref a5, .int v6, .int v7] [] M = some r := am_inF hF t_RunSayer_junctions h
set_option maxRecDepth 20000 in
set_option maxHeartbeats 2000000 in
theorem e_Speech_readFrom {g : am_G} {F : am_FT} (hF : F = am_F T0 g) {M : am_M} {a0 : Nat} {a1 : Nat} {r : am_R} (h : (
  am_pI g M a0 9 2 0 fun M1 =>
  am_pI g M1 a1 10 2 0 fun M2 =>
  am_rc g a1 10 <|
  am_cv (F 162 0 [.ref a1] [] M2) fun M3 => /- Tape_skipBlanks -/
  am_gI g M3 a1 10 2 fun x4 =>
  am_rc g a1 10 <|
  am_cj (F 165 0 [.ref a1] [] M3) fun l6 M5 => /- Tape_takeWord -/
  if (lg_cmp l6 465557354085) = 0 then
    am_rc g a1 10 <|
    am_cv (F 162 0 [.ref a1] [] M5) fun M7 => /- Tape_skipBlanks -/
    am_gI g M7 a1 10 2 fun x8 =>
    am_rc g a1 10 <|
    am_cj (F 165 0 [.ref a1] [] M7) fun l10 M9 => /- Tape_takeWord -/
    if (lg_cmp l10 30064) = 0 then
      if (lg_cmp l10 1685026670) = 0 then
        am_pI g M9 a0 9 0 1 fun M12 =>
        F 231 84 [.ref a0, .ref a1, .int x8, .int 0] [] M12
      else
        am_pI g M9 a0 9 0 0 fun M11 =>
        F 231 84 [.ref a0, .ref a1, .int x8, .int 0] [] M11
    else
      if (lg_cmp l10 1685026670) = 0 then
        if (lg_cmp l10 1685026670) = 0 then
          am_pI g M9 a0 9 0 1 fun M14 =>
          F 231 84 [.ref a0, .ref a1, .int x8, .int 0] [] M14
        else
          am_pI g M9 a0 9 0 0 fun M13 =>
          F 231 84 [.ref a0, .ref a1, .int x8, .int 0] [] M13
      else
        am_rt 1 x8 M9
  else
    am_rt 1 x4 M5) = some r) : F 231 0 [.ref a0, .ref a1] [] M = some r := am_inF hF t_Speech_readFrom h
set_option maxRecDepth 20000 in
set_option maxHeartbeats 2000000 in
theorem e_Speech_readFrom_84 {g : am_G} {F : am_FT} (hF : F = am_F T0 g) {M : am_M} {a0 : Nat} {a1 : Nat} {v2 : Int32} {v5 : Int32} {r : am_R} (h : (
  if 20 < v5 then
    am_rt 1 v2 M
  else
    am_rc g a1 10 <|
    am_cv (F 162 0 [.ref a1] [] M) fun M1 => /- Tape_skipBlanks -/
    am_gI g M1 a1 10 2 fun x2 =>
    am_rc g a1 10 <|
    am_cj (F 165 0 [.ref a1] [] M1) fun l4 M3 => /- Tape_takeWord -/
    if (lg_cmp l4 7562612) = 0 then
      am_rc g a0 9 <|
      am_ci (F 214 0 [.ref a0, .ref a1] [] M3) fun x8 M7 => /- Speech_readSetDown -/
      am_rt 1 x8 M7
    else
      if 20 ≤ v5 then
        if x2 < 0 then
          F 231 84 [.ref a0, .ref a1, .int x2, .int (v5 + 1)] [] M3
        else
          am_rt 1 x2 M3
      else
        am_rc g a0 9 <|
        am_ci (F 215 0 [.ref a0, .ref a1, .long l4, .int x2] [] M3) fun x6 M5 => /- Speech_readTurn -/
        if x6 < 0 then
          F 231 84 [.ref a0, .ref a1, .int x2, .int (v5 + 1)] [] M5
        else
          am_rt 1 x6 M5) = some r) : F 231 84 [.ref a0, .ref a1, .int v2, .int v5] [] M = some r := am_inF hF t_Speech_readFrom h
theorem e_Finder_legCalled {g : am_G} {F : am_FT} (hF : F = am_F T0 g) {M : am_M} {a0 : Nat} {v1 : Int32} {w2 : Int64} {v4 : Int32} {r : am_R} (h : (
  am_gR g a0 2 0 fun q1 =>
  am_rc g q1 0 <|
  am_ci (F 4 0 [.ref q1, .int v1] [] M) fun x3 M2 => /- City_endOf -/
  F 232 17 [.ref a0, .int v1, .long w2, .int v4, .int x3, .int (-2), .int 0] [] M2) = some r) : F 232 0 [.ref a0, .int v1, .long w2, .int v4] [] M = some r := am_inF hF t_Finder_legCalled h
set_option maxRecDepth 20000 in
set_option maxHeartbeats 2000000 in
theorem e_Finder_legCalled_17 {g : am_G} {F : am_FT} (hF : F = am_F T0 g) {M : am_M} {a0 : Nat} {v1 : Int32} {w2 : Int64} {v4 : Int32} {v5 : Int32} {v6 : Int32} {v7 : Int32} {r : am_R} (h : (
  am_gR g a0 2 0 fun q1 =>
  am_gR g q1 0 19 fun q2 =>
  am_ia g M q2 v5 fun x3 =>
  if x3 ≤ v7 then
    am_rt 1 v6 M
  else
    am_gR g a0 2 0 fun q4 =>
    am_rc g q4 0 <|
    am_ci (F 11 0 [.ref q4, .int v5, .int v7] [] M) fun x6 M5 => /- City_outLeg -/
    if (x6 >>> ((1 : Int32) &&& 31)) = (v1 >>> ((1 : Int32) &&& 31)) then
      F 232 17 [.ref a0, .int v1, .long w2, .int v4, .int v5, .int v6, .int (v7 + 1)] [] M5
    else
      am_gR g a0 2 1 fun q7 =>
      am_gR g a0 2 1 fun q8 =>
      am_gI g M5 q8 3 0 fun x9 =>
      am_rc g q7 3 <|
      am_ci (F 33 0 [.ref q7, .int (x6 >>> ((1 : Int32) &&& 31)), .long w2, .int x9] [] M5) fun x11 M10 => /- Ledger_answersTo -/
      if x11 = 0 then
        F 232 17 [.ref a0, .int v1, .long w2, .int v4, .int v5, .int v6, .int (v7 + 1)] [] M10
      else
        am_gR g a0 2 0 fun q12 =>
        am_rc g q12 0 <|
        am_ci (F 216 0 [.ref q12, .int v1, .int x6] [] M10) fun x14 M13 => /- City_howTurned -/
        if x14 = v4 then
          am_rt 1 x6 M13
        else
          F 232 17 [.ref a0, .int v1, .long w2, .int v4, .int v5, .int (-3), .int (v7 + 1)] [] M13) = some r) : F 232 17 [.ref a0, .int v1, .long w2, .int v4, .int v5, .int v6, .int v7] [] M = some r := am_inF hF t_Finder_legCalled h
theorem e_JString_charAt {g : am_G} {F : am_FT} (hF : F = am_F T0 g) {M : am_M} {a0 : Nat} {v1 : Int32} {r : am_R} (h : (
  am_rc g a0 13 <|
  am_ci (F 29 0 [.ref a0] [] M) fun x2 M1 => /- JString_isLatin1 -/
  if x2 = 0 then
    am_gS g a0 0 fun q3 =>
    none
  else
    am_gS g a0 0 fun q4 =>
    am_ci (F 173 0 [.ref q4, .int v1] [] M1) fun x6 M5 => /- JLatin1_charAt -/
    am_rt 6 x6 M5) = some r) : F 233 0 [.ref a0, .int v1] [] M = some r := am_inF hF t_JString_charAt h
set_option maxRecDepth 20000 in
set_option maxHeartbeats 2000000 in
theorem e_RunSayer_best {g : am_G} {F : am_FT} (hF : F = am_F T0 g) {M : am_M} {a0 : Nat} {v1 : Int32} {v2 : Int32} {v3 : Int32} {v4 : Int32} {r : am_R} (h : (
  am_rc g a0 11 <|
  am_ci (F 149 0 [.ref a0, .int v1, .int v2] [] M) fun x2 M1 => /- RunSayer_noDoors -/
  if x2 = 0 then
    if v1 = v2 then
      am_rt 1 (-2) M1
    else
      am_ci (F 150 0 [.int v3] [] M1) fun x4 M3 => /- RunSayer_noHour -/
      if x4 = 0 then
        am_ci (F 148 0 [.int v4] [] M3) fun x6 M5 => /- RunSayer_noBit -/
        if x6 = 0 then
          am_gR g a0 11 2 fun q7 =>
          am_gR g a0 11 1 fun q8 =>
          am_gI g M5 q8 3 0 fun x9 =>
          am_gR g a0 11 1 fun q10 =>
          am_gI g M5 q10 3 0 fun x11 =>
          am_rc g q7 2 <|
          am_cv (F 218 0 [.ref q7, .int x9, .int v3, .int x11] [] M5) fun M12 => /- Finder_setCity -/
          am_gR g a0 11 2 fun q13 =>
          am_gR g a0 11 6 fun q14 =>
          if v4 = 1 then
            am_rc g q13 2 <|
            am_ci (F 217 0 [.ref q13, .ref q14, .int v1, .int v2, .int 1] [] M12) fun x18 M17 => /- Finder_findBest -/
            am_rt 1 x18 M17
          else
            am_rc g q13 2 <|
            am_ci (F 217 0 [.ref q13, .ref q14, .int v1, .int v2, .int 0] [] M12) fun x16 M15 => /- Finder_findBest -/
            am_rt 1 x16 M15
        else
          am_rt 1 (-2) M5
      else
        am_rt 1 (-2) M3
  else
    am_rt 1 (-1) M1) = some r) : F 239 0 [.ref a0, .int v1, .int v2, .int v3, .int v4] [] M = some r := am_inF hF t_RunSayer_best h
set_option maxRecDepth 20000 in
set_option maxHeartbeats 2000000 in
theorem e_RunSayer_bestOn {g : am_G} {F : am_FT} (hF : F = am_F T0 g) {M : am_M} {a0 : Nat} {v1 : Int32} {v2 : Int32} {v3 : Int32} {v4 : Int32} {v5 : Int32} {r : am_R} (h : (
  am_rc g a0 11 <|
  am_ci (F 149 0 [.ref a0, .int v1, .int v2] [] M) fun x2 M1 => /- RunSayer_noDoors -/
  if x2 = 0 then
    am_dv 1000 <|
    am_dv 1000 <|
    if v1 = v2 then
      am_rt 1 (-2) M1
    else
      am_ci (F 72 0 [.int (v3 / 1000), .int 0, .int 299] [] M1) fun x4 M3 => /- RunSayer_outside -/
      if x4 = 0 then
        am_rc g a0 11 <|
        am_ci (F 155 0 [.ref a0, .int (v3 - v3 / 1000 * 1000)] [] M3) fun x6 M5 => /- RunSayer_notKnown -/
        if x6 = 0 then
          am_ci (F 150 0 [.int v4] [] M5) fun x8 M7 => /- RunSayer_noHour -/
          if x8 = 0 then
            am_ci (F 148 0 [.int v5] [] M7) fun x10 M9 => /- RunSayer_noBit -/
            if x10 = 0 then
              am_gR g a0 11 2 fun q11 =>
              am_rc g q11 2 <|
              am_cv (F 218 0 [.ref q11, .int (v3 / 1000), .int v4, .int (v3 - v3 / 1000 * 1000)] [] M9) fun M12 => /- Finder_setCity -/
              am_gR g a0 11 2 fun q13 =>
              am_gR g a0 11 6 fun q14 =>
              if v5 = 1 then
                am_rc g q13 2 <|
                am_ci (F 217 0 [.ref q13, .ref q14, .int v1, .int v2, .int 1] [] M12) fun x18 M17 => /- Finder_findBest -/
                am_rt 1 x18 M17
              else
                am_rc g q13 2 <|
                am_ci (F 217 0 [.ref q13, .ref q14, .int v1, .int v2, .int 0] [] M12) fun x16 M15 => /- Finder_findBest -/
                am_rt 1 x16 M15
            else
              am_rt 1 (-2) M9
          else
            am_rt 1 (-2) M7
        else
          am_rt 1 (-2) M5
      else
        am_rt 1 (-2) M3
  else
    am_rt 1 (-1) M1) = some r) : F 240 0 [.ref a0, .int v1, .int v2, .int v3, .int v4, .int v5] [] M = some r := am_inF hF t_RunSayer_bestOn h
set_option maxRecDepth 20000 in
set_option maxHeartbeats 2000000 in
theorem e_RunSayer_bound {g : am_G} {F : am_FT} (hF : F = am_F T0 g) {M : am_M} {a0 : Nat} {v1 : Int32} {v2 : Int32} {v3 : Int32} {v4 : Int32} {r : am_R} (h : (
  am_rc g a0 11 <|
  am_ci (F 149 0 [.ref a0, .int v1, .int v2] [] M) fun x2 M1 => /- RunSayer_noDoors -/
  if x2 = 0 then
    if v1 = v2 then
      am_rt 1 (-2) M1
    else
      am_ci (F 150 0 [.int v3] [] M1) fun x4 M3 => /- RunSayer_noHour -/
      if x4 = 0 then
        am_ci (F 153 0 [.int v4] [] M3) fun x6 M5 => /- RunSayer_noSheet -/
        if x6 = 0 then
          am_gR g a0 11 16 fun q7 =>
          am_qa g q7 v4 fun q8 =>
          am_gI g M5 q8 8 0 fun x9 =>
          if x9 = (-1) then
            am_rt 1 (-11) M5
          else
            am_gI g M5 q8 8 0 fun x10 =>
            if x10 = 2 then
              am_gI g M5 q8 8 1 fun x11 =>
              am_gR g a0 11 0 fun q12 =>
              am_rc g q12 0 <|
              am_ci (F 10 0 [.ref q12] [] M5) fun x14 M13 => /- City_legCount -/
              if x11 = x14 then
                am_gR g a0 11 2 fun q15 =>
                am_gR g a0 11 1 fun q16 =>
                am_gI g M13 q16 3 0 fun x17 =>
                am_gR g a0 11 1 fun q18 =>
                am_gI g M13 q18 3 0 fun x19 =>
                am_rc g q15 2 <|
                am_cv (F 218 0 [.ref q15, .int x17, .int v3, .int x19] [] M13) fun M20 => /- Finder_setCity -/
                am_gR g a0 11 2 fun q21 =>
                am_gR g q8 8 2 fun q22 =>
                am_rc g q21 2 <|
                am_ci (F 168 0 [.ref q21, .ref q22, .int v2] [] M20) fun x24 M23 => /- Finder_firstWrong -/
                if x24 < 0 then
                  am_gR g a0 11 2 fun q25 =>
                  am_gR g q8 8 2 fun q26 =>
                  am_rc g q25 2 <|
                  am_cj (F 95 0 [.ref q25, .ref q26, .int v1, .int v2] [] M23) fun l28 M27 => /- Finder_leastByProof -/
                  if (lg_cmp l28 9223372036854775807) = 0 then
                    am_rt 1 (-1) M27
                  else
                    am_cj (F 26 0 [.long l28, .long 2147483647] [] M27) fun l30 M29 => /- JMath_min_JJJ -/
                    am_rt 1 l30.toInt32 M29
                else
                  am_rt 1 ((-100) - x24) M23
              else
                am_rt 1 (-12) M13
            else
              am_rt 1 (-13) M5
        else
          am_rt 1 (-2) M5
      else
        am_rt 1 (-2) M3
  else
    am_rt 1 (-1) M1) = some r) : F 241 0 [.ref a0, .int v1, .int v2, .int v3, .int v4] [] M = some r := am_inF hF t_RunSayer_bound h
set_option maxRecDepth 20000 in
set_option maxHeartbeats 2000000 in
theorem e_RunSayer_knows {g : am_G} {F : am_FT} (hF : F = am_F T0 g) {M : am_M} {a0 : Nat} {v1 : Int32} {v2 : Int32} {r : am_R} (h : (
  am_rc g a0 11 <|
  am_ci (F 152 0 [.ref a0, .int v1] [] M) fun x2 M1 => /- RunSayer_noPupil -/
  if x2 = 0 then
    am_gR g a0 11 1 fun q3 =>
    am_gI g M1 q3 3 0 fun x4 =>
    am_ci (F 72 0 [.int v2, .int x4, .int 2000] [] M1) fun x6 M5 => /- RunSayer_outside -/
    if x6 = 0 then
      am_gR g a0 11 3 fun q7 =>
      am_gR g a0 11 10 fun q8 =>
      am_qa g q8 v1 fun q9 =>
      am_rc g q7 4 <|
      am_ci (F 221 0 [.ref q7, .ref q9, .int v2] [] M5) fun x11 M10 => /- Links_heldCount -/
      am_rt 1 x11 M10
    else
      am_rt 1 (-2) M5
  else
    am_rt 1 (-1) M1) = some r) : F 242 0 [.ref a0, .int v1, .int v2] [] M = some r := am_inF hF t_RunSayer_knows h
set_option maxRecDepth 20000 in
set_option maxHeartbeats 2000000 in
theorem e_RunSayer_markExam {g : am_G} {F : am_FT} (hF : F = am_F T0 g) {M : am_M} {a0 : Nat} {a1 : Nat} {r : am_R} (h : (
  am_gR g a1 1 5 fun q1 =>
  am_gR g a0 11 2 fun q2 =>
  am_gI g M q1 6 2 fun x3 =>
  am_gI g M q1 6 3 fun x4 =>
  am_gR g a0 11 1 fun q5 =>
  am_gI g M q5 3 0 fun x6 =>
  am_rc g q2 2 <|
  am_cv (F 218 0 [.ref q2, .int x3, .int x4, .int x6] [] M) fun M7 => /- Finder_setCity -/
  am_gR g a0 11 2 fun q8 =>
  am_rc g q8 2 <|
  am_ci (F 92 0 [.ref q8, .ref q1] [] M7) fun x10 M9 => /- Finder_allows -/
  if x10 = 0 then
    am_pI g M9 a1 1 3 1 fun M11 =>
    am_gR g a0 11 2 fun q12 =>
    am_gR g a0 11 7 fun q13 =>
    am_qa g q13 0 fun q14 =>
    am_gI g M11 q1 6 0 fun x15 =>
    am_gI g M11 q1 6 1 fun x16 =>
    am_rc g q12 2 <|
    am_ci (F 217 0 [.ref q12, .ref q14, .int x15, .int x16, .int 1] [] M11) fun x18 M17 => /- Finder_findBest -/
    am_gR g a0 11 7 fun q19 =>
    am_qa g q19 0 fun q20 =>
    am_rc g a1 1 <|
    am_cv (F 14 0 [.ref a1, .ref q20] [] M17) fun M21 => /- Exam_compare -/
    F 243 86 [.ref a0, .ref a1, .int 100, .int 0] [] M21
  else
    am_pI g M9 a1 1 3 0 fun M22 =>
    am_gR g a0 11 2 fun q23 =>
    am_gR g a0 11 7 fun q24 =>
    am_qa g q24 0 fun q25 =>
    am_gI g M22 q1 6 0 fun x26 =>
    am_gI g M22 q1 6 1 fun x27 =>
    am_rc g q23 2 <|
    am_ci (F 217 0 [.ref q23, .ref q25, .int x26, .int x27, .int 1] [] M22) fun x29 M28 => /- Finder_findBest -/
    am_gR g a0 11 7 fun q30 =>
    am_qa g q30 0 fun q31 =>
    am_rc g a1 1 <|
    am_cv (F 14 0 [.ref a1, .ref q31] [] M28) fun M32 => /- Exam_compare -/
    F 243 86 [.ref a0, .ref a1, .int 100, .int 0] [] M32) = some r) : F 243 0 [.ref a0, .ref a1] [] M = some r := am_inF hF t_RunSayer_markExam h
set_option maxRecDepth 20000 in
set_option maxHeartbeats 2000000 in
theorem e_RunSayer_markExam_86 {g : am_G} {F : am_FT} (hF : F = am_F T0 g) {M : am_M} {a0 : Nat} {a1 : Nat} {v3 : Int32} {v4 : Int32} {r : am_R} (h : (
  am_gI g M a0 11 13 fun x1 =>
  if x1 ≤ v4 then
    am_ci (F 24 0 [.int v3, .int 0] [] M) fun x3 M2 => /- JMath_max -/
    am_pI g M2 a1 1 1 x3 fun M4 =>
    am_gR g a0 11 1 fun q5 =>
    am_gI g M4 q5 3 0 fun x6 =>
    am_pI g M4 a1 1 2 x6 fun M7 =>
    some (none, M7)
  else
    am_gR g a0 11 12 fun q8 =>
    am_qa g q8 v4 fun q9 =>
    am_rc g q9 7 <|
    am_ci (F 196 0 [.ref q9, .ref a1] [] M) fun x11 M10 => /- Rule_appliesTo -/
    if x11 = 0 then
      F 243 86 [.ref a0, .ref a1, .int v3, .int (v4 + 1)] [] M10
    else
      am_gR g a0 11 12 fun q12 =>
      am_qa g q12 v4 fun q13 =>
      am_gI g M10 q13 7 0 fun x14 =>
      F 243 86 [.ref a0, .ref a1, .int (v3 - x14), .int (v4 + 1)] [] M10) = some r) : F 243 86 [.ref a0, .ref a1, .int v3, .int v4] [] M = some r := am_inF hF t_RunSayer_markExam h
set_option maxRecDepth 20000 in
set_option maxHeartbeats 2000000 in
theorem e_RunSayer_plan {g : am_G} {F : am_FT} (hF : F = am_F T0 g) {M : am_M} {a0 : Nat} {v1 : Int32} {v2 : Int32} {v3 : Int32} {v4 : Int32} {r : am_R} (h : (
  am_rc g a0 11 <|
  am_ci (F 152 0 [.ref a0, .int v1] [] M) fun x2 M1 => /- RunSayer_noPupil -/
  if x2 = 0 then
    am_gI g M1 a0 11 9 fun x3 =>
    if (v2 >>> (x3 &&& 31)) = 0 then
      am_ci (F 22 0 [.int v2] [] M1) fun x5 M4 => /- JInteger_bitCount -/
      am_ci (F 72 0 [.int x5, .int 1, .int 4] [] M4) fun x7 M6 => /- RunSayer_outside -/
      if x7 = 0 then
        am_ci (F 72 0 [.int v3, .int 1, .int 4] [] M6) fun x9 M8 => /- RunSayer_outside -/
        if x9 = 0 then
          am_gR g a0 11 1 fun q10 =>
          am_gI g M8 q10 3 0 fun x11 =>
          am_ci (F 72 0 [.int v4, .int ((x11 + v3) - 1), .int 2000] [] M8) fun x13 M12 => /- RunSayer_outside -/
          if x13 = 0 then
            am_gR g a0 11 3 fun q14 =>
            am_rc g q14 4 <|
            am_cv (F 37 0 [.ref q14, .int v2] [] M12) fun M15 => /- Links_gather -/
            am_pI g M15 a0 11 18 v3 fun M16 =>
            am_gR g a0 11 3 fun q17 =>
            am_gR g a0 11 10 fun q18 =>
            am_qa g q18 v1 fun q19 =>
            am_gR g a0 11 17 fun q20 =>
            am_gR g a0 11 1 fun q21 =>
            am_gI g M16 q21 3 0 fun x22 =>
            am_rc g q17 4 <|
            am_ci (F 222 0 [.ref q17, .ref q19, .ref q20, .int v3, .int x22, .int v4] [] M16) fun x24 M23 => /- Links_planRides -/
            am_rt 1 x24 M23
          else
            am_rt 1 (-2) M12
        else
          am_rt 1 (-2) M8
      else
        am_rt 1 (-2) M6
    else
      am_rt 1 (-1) M1
  else
    am_rt 1 (-1) M1) = some r) : F 244 0 [.ref a0, .int v1, .int v2, .int v3, .int v4] [] M = some r := am_inF hF t_RunSayer_plan h
set_option maxRecDepth 20000 in
set_option maxHeartbeats 2000000 in
theorem e_RunSayer_prove {g : am_G} {F : am_FT} (hF : F = am_F T0 g) {M : am_M} {a0 : Nat} {v1 : Int32} {v2 : Int32} {v3 : Int32} {r : am_R} (h : (
  am_rc g a0 11 <|
  am_ci (F 149 0 [.ref a0, .int v1, .int v2] [] M) fun x2 M1 => /- RunSayer_noDoors -/
  if x2 = 0 then
    if v1 = v2 then
      am_rt 1 (-2) M1
    else
      am_ci (F 150 0 [.int v3] [] M1) fun x4 M3 => /- RunSayer_noHour -/
      if x4 = 0 then
        am_gR g a0 11 2 fun q5 =>
        am_gR g a0 11 1 fun q6 =>
        am_gI g M3 q6 3 0 fun x7 =>
        am_gR g a0 11 1 fun q8 =>
        am_gI g M3 q8 3 0 fun x9 =>
        am_rc g q5 2 <|
        am_cv (F 218 0 [.ref q5, .int x7, .int v3, .int x9] [] M3) fun M10 => /- Finder_setCity -/
        am_gR g a0 11 0 fun q11 =>
        am_rc g q11 0 <|
        am_ci (F 10 0 [.ref q11] [] M10) fun x13 M12 => /- City_legCount -/
        am_gR g a0 11 16 fun q14 =>
        am_qa g q14 0 fun q15 =>
        am_rc g q15 8 <|
        am_cv (F 73 0 [.ref q15, .int 2, .int x13] [] M12) fun M16 => /- Sheet_become -/
        am_gR g a0 11 2 fun q17 =>
        am_gR g a0 11 16 fun q18 =>
        am_qa g q18 0 fun q19 =>
        am_gR g q19 8 2 fun q20 =>
        am_rc g q17 2 <|
        am_cv (F 220 0 [.ref q17, .ref q20, .int v1, .int v2] [] M16) fun M21 => /- Finder_writeProof -/
        am_rt 1 x13 M21
      else
        am_rt 1 (-2) M3
  else
    am_rt 1 (-1) M1) = some r) : F 245 0 [.ref a0, .int v1, .int v2, .int v3] [] M = some r := am_inF hF t_RunSayer_prove h
set_option maxRecDepth 20000 in
set_option maxHeartbeats 2000000 in
theorem e_RunSayer_ride {g : am_G} {F : am_FT} (hF : F = am_F T0 g) {M : am_M} {a0 : Nat} {v1 : Int32} {v2 : Int32} {r : am_R} (h : (
  am_rc g a0 11 <|
  am_ci (F 152 0 [.ref a0, .int v1] [] M) fun x2 M1 => /- RunSayer_noPupil -/
  if x2 = 0 then
    am_gI g M1 a0 11 9 fun x3 =>
    am_ci (F 72 0 [.int v2, .int 0, .int (x3 - 1)] [] M1) fun x5 M4 => /- RunSayer_outside -/
    if x5 = 0 then
      am_gR g a0 11 3 fun q6 =>
      am_gR g a0 11 10 fun q7 =>
      am_qa g q7 v1 fun q8 =>
      am_gR g a0 11 1 fun q9 =>
      am_gI g M4 q9 3 0 fun x10 =>
      am_rc g q6 4 <|
      am_cv (F 176 0 [.ref q6, .ref q8, .int v2, .int x10] [] M4) fun M11 => /- Links_rideRun -/
      am_gR g a0 11 3 fun q12 =>
      am_gR g a0 11 10 fun q13 =>
      am_qa g q13 v1 fun q14 =>
      am_gR g a0 11 1 fun q15 =>
      am_gI g M11 q15 3 0 fun x16 =>
      am_rc g q12 4 <|
      am_ci (F 221 0 [.ref q12, .ref q14, .int x16] [] M11) fun x18 M17 => /- Links_heldCount -/
      am_rt 1 x18 M17
    else
      am_rt 1 (-1) M4
  else
    am_rt 1 (-1) M1) = some r) : F 246 0 [.ref a0, .int v1, .int v2] [] M = some r := am_inF hF t_RunSayer_ride h
theorem e_RunSayer_sayByHeart {g : am_G} {F : am_FT} (hF : F = am_F T0 g) {M : am_M} {a0 : Nat} {a1 : Nat} {v2 : Int32} {v3 : Int32} {v4 : Int32} {r : am_R} (h : (
  am_gR g a0 11 2 fun q1 =>
  am_gR g a0 11 3 fun q2 =>
  am_gR g a0 11 10 fun q3 =>
  am_qa g q3 v2 fun q4 =>
  am_rc g q1 2 <|
  am_cv (F 219 0 [.ref q1, .ref q2, .ref q4] [] M) fun M5 => /- Finder_setHeld -/
  am_gR g a0 11 2 fun q6 =>
  am_rc g q6 2 <|
  am_ci (F 217 0 [.ref q6, .ref a1, .int v3, .int v4, .int 0] [] M5) fun x8 M7 => /- Finder_findBest -/
  am_rt 1 x8 M7) = some r) : F 247 0 [.ref a0, .ref a1, .int v2, .int v3, .int v4] [] M = some r := am_inF hF t_RunSayer_sayByHeart h
set_option maxRecDepth 20000 in
set_option maxHeartbeats 2000000 in
theorem e_RunSayer_turn {g : am_G} {F : am_FT} (hF : F = am_F T0 g) {M : am_M} {a0 : Nat} {v1 : Int32} {v2 : Int32} {r : am_R} (h : (
  am_rc g a0 11 <|
  am_ci (F 151 0 [.ref a0, .int v1] [] M) fun x2 M1 => /- RunSayer_noLeg -/
  if x2 = 0 then
    am_rc g a0 11 <|
    am_ci (F 151 0 [.ref a0, .int v2] [] M1) fun x4 M3 => /- RunSayer_noLeg -/
    if x4 = 0 then
      am_gR g a0 11 0 fun q5 =>
      am_rc g q5 0 <|
      am_ci (F 86 0 [.ref q5, .int v1, .int v2] [] M3) fun x7 M6 => /- City_follows -/
      if x7 = 0 then
        am_rt 1 (-3) M6
      else
        am_gR g a0 11 0 fun q8 =>
        am_rc g q8 0 <|
        am_ci (F 216 0 [.ref q8, .int v1, .int v2] [] M6) fun x10 M9 => /- City_howTurned -/
        am_rt 1 x10 M9
    else
      am_rt 1 (-1) M3
  else
    am_rt 1 (-1) M1) = some r) : F 248 0 [.ref a0, .int v1, .int v2] [] M = some r := am_inF hF t_RunSayer_turn h
set_option maxRecDepth 20000 in
set_option maxHeartbeats 2000000 in
theorem e_Finder_driveSpeech {g : am_G} {F : am_FT} (hF : F = am_F T0 g) {M : am_M} {a0 : Nat} {a1 : Nat} {a2 : Nat} {r : am_R} (h : (
  am_gR g a0 2 0 fun q1 =>
  am_gR g q1 0 11 fun q2 =>
  am_gI g M a2 6 0 fun x3 =>
  am_ia g M q2 x3 fun x4 =>
  am_gI g M a1 9 0 fun x5 =>
  am_gR g a0 2 2 fun q6 =>
  am_za g M q6 ((2 * x4) + x5) fun x7 =>
  if x7 = 0 then
    am_rt 1 1 M
  else
    am_rc g a2 6 <|
    am_cv (F 66 0 [.ref a2, .int ((2 * x4) + x5)] [] M) fun M8 => /- Route_add -/
    F 249 39 [.ref a0, .ref a1, .ref a2, .int ((2 * x4) + x5), .int 0] [] M8) = some r) : F 249 0 [.ref a0, .ref a1, .ref a2] [] M = some r := am_inF hF t_Finder_driveSpeech h
set_option maxRecDepth 20000 in
set_option maxHeartbeats 2000000 in
theorem e_Finder_driveSpeech_39 {g : am_G} {F : am_FT} (hF : F = am_F T0 g) {M : am_M} {a0 : Nat} {a1 : Nat} {a2 : Nat} {v3 : Int32} {v4 : Int32} {r : am_R} (h : (
  am_gI g M a1 9 2 fun x1 =>
  if x1 ≤ v4 then
    am_gI g M a1 9 1 fun x2 =>
    am_rc g a0 2 <|
    am_ci (F 101 0 [.ref a0, .int v3, .ref a2, .int x2] [] M) fun x4 M3 => /- Finder_whyNotSetDown -/
    if x4 = 0 then
      am_rt 1 0 M3
    else
      am_gI g M3 a1 9 2 fun x5 =>
      am_rt 1 ((10 * x5) + x4) M3
  else
    am_gR g a1 9 4 fun q6 =>
    am_la g M q6 v4 fun l7 =>
    am_gR g a1 9 3 fun q8 =>
    am_ia g M q8 v4 fun x9 =>
    am_rc g a0 2 <|
    am_ci (F 232 0 [.ref a0, .int v3, .long l7, .int x9] [] M) fun x11 M10 => /- Finder_legCalled -/
    if 0 ≤ x11 then
      am_rc g a0 2 <|
      am_ci (F 100 0 [.ref a0, .int v3, .int x11] [] M10) fun x13 M12 => /- Finder_whyNotInto -/
      if x13 = 0 then
        am_rc g a2 6 <|
        am_cv (F 66 0 [.ref a2, .int x11] [] M12) fun M14 => /- Route_add -/
        F 249 39 [.ref a0, .ref a1, .ref a2, .int x11, .int (v4 + 1)] [] M14
      else
        am_rt 1 ((10 * (v4 + 1)) + x13) M12
    else
      if (-x11) = 0 then
        am_rc g a2 6 <|
        am_cv (F 66 0 [.ref a2, .int x11] [] M10) fun M15 => /- Route_add -/
        F 249 39 [.ref a0, .ref a1, .ref a2, .int x11, .int (v4 + 1)] [] M15
      else
        am_rt 1 ((10 * (v4 + 1)) + (-x11)) M10) = some r) : F 249 39 [.ref a0, .ref a1, .ref a2, .int v3, .int v4] [] M = some r := am_inF hF t_Finder_driveSpeech h
set_option maxRecDepth 20000 in
set_option maxHeartbeats 2000000 in
theorem e_RunSayer_appeal {g : am_G} {F : am_FT} (hF : F = am_F T0 g) {M : am_M} {a0 : Nat} {v1 : Int32} {r : am_R} (h : (
  am_gI g M a0 11 15 fun x1 =>
  am_ci (F 72 0 [.int v1, .int 0, .int (x1 - 1)] [] M) fun x3 M2 => /- RunSayer_outside -/
  if x3 = 0 then
    am_gR g a0 11 14 fun q4 =>
    am_qa g q4 v1 fun q5 =>
    am_gI g M2 q5 1 1 fun x6 =>
    am_gR g a0 11 14 fun q7 =>
    am_qa g q7 v1 fun q8 =>
    am_rc g a0 11 <|
    am_cv (F 243 0 [.ref a0, .ref q8] [] M2) fun M9 => /- RunSayer_markExam -/
    am_gR g a0 11 14 fun q10 =>
    am_qa g q10 v1 fun q11 =>
    am_gI g M9 q11 1 1 fun x12 =>
    am_rt 1 (x12 - x6) M9
  else
    am_rt 1 (-1) M2) = some r) : F 253 0 [.ref a0, .int v1] [] M = some r := am_inF hF t_RunSayer_appeal h
set_option maxRecDepth 20000 in
set_option maxHeartbeats 2000000 in
theorem e_RunSayer_ask {g : am_G} {F : am_FT} (hF : F = am_F T0 g) {M : am_M} {a0 : Nat} {v1 : Int32} {v2 : Int32} {v3 : Int32} {v4 : Int32} {r : am_R} (h : (
  am_rc g a0 11 <|
  am_ci (F 152 0 [.ref a0, .int v1] [] M) fun x2 M1 => /- RunSayer_noPupil -/
  if x2 = 0 then
    am_rc g a0 11 <|
    am_ci (F 149 0 [.ref a0, .int v2, .int v3] [] M1) fun x4 M3 => /- RunSayer_noDoors -/
    if x4 = 0 then
      if v2 = v3 then
        am_rt 1 (-2) M3
      else
        am_ci (F 150 0 [.int v4] [] M3) fun x6 M5 => /- RunSayer_noHour -/
        if x6 = 0 then
          am_gI g M5 a0 11 15 fun x7 =>
          if x7 < 24 then
            am_gR g a0 11 14 fun q8 =>
            am_gI g M5 a0 11 15 fun x9 =>
            am_qa g q8 x9 fun q10 =>
            am_pI g M5 q10 1 0 v1 fun M11 =>
            am_gR g a0 11 2 fun q12 =>
            am_rc g q12 2 <|
            am_cv (F 170 0 [.ref q12, .int v4] [] M11) fun M13 => /- Finder_setHour -/
            am_gR g q10 1 5 fun q14 =>
            am_rc g a0 11 <|
            am_ci (F 247 0 [.ref a0, .ref q14, .int v1, .int v2, .int v3] [] M13) fun x16 M15 => /- RunSayer_sayByHeart -/
            am_gR g q10 1 5 fun q17 =>
            am_gR g a0 11 1 fun q18 =>
            am_gI g M15 q18 3 0 fun x19 =>
            am_rc g q17 6 <|
            am_cv (F 69 0 [.ref q17, .int x19, .int v4] [] M15) fun M20 => /- Route_setTime -/
            am_rc g a0 11 <|
            am_cv (F 243 0 [.ref a0, .ref q10] [] M20) fun M21 => /- RunSayer_markExam -/
            am_gI g M21 a0 11 15 fun x22 =>
            am_pI g M21 a0 11 15 (x22 + 1) fun M23 =>
            am_gI g M23 a0 11 15 fun x24 =>
            am_rt 1 (x24 - 1) M23
          else
            am_rt 1 (-4) M5
        else
          am_rt 1 (-2) M5
    else
      am_rt 1 (-1) M3
  else
    am_rt 1 (-1) M1) = some r) : F 254 0 [.ref a0, .int v1, .int v2, .int v3, .int v4] [] M = some r := am_inF hF t_RunSayer_ask h
theorem e_RunSayer_mostAlike {g : am_G} {F : am_FT} (hF : F = am_F T0 g) {M : am_M} {a0 : Nat} {v1 : Int32} {v2 : Int32} {v3 : Int32} {r : am_R} (h : (
  F 255 6 [.ref a0, .int v1, .int v2, .int v3, .int 0, .int 0] [] M) = some r) : F 255 0 [.ref a0, .int v1, .int v2, .int v3] [] M = some r := am_inF hF t_RunSayer_mostAlike h
theorem e_RunSayer_mostAlike_6 {g : am_G} {F : am_FT} (hF : F = am_F T0 g) {M : am_M} {a0 : Nat} {v1 : Int32} {v2 : Int32} {v3 : Int32} {v4 : Int32} {v5 : Int32} {r : am_R} (h : (
  am_gI g M a0 11 11 fun x1 =>
  if x1 ≤ v5 then
    am_rt 1 v4 M
  else
    if ((v1 >>> (v5 &&& 31)) &&& 1) = 0 then
      F 255 6 [.ref a0, .int v1, .int v2, .int v3, .int v4, .int (v5 + 1)] [] M
    else
      am_gR g a0 11 7 fun q2 =>
      am_qa g q2 v5 fun q3 =>
      am_rc g a0 11 <|
      am_ci (F 247 0 [.ref a0, .ref q3, .int v5, .int v2, .int v3] [] M) fun x5 M4 => /- RunSayer_sayByHeart -/
      F 255 49 [.ref a0, .int v1, .int v2, .int v3, .int v4, .int v5, .int 1, .int 0] [] M4) = some r) : F 255 6 [.ref a0, .int v1, .int v2, .int v3, .int v4, .int v5] [] M = some r := am_inF hF t_RunSayer_mostAlike h
theorem e_RunSayer_mostAlike_49 {g : am_G} {F : am_FT} (hF : F = am_F T0 g) {M : am_M} {a0 : Nat} {v1 : Int32} {v2 : Int32} {v3 : Int32} {v4 : Int32} {v5 : Int32} {v6 : Int32} {v7 : Int32} {r : am_R} (h : (
  if v5 ≤ v7 then
    am_ci (F 24 0 [.int v4, .int v6] [] M) fun x2 M1 => /- JMath_max -/
    F 255 6 [.ref a0, .int v1, .int v2, .int v3, .int x2, .int (v5 + 1)] [] M1
  else
    if ((v1 >>> (v7 &&& 31)) &&& 1) = 1 then
      am_gR g a0 11 7 fun q3 =>
      am_qa g q3 v5 fun q4 =>
      am_gR g a0 11 7 fun q5 =>
      am_qa g q5 v7 fun q6 =>
      am_rc g q4 6 <|
      am_ci (F 68 0 [.ref q4, .ref q6] [] M) fun x8 M7 => /- Route_isLike -/
      if x8 = 0 then
        F 255 49 [.ref a0, .int v1, .int v2, .int v3, .int v4, .int v5, .int v6, .int (v7 + 1)] [] M7
      else
        F 255 49 [.ref a0, .int v1, .int v2, .int v3, .int v4, .int v5, .int (v6 + 1), .int (v7 + 1)] [] M7
    else
      F 255 49 [.ref a0, .int v1, .int v2, .int v3, .int v4, .int v5, .int v6, .int (v7 + 1)] [] M) = some r) : F 255 49 [.ref a0, .int v1, .int v2, .int v3, .int v4, .int v5, .int v6, .int v7] [] M = some r := am_inF hF t_RunSayer_mostAlike h
set_option maxRecDepth 20000 in
set_option maxHeartbeats 2000000 in
theorem e_RunSayer_wouldSay {g : am_G} {F : am_FT} (hF : F = am_F T0 g) {M : am_M} {a0 : Nat} {v1 : Int32} {v2 : Int32} {v3 : Int32} {v4 : Int32} {r : am_R} (h : (
  am_rc g a0 11 <|
  am_ci (F 152 0 [.ref a0, .int v1] [] M) fun x2 M1 => /- RunSayer_noPupil -/
  if x2 = 0 then
    am_rc g a0 11 <|
    am_ci (F 149 0 [.ref a0, .int v2, .int v3] [] M1) fun x4 M3 => /- RunSayer_noDoors -/
    if x4 = 0 then
      if v2 = v3 then
        am_rt 1 (-2) M3
      else
        am_ci (F 150 0 [.int v4] [] M3) fun x6 M5 => /- RunSayer_noHour -/
        if x6 = 0 then
          am_gR g a0 11 2 fun q7 =>
          am_rc g q7 2 <|
          am_cv (F 170 0 [.ref q7, .int v4] [] M5) fun M8 => /- Finder_setHour -/
          am_gR g a0 11 6 fun q9 =>
          am_rc g a0 11 <|
          am_ci (F 247 0 [.ref a0, .ref q9, .int v1, .int v2, .int v3] [] M8) fun x11 M10 => /- RunSayer_sayByHeart -/
          am_rt 1 x11 M10
        else
          am_rt 1 (-2) M5
    else
      am_rt 1 (-1) M3
  else
    am_rt 1 (-1) M1) = some r) : F 256 0 [.ref a0, .int v1, .int v2, .int v3, .int v4] [] M = some r := am_inF hF t_RunSayer_wouldSay h
theorem e_Tape_takesText {g : am_G} {F : am_FT} (hF : F = am_F T0 g) {M : am_M} {a0 : Nat} {a1 : Nat} {r : am_R} (h : (
  F 257 2 [.ref a0, .ref a1, .int 0] [] M) = some r) : F 257 0 [.ref a0, .ref a1] [] M = some r := am_inF hF t_Tape_takesText h
set_option maxRecDepth 20000 in
set_option maxHeartbeats 2000000 in
theorem e_Tape_takesText_2 {g : am_G} {F : am_FT} (hF : F = am_F T0 g) {M : am_M} {a0 : Nat} {a1 : Nat} {v2 : Int32} {r : am_R} (h : (
  am_rc g a1 13 <|
  am_ci (F 103 0 [.ref a1] [] M) fun x2 M1 => /- JString_length -/
  if x2 ≤ v2 then
    am_rt 2 1 M1
  else
    am_gI g M1 a0 10 2 fun x3 =>
    am_rc g a0 10 <|
    am_ci (F 82 0 [.ref a0, .int x3] [] M1) fun x5 M4 => /- Tape_signAt -/
    am_rc g a1 13 <|
    am_ci (F 233 0 [.ref a1, .int v2] [] M4) fun x7 M6 => /- JString_charAt -/
    if x5 = x7 then
      am_gI g M6 a0 10 2 fun x8 =>
      am_pI g M6 a0 10 2 (x8 + 1) fun M9 =>
      F 257 2 [.ref a0, .ref a1, .int (v2 + 1)] [] M9
    else
      am_rt 2 0 M6) = some r) : F 257 2 [.ref a0, .ref a1, .int v2] [] M = some r := am_inF hF t_Tape_takesText h
set_option maxRecDepth 20000 in
set_option maxHeartbeats 2000000 in
theorem e_Rule_readComparison {g : am_G} {F : am_FT} (hF : F = am_F T0 g) {M : am_M} {a0 : Nat} {a1 : Nat} {v2 : Int32} {r : am_R} (h : (
  am_rc g a1 10 <|
  am_ci (F 257 0 [.ref a1, .ref 1000009] [] M) fun x2 M1 => /- Tape_takesText -/
  if x2 = 0 then
    am_rc g a1 10 <|
    am_ci (F 257 0 [.ref a1, .ref 1000010] [] M1) fun x4 M3 => /- Tape_takesText -/
    if x4 = 0 then
      am_rc g a1 10 <|
      am_ci (F 257 0 [.ref a1, .ref 1000011] [] M3) fun x6 M5 => /- Tape_takesText -/
      if x6 = 0 then
        am_rt 2 0 M5
      else
        am_gR g a0 7 3 fun q7 =>
        am_is g M5 q7 v2 1 fun M8 =>
        am_gR g a0 7 4 fun q9 =>
        am_rc g a1 10 <|
        am_ci (F 164 0 [.ref a1] [] M8) fun x11 M10 => /- Tape_takeNumber -/
        am_is g M10 q9 v2 x11 fun M12 =>
        am_gR g a0 7 4 fun q13 =>
        am_ia g M12 q13 v2 fun x14 =>
        if x14 < 0 then
          am_rt 2 0 M12
        else
          am_rt 2 1 M12
    else
      am_gR g a0 7 3 fun q15 =>
      am_is g M3 q15 v2 (-1) fun M16 =>
      am_gR g a0 7 4 fun q17 =>
      am_rc g a1 10 <|
      am_ci (F 164 0 [.ref a1] [] M16) fun x19 M18 => /- Tape_takeNumber -/
      am_is g M18 q17 v2 x19 fun M20 =>
      am_gR g a0 7 4 fun q21 =>
      am_ia g M20 q21 v2 fun x22 =>
      if x22 < 0 then
        am_rt 2 0 M20
      else
        am_rt 2 1 M20
  else
    am_gR g a0 7 3 fun q23 =>
    am_is g M1 q23 v2 0 fun M24 =>
    am_gR g a0 7 4 fun q25 =>
    am_rc g a1 10 <|
    am_ci (F 164 0 [.ref a1] [] M24) fun x27 M26 => /- Tape_takeNumber -/
    am_is g M26 q25 v2 x27 fun M28 =>
    am_gR g a0 7 4 fun q29 =>
    am_ia g M28 q29 v2 fun x30 =>
    if x30 < 0 then
      am_rt 2 0 M28
    else
      am_rt 2 1 M28) = some r) : F 261 0 [.ref a0, .ref a1, .int v2] [] M = some r := am_inF hF t_Rule_readComparison h
set_option maxRecDepth 20000 in
set_option maxHeartbeats 2000000 in
theorem e_RunSayer_parting {g : am_G} {F : am_FT} (hF : F = am_F T0 g) {M : am_M} {a0 : Nat} {v1 : Int32} {v2 : Int32} {r : am_R} (h : (
  if v1 = 0 then
    am_rt 1 (-1) M
  else
    am_gI g M a0 11 11 fun x1 =>
    if (v1 >>> (x1 &&& 31)) = 0 then
      am_ci (F 150 0 [.int v2] [] M) fun x3 M2 => /- RunSayer_noHour -/
      if x3 = 0 then
        am_gR g a0 11 2 fun q4 =>
        am_rc g q4 2 <|
        am_cv (F 170 0 [.ref q4, .int v2] [] M2) fun M5 => /- Finder_setHour -/
        am_ci (F 22 0 [.int v1] [] M5) fun x7 M6 => /- JInteger_bitCount -/
        F 262 45 [.ref a0, .int v1, .int x7, .int (-3), .int 0] [] M6
      else
        am_rt 1 (-2) M2
    else
      am_rt 1 (-1) M) = some r) : F 262 0 [.ref a0, .int v1, .int v2] [] M = some r := am_inF hF t_RunSayer_parting h
theorem e_RunSayer_parting_45 {g : am_G} {F : am_FT} (hF : F = am_F T0 g) {M : am_M} {a0 : Nat} {v1 : Int32} {v3 : Int32} {v4 : Int32} {v5 : Int32} {r : am_R} (h : (
  am_gR g a0 11 0 fun q1 =>
  am_gI g M q1 0 14 fun x2 =>
  if x2 ≤ v5 then
    am_rt 1 v4 M
  else
    F 262 60 [.ref a0, .int v1, .int v3, .int v4, .int v5, .int 0] [] M) = some r) : F 262 45 [.ref a0, .int v1, .int v3, .int v4, .int v5] [] M = some r := am_inF hF t_RunSayer_parting h
theorem e_RunSayer_parting_60 {g : am_G} {F : am_FT} (hF : F = am_F T0 g) {M : am_M} {a0 : Nat} {v1 : Int32} {v3 : Int32} {v4 : Int32} {v5 : Int32} {v6 : Int32} {r : am_R} (h : (
  am_gR g a0 11 0 fun q1 =>
  am_gI g M q1 0 14 fun x2 =>
  if x2 ≤ v6 then
    F 262 45 [.ref a0, .int v1, .int v3, .int v4, .int (v5 + 1)] [] M
  else
    if v3 ≤ 1 then
      F 262 45 [.ref a0, .int v1, .int v3, .int v4, .int (v5 + 1)] [] M
    else
      if v5 = v6 then
        if v3 ≤ v3 then
          F 262 60 [.ref a0, .int v1, .int v3, .int v4, .int v5, .int (v6 + 1)] [] M
        else
          F 262 60 [.ref a0, .int v1, .int v3, .int ((10 * v5) + v6), .int v5, .int (v6 + 1)] [] M
      else
        am_rc g a0 11 <|
        am_ci (F 255 0 [.ref a0, .int v1, .int v5, .int v6] [] M) fun x4 M3 => /- RunSayer_mostAlike -/
        if v3 ≤ x4 then
          F 262 60 [.ref a0, .int v1, .int v3, .int v4, .int v5, .int (v6 + 1)] [] M3
        else
          F 262 60 [.ref a0, .int v1, .int x4, .int ((10 * v5) + v6), .int v5, .int (v6 + 1)] [] M3) = some r) : F 262 60 [.ref a0, .int v1, .int v3, .int v4, .int v5, .int v6] [] M = some r := am_inF hF t_RunSayer_parting h
set_option maxRecDepth 20000 in
set_option maxHeartbeats 2000000 in
theorem e_RunSayer_say {g : am_G} {F : am_FT} (hF : F = am_F T0 g) {M : am_M} {a0 : Nat} {v1 : Int32} {v2 : Int32} {v3 : Int32} {r : am_R} (h : (
  am_rc g a0 11 <|
  am_ci (F 149 0 [.ref a0, .int v1, .int v2] [] M) fun x2 M1 => /- RunSayer_noDoors -/
  if x2 = 0 then
    if v1 = v2 then
      am_rt 1 (-2) M1
    else
      am_ci (F 150 0 [.int v3] [] M1) fun x4 M3 => /- RunSayer_noHour -/
      if x4 = 0 then
        am_gI g M3 a0 11 9 fun x5 =>
        if x5 < 10 then
          am_gR g a0 11 5 fun q6 =>
          am_gR g a0 11 4 fun q7 =>
          am_rc g q6 9 <|
          am_ci (F 231 0 [.ref q6, .ref q7] [] M3) fun x9 M8 => /- Speech_readFrom -/
          am_gR g a0 11 4 fun q10 =>
          am_rc g q10 10 <|
          am_cv (F 78 0 [.ref q10] [] M8) fun M11 => /- Tape_clear -/
          if x9 < 0 then
            am_gR g a0 11 2 fun q12 =>
            am_gR g a0 11 1 fun q13 =>
            am_gI g M11 q13 3 0 fun x14 =>
            am_gR g a0 11 1 fun q15 =>
            am_gI g M11 q15 3 0 fun x16 =>
            am_rc g q12 2 <|
            am_cv (F 218 0 [.ref q12, .int x14, .int v3, .int x16] [] M11) fun M17 => /- Finder_setCity -/
            am_gR g a0 11 8 fun q18 =>
            am_gI g M17 a0 11 9 fun x19 =>
            am_qa g q18 x19 fun q20 =>
            am_rc g q20 6 <|
            am_cv (F 67 0 [.ref q20, .int v1, .int v2] [] M17) fun M21 => /- Route_begin -/
            am_gR g a0 11 1 fun q22 =>
            am_gI g M21 q22 3 0 fun x23 =>
            am_rc g q20 6 <|
            am_cv (F 69 0 [.ref q20, .int x23, .int v3] [] M21) fun M24 => /- Route_setTime -/
            am_gR g a0 11 2 fun q25 =>
            am_gR g a0 11 5 fun q26 =>
            am_rc g q25 2 <|
            am_ci (F 249 0 [.ref q25, .ref q26, .ref q20] [] M24) fun x28 M27 => /- Finder_driveSpeech -/
            if x28 = 0 then
              am_gR g a0 11 2 fun q29 =>
              am_rc g q29 2 <|
              am_cv (F 169 0 [.ref q29, .ref q20] [] M27) fun M30 => /- Finder_measure -/
              am_gR g a0 11 3 fun q31 =>
              am_gI g M30 a0 11 9 fun x32 =>
              am_rc g q31 4 <|
              am_cv (F 174 0 [.ref q31, .int x32, .ref q20] [] M30) fun M33 => /- Links_addRun -/
              am_gI g M33 a0 11 9 fun x34 =>
              am_pI g M33 a0 11 9 (x34 + 1) fun M35 =>
              am_gI g M35 a0 11 9 fun x36 =>
              am_rt 1 (x36 - 1) M35
            else
              am_rt 1 ((-1000) - x28) M27
          else
            am_rt 1 ((-100) - x9) M11
        else
          am_rt 1 (-4) M3
      else
        am_rt 1 (-2) M3
  else
    am_rt 1 (-1) M1) = some r) : F 263 0 [.ref a0, .int v1, .int v2, .int v3] [] M = some r := am_inF hF t_RunSayer_say h
theorem e_Rule_readTest {g : am_G} {F : am_FT} (hF : F = am_F T0 g) {M : am_M} {a0 : Nat} {a1 : Nat} {v2 : Int32} {r : am_R} (h : (
  am_gI g M a1 10 2 fun x1 =>
  F 269 8 [.ref a0, .ref a1, .int v2, .int x1, .int 0] [] M) = some r) : F 269 0 [.ref a0, .ref a1, .int v2] [] M = some r := am_inF hF t_Rule_readTest h
set_option maxRecDepth 20000 in
set_option maxHeartbeats 2000000 in
theorem e_Rule_readTest_8 {g : am_G} {F : am_FT} (hF : F = am_F T0 g) {M : am_M} {a0 : Nat} {a1 : Nat} {v2 : Int32} {v3 : Int32} {v4 : Int32} {r : am_R} (h : (
  if 6 ≤ v4 then
    am_rt 2 0 M
  else
    am_gI g M a1 10 2 fun x1 =>
    if x1 = v3 then
      am_cr (F 15 0 [.int v4] [] M) fun q3 M2 => /- Exam_fieldName -/
      am_rc g a1 10 <|
      am_ci (F 257 0 [.ref a1, .ref q3] [] M2) fun x5 M4 => /- Tape_takesText -/
      if x5 = 0 then
        F 269 8 [.ref a0, .ref a1, .int v2, .int v3, .int (v4 + 1)] [] M4
      else
        am_gR g a0 7 2 fun q6 =>
        am_is g M4 q6 v2 v4 fun M7 =>
        am_rc g a0 7 <|
        am_ci (F 261 0 [.ref a0, .ref a1, .int v2] [] M7) fun x9 M8 => /- Rule_readComparison -/
        am_rt 2 x9 M8
    else
      F 269 8 [.ref a0, .ref a1, .int v2, .int v3, .int (v4 + 1)] [] M) = some r) : F 269 8 [.ref a0, .ref a1, .int v2, .int v3, .int v4] [] M = some r := am_inF hF t_Rule_readTest h
set_option maxRecDepth 20000 in
set_option maxHeartbeats 2000000 in
theorem e_Rule_readFrom {g : am_G} {F : am_FT} (hF : F = am_F T0 g) {M : am_M} {a0 : Nat} {a1 : Nat} {r : am_R} (h : (
  am_pI g M a0 7 1 0 fun M1 =>
  am_pI g M1 a1 10 2 0 fun M2 =>
  am_rc g a1 10 <|
  am_ci (F 257 0 [.ref a1, .ref 1000001] [] M2) fun x4 M3 => /- Tape_takesText -/
  if x4 = 0 then
    am_gI g M3 a1 10 2 fun x15 =>
    am_rt 1 x15 M3
  else
    am_rc g a1 10 <|
    am_ci (F 164 0 [.ref a1] [] M3) fun x6 M5 => /- Tape_takeNumber -/
    am_pI g M5 a0 7 0 x6 fun M7 =>
    am_gI g M7 a0 7 0 fun x8 =>
    if 0 ≤ x8 then
      am_rc g a1 10 <|
      am_ci (F 79 0 [.ref a1] [] M7) fun x10 M9 => /- Tape_isAtEnd -/
      if x10 = 0 then
        am_rc g a1 10 <|
        am_ci (F 257 0 [.ref a1, .ref 1000002] [] M9) fun x12 M11 => /- Tape_takesText -/
        if x12 = 0 then
          am_gI g M11 a1 10 2 fun x13 =>
          am_rt 1 x13 M11
        else
          F 273 69 [.ref a0, .ref a1, .int 0] [] M11
      else
        am_rt 1 (-1) M9
    else
      am_gI g M7 a1 10 2 fun x14 =>
      am_rt 1 x14 M7) = some r) : F 273 0 [.ref a0, .ref a1] [] M = some r := am_inF hF t_Rule_readFrom h
set_option maxRecDepth 20000 in
set_option maxHeartbeats 2000000 in
theorem e_Rule_readFrom_69 {g : am_G} {F : am_FT} (hF : F = am_F T0 g) {M : am_M} {a0 : Nat} {a1 : Nat} {v2 : Int32} {r : am_R} (h : (
  if 3 ≤ v2 then
    am_gI g M a1 10 2 fun x1 =>
    am_rt 1 x1 M
  else
    am_rc g a0 7 <|
    am_ci (F 269 0 [.ref a0, .ref a1, .int v2] [] M) fun x3 M2 => /- Rule_readTest -/
    if x3 = 0 then
      am_gI g M2 a1 10 2 fun x12 =>
      am_rt 1 x12 M2
    else
      am_gI g M2 a0 7 1 fun x4 =>
      am_pI g M2 a0 7 1 (x4 + 1) fun M5 =>
      am_rc g a1 10 <|
      am_ci (F 79 0 [.ref a1] [] M5) fun x7 M6 => /- Tape_isAtEnd -/
      if x7 = 0 then
        am_gI g M6 a0 7 1 fun x8 =>
        if 3 ≤ x8 then
          F 273 69 [.ref a0, .ref a1, .int (v2 + 1)] [] M6
        else
          am_rc g a1 10 <|
          am_ci (F 257 0 [.ref a1, .ref 1000012] [] M6) fun x10 M9 => /- Tape_takesText -/
          if x10 = 0 then
            am_gI g M9 a1 10 2 fun x11 =>
            am_rt 1 x11 M9
          else
            F 273 69 [.ref a0, .ref a1, .int (v2 + 1)] [] M9
      else
        am_rt 1 (-1) M6) = some r) : F 273 69 [.ref a0, .ref a1, .int v2] [] M = some r := am_inF hF t_Rule_readFrom h
set_option maxRecDepth 20000 in
set_option maxHeartbeats 2000000 in
theorem e_RunSayer_rule {g : am_G} {F : am_FT} (hF : F = am_F T0 g) {M : am_M} {a0 : Nat} {r : am_R} (h : (
  am_gI g M a0 11 13 fun x1 =>
  if x1 < 6 then
    am_gR g a0 11 12 fun q2 =>
    am_gI g M a0 11 13 fun x3 =>
    am_qa g q2 x3 fun q4 =>
    am_gR g a0 11 4 fun q5 =>
    am_rc g q4 7 <|
    am_ci (F 273 0 [.ref q4, .ref q5] [] M) fun x7 M6 => /- Rule_readFrom -/
    am_gR g a0 11 4 fun q8 =>
    am_rc g q8 10 <|
    am_cv (F 78 0 [.ref q8] [] M6) fun M9 => /- Tape_clear -/
    if x7 < 0 then
      am_gI g M9 a0 11 13 fun x10 =>
      am_pI g M9 a0 11 13 (x10 + 1) fun M11 =>
      am_gI g M11 a0 11 13 fun x12 =>
      am_rt 1 (x12 - 1) M11
    else
      am_rt 1 ((-100) - x7) M9
  else
    am_rt 1 (-4) M) = some r) : F 274 0 [.ref a0] [] M = some r := am_inF hF t_RunSayer_rule h
