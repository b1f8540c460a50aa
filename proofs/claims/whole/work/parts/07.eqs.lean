/-! THE ROWS of the methods: what each answers, out of each cut (by program) -/
theorem e_Model_answersTo {g : am_G} {F : am_FT} (hF : F = am_F T0 g) {M : am_M} {a0 : Nat} {v1 : Int32} {w2 : Int64} {v4 : Int32} {r : am_R} (h : (
  F 40 3 [.ref a0, .int v1, .long w2, .int v4, .int 0] [] M) = some r) : F 40 0 [.ref a0, .int v1, .long w2, .int v4] [] M = some r := am_inF hF t_Model_answersTo h
set_option maxRecDepth 20000 in
set_option maxHeartbeats 2000000 in
theorem e_Model_answersTo_3 {g : am_G} {F : am_FT} (hF : F = am_F T0 g) {M : am_M} {a0 : Nat} {v1 : Int32} {w2 : Int64} {v4 : Int32} {v5 : Int32} {r : am_R} (h : (
  am_gI g M a0 12 15 fun x1 =>
  if x1 ≤ v5 then
    am_rt 2 0 M
  else
    am_gR g a0 12 16 fun q2 =>
    am_ia g M q2 v5 fun x3 =>
    if x3 = v1 then
      am_gR g a0 12 17 fun q4 =>
      am_la g M q4 v5 fun l5 =>
      if (lg_cmp l5 w2) = 0 then
        am_gR g a0 12 18 fun q6 =>
        am_ia g M q6 v5 fun x7 =>
        if v4 < x7 then
          F 40 3 [.ref a0, .int v1, .long w2, .int v4, .int (v5 + 1)] [] M
        else
          am_rt 2 1 M
      else
        F 40 3 [.ref a0, .int v1, .long w2, .int v4, .int (v5 + 1)] [] M
    else
      F 40 3 [.ref a0, .int v1, .long w2, .int v4, .int (v5 + 1)] [] M) = some r) : F 40 3 [.ref a0, .int v1, .long w2, .int v4, .int v5] [] M = some r := am_inF hF t_Model_answersTo h
theorem e_Model_areAlike {g : am_G} {F : am_FT} (hF : F = am_F T0 g) {M : am_M} {a0 : Nat} {v1 : Int32} {v2 : Int32} {r : am_R} (h : (
  am_gR g a0 12 90 fun q1 =>
  am_ia g M q1 v1 fun x2 =>
  am_gR g a0 12 90 fun q3 =>
  am_ia g M q3 v2 fun x4 =>
  if x2 = x4 then
    F 41 19 [.ref a0, .int v1, .int v2, .int 0] [] M
  else
    am_rt 2 0 M) = some r) : F 41 0 [.ref a0, .int v1, .int v2] [] M = some r := am_inF hF t_Model_areAlike h
theorem e_Model_areAlike_19 {g : am_G} {F : am_FT} (hF : F = am_F T0 g) {M : am_M} {a0 : Nat} {v1 : Int32} {v2 : Int32} {v3 : Int32} {r : am_R} (h : (
  am_gR g a0 12 90 fun q1 =>
  am_ia g M q1 v1 fun x2 =>
  if x2 ≤ v3 then
    am_rt 2 1 M
  else
    am_gR g a0 12 91 fun q3 =>
    am_ia g M q3 ((80 * v1) + v3) fun x4 =>
    am_gR g a0 12 91 fun q5 =>
    am_ia g M q5 ((80 * v2) + v3) fun x6 =>
    if x4 = x6 then
      F 41 19 [.ref a0, .int v1, .int v2, .int (v3 + 1)] [] M
    else
      am_rt 2 0 M) = some r) : F 41 19 [.ref a0, .int v1, .int v2, .int v3] [] M = some r := am_inF hF t_Model_areAlike h
theorem e_Model_asPupil {g : am_G} {F : am_FT} (hF : F = am_F T0 g) {M : am_M} {a0 : Nat} {v1 : Int32} {v2 : Int32} {r : am_R} (h : (
  am_pI g M a0 12 56 v1 fun M1 =>
  am_pI g M1 a0 12 58 v2 fun M2 =>
  am_pI g M2 a0 12 60 0 fun M3 =>
  some (none, M3)) = some r) : F 42 0 [.ref a0, .int v1, .int v2] [] M = some r := am_inF hF t_Model_asPupil h
theorem e_Model_asReal {g : am_G} {F : am_FT} (hF : F = am_F T0 g) {M : am_M} {a0 : Nat} {v1 : Int32} {v2 : Int32} {v3 : Int32} {v4 : Int32} {r : am_R} (h : (
  am_pI g M a0 12 56 (-1) fun M1 =>
  am_pI g M1 a0 12 57 v1 fun M2 =>
  am_pI g M2 a0 12 58 v2 fun M3 =>
  am_pI g M3 a0 12 59 v3 fun M4 =>
  am_pI g M4 a0 12 60 v4 fun M5 =>
  some (none, M5)) = some r) : F 43 0 [.ref a0, .int v1, .int v2, .int v3, .int v4] [] M = some r := am_inF hF t_Model_asReal h
theorem e_Model_begin {g : am_G} {F : am_FT} (hF : F = am_F T0 g) {M : am_M} {a0 : Nat} {v1 : Int32} {r : am_R} (h : (
  am_dv 2 <|
  if (v1 - v1 / 2 * 2) = 0 then
    am_gR g a0 12 6 fun q3 =>
    am_dv 2 <|
    am_ia g M q3 (v1 / 2) fun x4 =>
    am_rt 1 x4 M
  else
    am_gR g a0 12 7 fun q1 =>
    am_dv 2 <|
    am_ia g M q1 (v1 / 2) fun x2 =>
    am_rt 1 x2 M) = some r) : F 44 0 [.ref a0, .int v1] [] M = some r := am_inF hF t_Model_begin h
set_option maxRecDepth 20000 in
set_option maxHeartbeats 2000000 in
theorem e_Model_between {g : am_G} {F : am_FT} (hF : F = am_F T0 g) {M : am_M} {a0 : Nat} {v1 : Int32} {v2 : Int32} {v3 : Int32} {r : am_R} (h : (
  am_gR g a0 12 11 fun q1 =>
  am_ia g M q1 v1 fun x2 =>
  am_gR g a0 12 11 fun q3 =>
  am_ia g M q3 v2 fun x4 =>
  if x2 = x4 then
    am_dv 2 <|
    if (v3 - v3 / 2 * 2) = 0 then
      am_gR g a0 12 12 fun q9 =>
      am_ia g M q9 v2 fun x10 =>
      am_gR g a0 12 12 fun q11 =>
      am_ia g M q11 v1 fun x12 =>
      if (x10 - x12) ≤ 0 then
        am_rt 1 (-1) M
      else
        am_rt 1 (x10 - x12) M
    else
      am_gR g a0 12 12 fun q5 =>
      am_ia g M q5 v1 fun x6 =>
      am_gR g a0 12 12 fun q7 =>
      am_ia g M q7 v2 fun x8 =>
      if (x6 - x8) ≤ 0 then
        am_rt 1 (-1) M
      else
        am_rt 1 (x6 - x8) M
  else
    am_rt 1 (-1) M) = some r) : F 45 0 [.ref a0, .int v1, .int v2, .int v3] [] M = some r := am_inF hF t_Model_between h
theorem e_Model_comes {g : am_G} {F : am_FT} (hF : F = am_F T0 g) {M : am_M} {a0 : Nat} {v1 : Int32} {v2 : Int32} {r : am_R} (h : (
  am_gR g a0 12 32 fun q1 =>
  am_gI g M a0 12 31 fun x2 =>
  am_is g M q1 x2 v1 fun M3 =>
  am_gR g a0 12 33 fun q4 =>
  am_gI g M3 a0 12 31 fun x5 =>
  am_is g M3 q4 x5 v2 fun M6 =>
  am_gI g M6 a0 12 31 fun x7 =>
  am_pI g M6 a0 12 31 (x7 + 1) fun M8 =>
  am_rt 1 v2 M8) = some r) : F 46 0 [.ref a0, .int v1, .int v2] [] M = some r := am_inF hF t_Model_comes h
theorem e_Model_cost {g : am_G} {F : am_FT} (hF : F = am_F T0 g) {M : am_M} {a0 : Nat} {v1 : Int32} {r : am_R} (h : (
  if v1 = 0 then
    am_gJ g M a0 12 73 fun l2 =>
    some (some (.long l2), M)
  else
    if v1 = 1 then
      am_gJ g M a0 12 74 fun l1 =>
      some (some (.long l1), M)
    else
      some (some (.long (-4611686018427387904)), M)) = some r) : F 47 0 [.ref a0, .int v1] [] M = some r := am_inF hF t_Model_cost h
set_option maxRecDepth 20000 in
set_option maxHeartbeats 2000000 in
theorem e_Model_count {g : am_G} {F : am_FT} (hF : F = am_F T0 g) {M : am_M} {a0 : Nat} {v1 : Int32} {r : am_R} (h : (
  if v1 = 0 then
    am_gI g M a0 12 0 fun x1 =>
    am_rt 1 x1 M
  else
  if v1 = 1 then
    am_gI g M a0 12 4 fun x2 =>
    am_rt 1 x2 M
  else
  if v1 = 2 then
    am_gI g M a0 12 10 fun x3 =>
    am_rt 1 x3 M
  else
  if v1 = 3 then
    am_gI g M a0 12 14 fun x4 =>
    am_rt 1 x4 M
  else
  if v1 = 4 then
    am_gI g M a0 12 15 fun x5 =>
    am_rt 1 x5 M
  else
  if v1 = 5 then
    am_gI g M a0 12 19 fun x6 =>
    am_rt 1 x6 M
  else
  if v1 = 6 then
    am_gI g M a0 12 24 fun x7 =>
    am_rt 1 x7 M
  else
  if v1 = 7 then
    am_gI g M a0 12 37 fun x8 =>
    am_rt 1 x8 M
  else
  if v1 = 8 then
    am_gI g M a0 12 41 fun x9 =>
    am_rt 1 x9 M
  else
  if v1 = 9 then
    am_gI g M a0 12 49 fun x10 =>
    am_rt 1 x10 M
  else
  if v1 = 10 then
    am_gI g M a0 12 45 fun x11 =>
    am_rt 1 x11 M
  else
  if v1 = 11 then
    am_gI g M a0 12 36 fun x12 =>
    am_rt 1 x12 M
  else
  if v1 = 12 then
    am_gI g M a0 12 34 fun x13 =>
    am_rt 1 x13 M
  else
  if v1 = 13 then
    am_gI g M a0 12 31 fun x14 =>
    am_rt 1 x14 M
  else
    am_rt 1 (-2) M) = some r) : F 48 0 [.ref a0, .int v1] [] M = some r := am_inF hF t_Model_count h
theorem e_Model_cross {g : am_G} {F : am_FT} (hF : F = am_F T0 g) {M : am_M} {v0 : Int32} {v1 : Int32} {v2 : Int32} {v3 : Int32} {r : am_R} (h : (
  am_rt 1 ((v0 * v3) - (v1 * v2)) M) = some r) : F 49 0 [.int v0, .int v1, .int v2, .int v3] [] M = some r := am_inF hF t_Model_cross h
theorem e_Model_end {g : am_G} {F : am_FT} (hF : F = am_F T0 g) {M : am_M} {a0 : Nat} {v1 : Int32} {r : am_R} (h : (
  am_dv 2 <|
  if (v1 - v1 / 2 * 2) = 0 then
    am_gR g a0 12 7 fun q3 =>
    am_dv 2 <|
    am_ia g M q3 (v1 / 2) fun x4 =>
    am_rt 1 x4 M
  else
    am_gR g a0 12 6 fun q1 =>
    am_dv 2 <|
    am_ia g M q1 (v1 / 2) fun x2 =>
    am_rt 1 x2 M) = some r) : F 50 0 [.ref a0, .int v1] [] M = some r := am_inF hF t_Model_end h
set_option maxRecDepth 20000 in
set_option maxHeartbeats 2000000 in
theorem e_Model_fromDoor {g : am_G} {F : am_FT} (hF : F = am_F T0 g) {M : am_M} {a0 : Nat} {v1 : Int32} {v2 : Int32} {r : am_R} (h : (
  am_dv 2 <|
  if (v2 - v2 / 2 * 2) = 0 then
    am_gR g a0 12 8 fun q3 =>
    am_gR g a0 12 11 fun q4 =>
    am_ia g M q4 v1 fun x5 =>
    am_ia g M q3 x5 fun x6 =>
    am_gR g a0 12 12 fun q7 =>
    am_ia g M q7 v1 fun x8 =>
    am_rt 1 (x6 - x8) M
  else
    am_gR g a0 12 12 fun q1 =>
    am_ia g M q1 v1 fun x2 =>
    am_rt 1 x2 M) = some r) : F 51 0 [.ref a0, .int v1, .int v2] [] M = some r := am_inF hF t_Model_fromDoor h
theorem e_Model_here {g : am_G} {F : am_FT} (hF : F = am_F T0 g) {M : am_M} {a0 : Nat} {r : am_R} (h : (
  am_gI g M a0 12 75 fun x1 =>
  am_gI g M a0 12 36 fun x2 =>
  if x2 ≤ x1 then
    am_rt 1 (-1) M
  else
    am_gR g a0 12 35 fun q3 =>
    am_gI g M a0 12 75 fun x4 =>
    am_ia g M q3 x4 fun x5 =>
    am_rt 1 x5 M) = some r) : F 52 0 [.ref a0] [] M = some r := am_inF hF t_Model_here h
theorem e_Model_in {g : am_G} {F : am_FT} (hF : F = am_F T0 g) {M : am_M} {v0 : Int32} {v1 : Int32} {v2 : Int32} {r : am_R} (h : (
  if v0 < v1 then
    am_rt 2 0 M
  else
    if v2 < v0 then
      am_rt 2 0 M
    else
      am_rt 2 1 M) = some r) : F 53 0 [.int v0, .int v1, .int v2] [] M = some r := am_inF hF t_Model_in h
theorem e_Model_isBanned {g : am_G} {F : am_FT} (hF : F = am_F T0 g) {M : am_M} {a0 : Nat} {v1 : Int32} {v2 : Int32} {v3 : Int32} {v4 : Int32} {r : am_R} (h : (
  F 54 3 [.ref a0, .int v1, .int v2, .int v3, .int v4, .int 0] [] M) = some r) : F 54 0 [.ref a0, .int v1, .int v2, .int v3, .int v4] [] M = some r := am_inF hF t_Model_isBanned h
set_option maxRecDepth 20000 in
set_option maxHeartbeats 2000000 in
theorem e_Model_isBanned_3 {g : am_G} {F : am_FT} (hF : F = am_F T0 g) {M : am_M} {a0 : Nat} {v1 : Int32} {v2 : Int32} {v3 : Int32} {v4 : Int32} {v5 : Int32} {r : am_R} (h : (
  am_gI g M a0 12 24 fun x1 =>
  if x1 ≤ v5 then
    am_rt 2 0 M
  else
    am_gR g a0 12 30 fun q2 =>
    am_ia g M q2 v5 fun x3 =>
    if v3 < x3 then
      am_gR g a0 12 25 fun q4 =>
      am_ia g M q4 v5 fun x5 =>
      if x5 = v1 then
        am_gR g a0 12 26 fun q6 =>
        am_ia g M q6 v5 fun x7 =>
        if x7 = v2 then
          if (0 : Int32) = 0 then
            F 54 3 [.ref a0, .int v1, .int v2, .int v3, .int v4, .int (v5 + 1)] [] M
          else
            am_gR g a0 12 29 fun q8 =>
            am_ia g M q8 v5 fun x9 =>
            am_dv 7 <|
            if ((x9 >>> ((v3 - v3 / 7 * 7) &&& 31)) &&& 1) = 1 then
              am_rt 2 1 M
            else
              F 54 3 [.ref a0, .int v1, .int v2, .int v3, .int v4, .int (v5 + 1)] [] M
        else
          F 54 3 [.ref a0, .int v1, .int v2, .int v3, .int v4, .int (v5 + 1)] [] M
      else
        F 54 3 [.ref a0, .int v1, .int v2, .int v3, .int v4, .int (v5 + 1)] [] M
    else
      am_gR g a0 12 27 fun q10 =>
      am_ia g M q10 v5 fun x11 =>
      if v4 < x11 then
        am_gR g a0 12 25 fun q12 =>
        am_ia g M q12 v5 fun x13 =>
        if x13 = v1 then
          am_gR g a0 12 26 fun q14 =>
          am_ia g M q14 v5 fun x15 =>
          if x15 = v2 then
            if (0 : Int32) = 0 then
              F 54 3 [.ref a0, .int v1, .int v2, .int v3, .int v4, .int (v5 + 1)] [] M
            else
              am_gR g a0 12 29 fun q16 =>
              am_ia g M q16 v5 fun x17 =>
              am_dv 7 <|
              if ((x17 >>> ((v3 - v3 / 7 * 7) &&& 31)) &&& 1) = 1 then
                am_rt 2 1 M
              else
                F 54 3 [.ref a0, .int v1, .int v2, .int v3, .int v4, .int (v5 + 1)] [] M
          else
            F 54 3 [.ref a0, .int v1, .int v2, .int v3, .int v4, .int (v5 + 1)] [] M
        else
          F 54 3 [.ref a0, .int v1, .int v2, .int v3, .int v4, .int (v5 + 1)] [] M
      else
        am_gR g a0 12 28 fun q18 =>
        am_ia g M q18 v5 fun x19 =>
        if x19 ≤ v4 then
          am_gR g a0 12 25 fun q20 =>
          am_ia g M q20 v5 fun x21 =>
          if x21 = v1 then
            am_gR g a0 12 26 fun q22 =>
            am_ia g M q22 v5 fun x23 =>
            if x23 = v2 then
              if (0 : Int32) = 0 then
                F 54 3 [.ref a0, .int v1, .int v2, .int v3, .int v4, .int (v5 + 1)] [] M
              else
                am_gR g a0 12 29 fun q24 =>
                am_ia g M q24 v5 fun x25 =>
                am_dv 7 <|
                if ((x25 >>> ((v3 - v3 / 7 * 7) &&& 31)) &&& 1) = 1 then
                  am_rt 2 1 M
                else
                  F 54 3 [.ref a0, .int v1, .int v2, .int v3, .int v4, .int (v5 + 1)] [] M
            else
              F 54 3 [.ref a0, .int v1, .int v2, .int v3, .int v4, .int (v5 + 1)] [] M
          else
            F 54 3 [.ref a0, .int v1, .int v2, .int v3, .int v4, .int (v5 + 1)] [] M
        else
          am_gR g a0 12 25 fun q26 =>
          am_ia g M q26 v5 fun x27 =>
          if x27 = v1 then
            am_gR g a0 12 26 fun q28 =>
            am_ia g M q28 v5 fun x29 =>
            if x29 = v2 then
              if (1 : Int32) = 0 then
                F 54 3 [.ref a0, .int v1, .int v2, .int v3, .int v4, .int (v5 + 1)] [] M
              else
                am_gR g a0 12 29 fun q30 =>
                am_ia g M q30 v5 fun x31 =>
                am_dv 7 <|
                if ((x31 >>> ((v3 - v3 / 7 * 7) &&& 31)) &&& 1) = 1 then
                  am_rt 2 1 M
                else
                  F 54 3 [.ref a0, .int v1, .int v2, .int v3, .int v4, .int (v5 + 1)] [] M
            else
              F 54 3 [.ref a0, .int v1, .int v2, .int v3, .int v4, .int (v5 + 1)] [] M
          else
            F 54 3 [.ref a0, .int v1, .int v2, .int v3, .int v4, .int (v5 + 1)] [] M) = some r) : F 54 3 [.ref a0, .int v1, .int v2, .int v3, .int v4, .int v5] [] M = some r := am_inF hF t_Model_isBanned h
set_option maxRecDepth 20000 in
set_option maxHeartbeats 2000000 in
theorem e_Model_isHeld {g : am_G} {F : am_FT} (hF : F = am_F T0 g) {M : am_M} {a0 : Nat} {v1 : Int32} {v2 : Int32} {v3 : Int32} {v4 : Int32} {r : am_R} (h : (
  am_gR g a0 12 43 fun q1 =>
  am_ia g M q1 (((6400 * v1) + (80 * v2)) + v3) fun x2 =>
  if x2 ≤ 0 then
    am_rt 2 0 M
  else
    am_gR g a0 12 44 fun q3 =>
    am_ia g M q3 (((6400 * v1) + (80 * v2)) + v3) fun x4 =>
    if v4 < x4 then
      am_rt 2 0 M
    else
      am_gR g a0 12 44 fun q5 =>
      am_ia g M q5 (((6400 * v1) + (80 * v2)) + v3) fun x6 =>
      am_gR g a0 12 42 fun q7 =>
      am_ia g M q7 v1 fun x8 =>
      am_gR g a0 12 43 fun q9 =>
      am_ia g M q9 (((6400 * v1) + (80 * v2)) + v3) fun x10 =>
      if (x6 + (x8 <<< ((x10 - 1) &&& 31))) < v4 then
        am_rt 2 0 M
      else
        am_rt 2 1 M) = some r) : F 55 0 [.ref a0, .int v1, .int v2, .int v3, .int v4] [] M = some r := am_inF hF t_Model_isHeld h
set_option maxRecDepth 20000 in
set_option maxHeartbeats 2000000 in
theorem e_Model_isLess {g : am_G} {F : am_FT} (hF : F = am_F T0 g) {M : am_M} {a0 : Nat} {w1 : Int64} {w3 : Int64} {w5 : Int64} {w7 : Int64} {r : am_R} (h : (
  am_gI g M a0 12 60 fun x1 =>
  if x1 = 0 then
    if (lg_cmp w1 w5) < 0 then
      am_rt 2 1 M
    else
      if (lg_cmp w1 w5) = 0 then
        if 0 ≤ (lg_cmp w3 w7) then
          am_rt 2 0 M
        else
          am_rt 2 1 M
      else
        am_rt 2 0 M
  else
    if (lg_cmp w3 w7) < 0 then
      am_rt 2 1 M
    else
      if (lg_cmp w3 w7) = 0 then
        if 0 ≤ (lg_cmp w1 w5) then
          am_rt 2 0 M
        else
          am_rt 2 1 M
      else
        am_rt 2 0 M) = some r) : F 56 0 [.ref a0, .long w1, .long w3, .long w5, .long w7] [] M = some r := am_inF hF t_Model_isLess h
theorem e_Model_isShut {g : am_G} {F : am_FT} (hF : F = am_F T0 g) {M : am_M} {a0 : Nat} {v1 : Int32} {v2 : Int32} {v3 : Int32} {r : am_R} (h : (
  F 57 3 [.ref a0, .int v1, .int v2, .int v3, .int 0] [] M) = some r) : F 57 0 [.ref a0, .int v1, .int v2, .int v3] [] M = some r := am_inF hF t_Model_isShut h
set_option maxRecDepth 20000 in
set_option maxHeartbeats 2000000 in
theorem e_Model_isShut_3 {g : am_G} {F : am_FT} (hF : F = am_F T0 g) {M : am_M} {a0 : Nat} {v1 : Int32} {v2 : Int32} {v3 : Int32} {v4 : Int32} {r : am_R} (h : (
  am_gI g M a0 12 19 fun x1 =>
  if x1 ≤ v4 then
    am_rt 2 0 M
  else
    am_gR g a0 12 20 fun q2 =>
    am_ia g M q2 v4 fun x3 =>
    if x3 = v1 then
      am_gR g a0 12 23 fun q4 =>
      am_ia g M q4 v4 fun x5 =>
      if v3 < x5 then
        F 57 3 [.ref a0, .int v1, .int v2, .int v3, .int (v4 + 1)] [] M
      else
        am_gR g a0 12 21 fun q6 =>
        am_ia g M q6 v4 fun x7 =>
        if v2 < x7 then
          F 57 3 [.ref a0, .int v1, .int v2, .int v3, .int (v4 + 1)] [] M
        else
          am_gR g a0 12 22 fun q8 =>
          am_ia g M q8 v4 fun x9 =>
          if x9 ≤ v2 then
            F 57 3 [.ref a0, .int v1, .int v2, .int v3, .int (v4 + 1)] [] M
          else
            am_rt 2 1 M
    else
      F 57 3 [.ref a0, .int v1, .int v2, .int v3, .int (v4 + 1)] [] M) = some r) : F 57 3 [.ref a0, .int v1, .int v2, .int v3, .int v4] [] M = some r := am_inF hF t_Model_isShut h
set_option maxRecDepth 20000 in
set_option maxHeartbeats 2000000 in
theorem e_Model_isUnder {g : am_G} {F : am_FT} (hF : F = am_F T0 g) {M : am_M} {v0 : Int32} {v1 : Int32} {r : am_R} (h : (
  if v1 = 0 then
    am_rt 2 1 M
  else
    if v0 = v1 then
      am_rt 2 1 M
    else
      if v1 = 1 then
        if v0 = 3 then
          am_rt 2 1 M
        else
          if v1 = 2 then
            if 4 ≤ v0 then
              am_rt 2 1 M
            else
              if v1 = 4 then
                if v0 = 5 then
                  am_rt 2 1 M
                else
                  am_rt 2 0 M
              else
                am_rt 2 0 M
          else
            if v1 = 4 then
              if v0 = 5 then
                am_rt 2 1 M
              else
                am_rt 2 0 M
            else
              am_rt 2 0 M
      else
        if v1 = 2 then
          if 4 ≤ v0 then
            am_rt 2 1 M
          else
            if v1 = 4 then
              if v0 = 5 then
                am_rt 2 1 M
              else
                am_rt 2 0 M
            else
              am_rt 2 0 M
        else
          if v1 = 4 then
            if v0 = 5 then
              am_rt 2 1 M
            else
              am_rt 2 0 M
          else
            am_rt 2 0 M) = some r) : F 58 0 [.int v0, .int v1] [] M = some r := am_inF hF t_Model_isUnder h
theorem e_Model_laysBack {g : am_G} {F : am_FT} (hF : F = am_F T0 g) {M : am_M} {a0 : Nat} {v1 : Int32} {v2 : Int32} {r : am_R} (h : (
  F 59 2 [.ref a0, .int v1, .int v2, .int 0] [] M) = some r) : F 59 0 [.ref a0, .int v1, .int v2] [] M = some r := am_inF hF t_Model_laysBack h
set_option maxRecDepth 20000 in
set_option maxHeartbeats 2000000 in
theorem e_Model_laysBack_2 {g : am_G} {F : am_FT} (hF : F = am_F T0 g) {M : am_M} {a0 : Nat} {v1 : Int32} {v2 : Int32} {v3 : Int32} {r : am_R} (h : (
  if 6400 ≤ v3 then
    some (none, M)
  else
    if v2 = 0 then
      am_gR g a0 12 43 fun q1 =>
      am_gR g a0 12 84 fun q2 =>
      am_ia g M q2 v3 fun x3 =>
      am_is g M q1 ((6400 * v1) + v3) x3 fun M4 =>
      am_gR g a0 12 44 fun q5 =>
      am_gR g a0 12 85 fun q6 =>
      am_ia g M4 q6 v3 fun x7 =>
      am_is g M4 q5 ((6400 * v1) + v3) x7 fun M8 =>
      F 59 2 [.ref a0, .int v1, .int v2, .int (v3 + 1)] [] M8
    else
      am_gR g a0 12 84 fun q9 =>
      am_gR g a0 12 43 fun q10 =>
      am_ia g M q10 ((6400 * v1) + v3) fun x11 =>
      am_is g M q9 v3 x11 fun M12 =>
      am_gR g a0 12 85 fun q13 =>
      am_gR g a0 12 44 fun q14 =>
      am_ia g M12 q14 ((6400 * v1) + v3) fun x15 =>
      am_is g M12 q13 v3 x15 fun M16 =>
      F 59 2 [.ref a0, .int v1, .int v2, .int (v3 + 1)] [] M16) = some r) : F 59 2 [.ref a0, .int v1, .int v2, .int v3] [] M = some r := am_inF hF t_Model_laysBack h
theorem e_Model_linkOf {g : am_G} {F : am_FT} (hF : F = am_F T0 g) {M : am_M} {a0 : Nat} {v1 : Int32} {v2 : Int32} {r : am_R} (h : (
  am_gR g a0 12 39 fun q1 =>
  am_ia g M q1 ((21 * v1) + v2) fun x2 =>
  am_gR g a0 12 39 fun q3 =>
  am_ia g M q3 (((21 * v1) + v2) + 1) fun x4 =>
  F 60 32 [.ref a0, .int v1, .int v2, .int ((80 * x2) + x4), .int 0] [] M) = some r) : F 60 0 [.ref a0, .int v1, .int v2] [] M = some r := am_inF hF t_Model_linkOf h
theorem e_Model_linkOf_32 {g : am_G} {F : am_FT} (hF : F = am_F T0 g) {M : am_M} {a0 : Nat} {v1 : Int32} {v2 : Int32} {v3 : Int32} {v4 : Int32} {r : am_R} (h : (
  if v2 ≤ v4 then
    am_rt 1 v3 M
  else
    am_gR g a0 12 39 fun q1 =>
    am_ia g M q1 ((21 * v1) + v4) fun x2 =>
    am_gR g a0 12 39 fun q3 =>
    am_ia g M q3 (((21 * v1) + v4) + 1) fun x4 =>
    if ((80 * x2) + x4) = v3 then
      am_rt 1 (-1) M
    else
      F 60 32 [.ref a0, .int v1, .int v2, .int v3, .int (v4 + 1)] [] M) = some r) : F 60 32 [.ref a0, .int v1, .int v2, .int v3, .int v4] [] M = some r := am_inF hF t_Model_linkOf h
set_option maxRecDepth 20000 in
set_option maxHeartbeats 2000000 in
theorem e_Model_skips {g : am_G} {F : am_FT} (hF : F = am_F T0 g) {M : am_M} {a0 : Nat} {r : am_R} (h : (
  am_gI g M a0 12 75 fun x1 =>
  am_gI g M a0 12 36 fun x2 =>
  if x2 ≤ x1 then
    am_gI g M a0 12 75 fun x3 =>
    am_pI g M a0 12 76 x3 fun M4 =>
    some (none, M4)
  else
    am_gR g a0 12 35 fun q5 =>
    am_gI g M a0 12 75 fun x6 =>
    am_ia g M q5 x6 fun x7 =>
    if x7 = 32 then
      am_gI g M a0 12 75 fun x10 =>
      am_pI g M a0 12 75 (x10 + 1) fun M11 =>
      F 61 0 [.ref a0] [] M11
    else
      am_gI g M a0 12 75 fun x8 =>
      am_pI g M a0 12 76 x8 fun M9 =>
      some (none, M9)) = some r) : F 61 0 [.ref a0] [] M = some r := am_inF hF t_Model_skips h
theorem e_Model_tells {g : am_G} {F : am_FT} (hF : F = am_F T0 g) {M : am_M} {a0 : Nat} {r : am_R} (h : (
  am_gI g M a0 12 64 fun x1 =>
  am_pI g M a0 12 72 x1 fun M2 =>
  am_gJ g M2 a0 12 65 fun l3 =>
  am_pJ g M2 a0 12 73 l3 fun M4 =>
  am_gJ g M4 a0 12 66 fun l5 =>
  am_pJ g M4 a0 12 74 l5 fun M6 =>
  F 62 26 [.ref a0, .int 0] [] M6) = some r) : F 62 0 [.ref a0] [] M = some r := am_inF hF t_Model_tells h
theorem e_Model_tells_26 {g : am_G} {F : am_FT} (hF : F = am_F T0 g) {M : am_M} {a0 : Nat} {v1 : Int32} {r : am_R} (h : (
  am_gI g M a0 12 64 fun x1 =>
  if x1 ≤ v1 then
    am_gI g M a0 12 64 fun x2 =>
    am_rt 1 x2 M
  else
    am_gR g a0 12 71 fun q3 =>
    am_gR g a0 12 63 fun q4 =>
    am_ia g M q4 v1 fun x5 =>
    am_is g M q3 v1 x5 fun M6 =>
    F 62 26 [.ref a0, .int (v1 + 1)] [] M6) = some r) : F 62 26 [.ref a0, .int v1] [] M = some r := am_inF hF t_Model_tells h
set_option maxRecDepth 20000 in
set_option maxHeartbeats 2000000 in
theorem e_Model_toDoor {g : am_G} {F : am_FT} (hF : F = am_F T0 g) {M : am_M} {a0 : Nat} {v1 : Int32} {v2 : Int32} {r : am_R} (h : (
  am_dv 2 <|
  if (v2 - v2 / 2 * 2) = 0 then
    am_gR g a0 12 12 fun q7 =>
    am_ia g M q7 v1 fun x8 =>
    am_rt 1 x8 M
  else
    am_gR g a0 12 8 fun q1 =>
    am_gR g a0 12 11 fun q2 =>
    am_ia g M q2 v1 fun x3 =>
    am_ia g M q1 x3 fun x4 =>
    am_gR g a0 12 12 fun q5 =>
    am_ia g M q5 v1 fun x6 =>
    am_rt 1 (x4 - x6) M) = some r) : F 63 0 [.ref a0, .int v1, .int v2] [] M = some r := am_inF hF t_Model_toDoor h
theorem e_Model_wipe {g : am_G} {F : am_FT} (hF : F = am_F T0 g) {M : am_M} {a0 : Nat} {r : am_R} (h : (
  am_gI g M a0 12 36 fun x1 =>
  am_pI g M a0 12 36 0 fun M2 =>
  am_rt 1 x1 M2) = some r) : F 64 0 [.ref a0] [] M = some r := am_inF hF t_Model_wipe h
theorem e_Model_wordOf {g : am_G} {F : am_FT} (hF : F = am_F T0 g) {M : am_M} {v0 : Int32} {v1 : Int32} {v2 : Int32} {v3 : Int32} {v4 : Int32} {r : am_R} (h : (
  if v3 = 0 then
    if v4 = 0 then
      some (some (.long ((((v0.toInt64 <<< ((8 : Int32).toInt64 &&& 63)) ||| v1.toInt64) <<< ((8 : Int32).toInt64 &&& 63)) ||| v2.toInt64)), M)
    else
      some (some (.long ((((((v0.toInt64 <<< ((8 : Int32).toInt64 &&& 63)) ||| v1.toInt64) <<< ((8 : Int32).toInt64 &&& 63)) ||| v2.toInt64) <<< ((8 : Int32).toInt64 &&& 63)) ||| v4.toInt64)), M)
  else
    if v4 = 0 then
      some (some (.long ((((((v0.toInt64 <<< ((8 : Int32).toInt64 &&& 63)) ||| v1.toInt64) <<< ((8 : Int32).toInt64 &&& 63)) ||| v2.toInt64) <<< ((8 : Int32).toInt64 &&& 63)) ||| v3.toInt64)), M)
    else
      some (some (.long ((((((((v0.toInt64 <<< ((8 : Int32).toInt64 &&& 63)) ||| v1.toInt64) <<< ((8 : Int32).toInt64 &&& 63)) ||| v2.toInt64) <<< ((8 : Int32).toInt64 &&& 63)) ||| v3.toInt64) <<< ((8 : Int32).toInt64 &&& 63)) ||| v4.toInt64)), M)) = some r) : F 65 0 [.int v0, .int v1, .int v2, .int v3, .int v4] [] M = some r := am_inF hF t_Model_wordOf h
set_option maxRecDepth 20000 in
set_option maxHeartbeats 2000000 in
theorem e_Model_cell {g : am_G} {F : am_FT} (hF : F = am_F T0 g) {M : am_M} {a0 : Nat} {v1 : Int32} {v2 : Int32} {v3 : Int32} {r : am_R} (h : (
  am_ci (F 53 0 [.int v1, .int 0, .int 3] [] M) fun x2 M1 => /- Model_in -/
  if x2 = 0 then
    am_rt 1 (-2) M1
  else
    am_gR g a0 12 53 fun q3 =>
    am_ia g M1 q3 v1 fun x4 =>
    if x4 = (-1) then
      am_rt 1 (-11) M1
    else
      am_gR g a0 12 54 fun q5 =>
      am_ia g M1 q5 v1 fun x6 =>
      am_ci (F 53 0 [.int v2, .int 0, .int (x6 - 1)] [] M1) fun x8 M7 => /- Model_in -/
      if x8 = 0 then
        am_rt 1 (-12) M7
      else
        am_gR g a0 12 55 fun q9 =>
        am_gR g a0 12 53 fun q10 =>
        am_ia g M7 q10 v1 fun x11 =>
        if x11 = 0 then
          am_is g M7 q9 ((100 * v1) + v2) v3.toInt8.toInt32 fun M16 =>
          am_rt 1 1 M16
        else
          am_gR g a0 12 53 fun q12 =>
          am_ia g M7 q12 v1 fun x13 =>
          if x13 = 1 then
            am_is g M7 q9 ((100 * v1) + v2) v3.toInt16.toInt32 fun M15 =>
            am_rt 1 1 M15
          else
            am_is g M7 q9 ((100 * v1) + v2) v3 fun M14 =>
            am_rt 1 1 M14) = some r) : F 106 0 [.ref a0, .int v1, .int v2, .int v3] [] M = some r := am_inF hF t_Model_cell h
set_option maxRecDepth 20000 in
set_option maxHeartbeats 2000000 in
theorem e_Model_copy {g : am_G} {F : am_FT} (hF : F = am_F T0 g) {M : am_M} {a0 : Nat} {v1 : Int32} {v2 : Int32} {v3 : Int32} {v4 : Int32} {v5 : Int32} {r : am_R} (h : (
  am_ci (F 53 0 [.int v1, .int 0, .int 3] [] M) fun x2 M1 => /- Model_in -/
  if x2 = 0 then
    am_rt 1 (-2) M1
  else
    am_ci (F 53 0 [.int v3, .int 0, .int 3] [] M1) fun x4 M3 => /- Model_in -/
    if x4 = 0 then
      am_rt 1 (-2) M3
    else
      am_gR g a0 12 53 fun q5 =>
      am_ia g M3 q5 v1 fun x6 =>
      if x6 = (-1) then
        am_rt 1 (-11) M3
      else
        am_gR g a0 12 53 fun q7 =>
        am_ia g M3 q7 v3 fun x8 =>
        if x8 = (-1) then
          am_rt 1 (-11) M3
        else
          am_gR g a0 12 53 fun q9 =>
          am_ia g M3 q9 v1 fun x10 =>
          am_gR g a0 12 53 fun q11 =>
          am_ia g M3 q11 v3 fun x12 =>
          if x10 = x12 then
            if v5 < 0 then
              am_rt 1 (-12) M3
            else
              if v2 < 0 then
                am_rt 1 (-12) M3
              else
                if v4 < 0 then
                  am_rt 1 (-12) M3
                else
                  am_gR g a0 12 54 fun q13 =>
                  am_ia g M3 q13 v1 fun x14 =>
                  if x14 < v2 then
                    am_rt 1 (-12) M3
                  else
                    am_gR g a0 12 54 fun q15 =>
                    am_ia g M3 q15 v3 fun x16 =>
                    if x16 < v4 then
                      am_rt 1 (-12) M3
                    else
                      am_gR g a0 12 54 fun q17 =>
                      am_ia g M3 q17 v1 fun x18 =>
                      if (x18 - v2) < v5 then
                        am_rt 1 (-12) M3
                      else
                        am_gR g a0 12 54 fun q19 =>
                        am_ia g M3 q19 v3 fun x20 =>
                        if v5 ≤ (x20 - v4) then
                          F 107 147 [.ref a0, .int v5, .int ((100 * v1) + v2), .int ((100 * v3) + v4), .int 0] [] M3
                        else
                          am_rt 1 (-12) M3
          else
            am_rt 1 (-13) M3) = some r) : F 107 0 [.ref a0, .int v1, .int v2, .int v3, .int v4, .int v5] [] M = some r := am_inF hF t_Model_copy h
set_option maxRecDepth 20000 in
set_option maxHeartbeats 2000000 in
theorem e_Model_copy_147 {g : am_G} {F : am_FT} (hF : F = am_F T0 g) {M : am_M} {a0 : Nat} {v5 : Int32} {v6 : Int32} {v7 : Int32} {v8 : Int32} {r : am_R} (h : (
  if v5 ≤ v8 then
    am_rt 1 v5 M
  else
    if v7 ≤ v6 then
      am_gR g a0 12 55 fun q1 =>
      am_gR g a0 12 55 fun q2 =>
      am_ia g M q2 (v6 + v8) fun x3 =>
      am_is g M q1 (v7 + v8) x3 fun M4 =>
      F 107 147 [.ref a0, .int v5, .int v6, .int v7, .int (v8 + 1)] [] M4
    else
      am_gR g a0 12 55 fun q5 =>
      am_gR g a0 12 55 fun q6 =>
      am_ia g M q6 (v6 + ((v5 - 1) - v8)) fun x7 =>
      am_is g M q5 (v7 + ((v5 - 1) - v8)) x7 fun M8 =>
      F 107 147 [.ref a0, .int v5, .int v6, .int v7, .int (v8 + 1)] [] M8) = some r) : F 107 147 [.ref a0, .int v5, .int v6, .int v7, .int v8] [] M = some r := am_inF hF t_Model_copy h
theorem e_Model_dx {g : am_G} {F : am_FT} (hF : F = am_F T0 g) {M : am_M} {a0 : Nat} {v1 : Int32} {r : am_R} (h : (
  am_gR g a0 12 1 fun q1 =>
  am_rc g a0 12 <|
  am_ci (F 50 0 [.ref a0, .int v1] [] M) fun x3 M2 => /- Model_end -/
  am_ia g M2 q1 x3 fun x4 =>
  am_gR g a0 12 1 fun q5 =>
  am_rc g a0 12 <|
  am_ci (F 44 0 [.ref a0, .int v1] [] M2) fun x7 M6 => /- Model_begin -/
  am_ia g M6 q5 x7 fun x8 =>
  am_rt 1 (x4 - x8) M6) = some r) : F 108 0 [.ref a0, .int v1] [] M = some r := am_inF hF t_Model_dx h
theorem e_Model_dy {g : am_G} {F : am_FT} (hF : F = am_F T0 g) {M : am_M} {a0 : Nat} {v1 : Int32} {r : am_R} (h : (
  am_gR g a0 12 2 fun q1 =>
  am_rc g a0 12 <|
  am_ci (F 50 0 [.ref a0, .int v1] [] M) fun x3 M2 => /- Model_end -/
  am_ia g M2 q1 x3 fun x4 =>
  am_gR g a0 12 2 fun q5 =>
  am_rc g a0 12 <|
  am_ci (F 44 0 [.ref a0, .int v1] [] M2) fun x7 M6 => /- Model_begin -/
  am_ia g M6 q5 x7 fun x8 =>
  am_rt 1 (x4 - x8) M6) = some r) : F 109 0 [.ref a0, .int v1] [] M = some r := am_inF hF t_Model_dy h
set_option maxRecDepth 20000 in
set_option maxHeartbeats 2000000 in
theorem e_Model_eats {g : am_G} {F : am_FT} (hF : F = am_F T0 g) {M : am_M} {a0 : Nat} {v1 : Int32} {r : am_R} (h : (
  am_gI g M a0 12 92 fun x1 =>
  if x1 = 0 then
    am_rc g a0 12 <|
    am_ci (F 52 0 [.ref a0] [] M) fun x4 M3 => /- Model_here -/
    if x4 = v1 then
      am_gI g M3 a0 12 75 fun x6 =>
      am_pI g M3 a0 12 75 (x6 + 1) fun M7 =>
      some (none, M7)
    else
      am_pZ g M3 a0 12 92 1 fun M5 =>
      some (none, M5)
  else
    am_pZ g M a0 12 92 1 fun M2 =>
    some (none, M2)) = some r) : F 110 0 [.ref a0, .int v1] [] M = some r := am_inF hF t_Model_eats h
theorem e_Model_examTold {g : am_G} {F : am_FT} (hF : F = am_F T0 g) {M : am_M} {a0 : Nat} {v1 : Int32} {v2 : Int32} {r : am_R} (h : (
  am_gI g M a0 12 49 fun x1 =>
  am_ci (F 53 0 [.int v1, .int 0, .int (x1 - 1)] [] M) fun x3 M2 => /- Model_in -/
  if x3 = 0 then
    am_rt 1 (-1) M2
  else
    am_ci (F 53 0 [.int v2, .int 0, .int 7] [] M2) fun x5 M4 => /- Model_in -/
    if x5 = 0 then
      am_rt 1 (-2) M4
    else
      am_gR g a0 12 50 fun q6 =>
      am_ia g M4 q6 ((8 * v1) + v2) fun x7 =>
      am_rt 1 x7 M4) = some r) : F 111 0 [.ref a0, .int v1, .int v2] [] M = some r := am_inF hF t_Model_examTold h
theorem e_Model_feed {g : am_G} {F : am_FT} (hF : F = am_F T0 g) {M : am_M} {a0 : Nat} {w1 : Int64} {v3 : Int32} {r : am_R} (h : (
  am_ci (F 53 0 [.int v3, .int 1, .int 8] [] M) fun x2 M1 => /- Model_in -/
  if x2 = 0 then
    am_rt 1 (-2) M1
  else
    am_gI g M1 a0 12 36 fun x3 =>
    if (x3 + v3) ≤ 160 then
      F 112 33 [.ref a0, .long w1, .int (v3 - 1)] [] M1
    else
      am_rt 1 (-4) M1) = some r) : F 112 0 [.ref a0, .long w1, .int v3] [] M = some r := am_inF hF t_Model_feed h
theorem e_Model_feed_33 {g : am_G} {F : am_FT} (hF : F = am_F T0 g) {M : am_M} {a0 : Nat} {w1 : Int64} {v4 : Int32} {r : am_R} (h : (
  if v4 < 0 then
    am_gI g M a0 12 36 fun x1 =>
    am_rt 1 x1 M
  else
    am_gR g a0 12 35 fun q2 =>
    am_gI g M a0 12 36 fun x3 =>
    am_is g M q2 x3 ((w1 >>> ((8 * v4).toInt64 &&& 63)) &&& 255).toInt32 fun M4 =>
    am_gI g M4 a0 12 36 fun x5 =>
    am_pI g M4 a0 12 36 (x5 + 1) fun M6 =>
    F 112 33 [.ref a0, .long w1, .int (v4 + (-1))] [] M6) = some r) : F 112 33 [.ref a0, .long w1, .int v4] [] M = some r := am_inF hF t_Model_feed h
set_option maxRecDepth 20000 in
set_option maxHeartbeats 2000000 in
theorem e_Model_follows {g : am_G} {F : am_FT} (hF : F = am_F T0 g) {M : am_M} {a0 : Nat} {v1 : Int32} {v2 : Int32} {r : am_R} (h : (
  am_rc g a0 12 <|
  am_ci (F 44 0 [.ref a0, .int v2] [] M) fun x2 M1 => /- Model_begin -/
  am_rc g a0 12 <|
  am_ci (F 50 0 [.ref a0, .int v1] [] M1) fun x4 M3 => /- Model_end -/
  if x2 = x4 then
    am_dv 2 <|
    am_dv 2 <|
    if (v2 / 2) = (v1 / 2) then
      am_rt 2 0 M3
    else
      am_rt 2 1 M3
  else
    am_rt 2 0 M3) = some r) : F 113 0 [.ref a0, .int v1, .int v2] [] M = some r := am_inF hF t_Model_follows h
theorem e_Model_heldOn {g : am_G} {F : am_FT} (hF : F = am_F T0 g) {M : am_M} {a0 : Nat} {v1 : Int32} {v2 : Int32} {r : am_R} (h : (
  F 114 5 [.ref a0, .int v1, .int v2, .int 0, .int 0] [] M) = some r) : F 114 0 [.ref a0, .int v1, .int v2] [] M = some r := am_inF hF t_Model_heldOn h
theorem e_Model_heldOn_5 {g : am_G} {F : am_FT} (hF : F = am_F T0 g) {M : am_M} {a0 : Nat} {v1 : Int32} {v2 : Int32} {v3 : Int32} {v4 : Int32} {r : am_R} (h : (
  if 6400 ≤ v4 then
    am_rt 1 v3 M
  else
    am_gR g a0 12 43 fun q1 =>
    am_ia g M q1 ((6400 * v1) + v4) fun x2 =>
    if x2 ≤ 0 then
      F 114 5 [.ref a0, .int v1, .int v2, .int (v3 + 0), .int (v4 + 1)] [] M
    else
      am_dv 80 <|
      am_dv 80 <|
      am_rc g a0 12 <|
      am_ci (F 55 0 [.ref a0, .int v1, .int (v4 / 80), .int (v4 - v4 / 80 * 80), .int v2] [] M) fun x4 M3 => /- Model_isHeld -/
      if x4 = 0 then
        F 114 5 [.ref a0, .int v1, .int v2, .int (v3 + 0), .int (v4 + 1)] [] M3
      else
        F 114 5 [.ref a0, .int v1, .int v2, .int (v3 + 1), .int (v4 + 1)] [] M3) = some r) : F 114 5 [.ref a0, .int v1, .int v2, .int v3, .int v4] [] M = some r := am_inF hF t_Model_heldOn h
theorem e_Model_isDoor {g : am_G} {F : am_FT} (hF : F = am_F T0 g) {M : am_M} {a0 : Nat} {v1 : Int32} {r : am_R} (h : (
  am_gI g M a0 12 10 fun x1 =>
  am_ci (F 53 0 [.int v1, .int 0, .int (x1 - 1)] [] M) fun x3 M2 => /- Model_in -/
  am_rt 2 x3 M2) = some r) : F 115 0 [.ref a0, .int v1] [] M = some r := am_inF hF t_Model_isDoor h
theorem e_Model_isHour {g : am_G} {F : am_FT} (hF : F = am_F T0 g) {M : am_M} {v0 : Int32} {r : am_R} (h : (
  am_ci (F 53 0 [.int v0, .int 0, .int 23] [] M) fun x2 M1 => /- Model_in -/
  am_rt 2 x2 M1) = some r) : F 116 0 [.int v0] [] M = some r := am_inF hF t_Model_isHour h
theorem e_Model_isLeg {g : am_G} {F : am_FT} (hF : F = am_F T0 g) {M : am_M} {a0 : Nat} {v1 : Int32} {r : am_R} (h : (
  am_gI g M a0 12 4 fun x1 =>
  am_ci (F 53 0 [.int v1, .int 0, .int ((2 * x1) - 1)] [] M) fun x3 M2 => /- Model_in -/
  am_rt 2 x3 M2) = some r) : F 117 0 [.ref a0, .int v1] [] M = some r := am_inF hF t_Model_isLeg h
set_option maxRecDepth 20000 in
set_option maxHeartbeats 2000000 in
theorem e_Model_isOpen {g : am_G} {F : am_FT} (hF : F = am_F T0 g) {M : am_M} {a0 : Nat} {v1 : Int32} {v2 : Int32} {r : am_R} (h : (
  am_gR g a0 12 5 fun q1 =>
  am_ia g M q1 v1 fun x2 =>
  if x2 = 3 then
    am_ci (F 53 0 [.int v2, .int 5, .int 21] [] M) fun x6 M5 => /- Model_in -/
    am_rt 2 x6 M5
  else
    am_gR g a0 12 5 fun q3 =>
    am_ia g M q3 v1 fun x4 =>
    if x4 = 5 then
      if v2 = 3 then
        am_rt 2 0 M
      else
        am_rt 2 1 M
    else
      am_rt 2 1 M) = some r) : F 118 0 [.ref a0, .int v1, .int v2] [] M = some r := am_inF hF t_Model_isOpen h
theorem e_Model_isPupil {g : am_G} {F : am_FT} (hF : F = am_F T0 g) {M : am_M} {a0 : Nat} {v1 : Int32} {r : am_R} (h : (
  am_gI g M a0 12 41 fun x1 =>
  am_ci (F 53 0 [.int v1, .int 0, .int (x1 - 1)] [] M) fun x3 M2 => /- Model_in -/
  am_rt 2 x3 M2) = some r) : F 119 0 [.ref a0, .int v1] [] M = some r := am_inF hF t_Model_isPupil h
theorem e_Model_isSaid {g : am_G} {F : am_FT} (hF : F = am_F T0 g) {M : am_M} {a0 : Nat} {v1 : Int32} {v2 : Int32} {v3 : Int32} {v4 : Int32} {v5 : Int32} {r : am_R} (h : (
  am_gJ g M a0 12 77 fun l1 =>
  am_cj (F 65 0 [.int v1, .int v2, .int v3, .int v4, .int v5] [] M) fun l3 M2 => /- Model_wordOf -/
  if (lg_cmp l1 l3) = 0 then
    am_rt 2 1 M2
  else
    am_rt 2 0 M2) = some r) : F 120 0 [.ref a0, .int v1, .int v2, .int v3, .int v4, .int v5] [] M = some r := am_inF hF t_Model_isSaid h
theorem e_Model_isSaidRun {g : am_G} {F : am_FT} (hF : F = am_F T0 g) {M : am_M} {a0 : Nat} {v1 : Int32} {r : am_R} (h : (
  am_gI g M a0 12 37 fun x1 =>
  am_ci (F 53 0 [.int v1, .int 0, .int (x1 - 1)] [] M) fun x3 M2 => /- Model_in -/
  am_rt 2 x3 M2) = some r) : F 121 0 [.ref a0, .int v1] [] M = some r := am_inF hF t_Model_isSaidRun h
theorem e_Model_isWay {g : am_G} {F : am_FT} (hF : F = am_F T0 g) {M : am_M} {a0 : Nat} {v1 : Int32} {r : am_R} (h : (
  am_gI g M a0 12 4 fun x1 =>
  am_ci (F 53 0 [.int v1, .int 0, .int (x1 - 1)] [] M) fun x3 M2 => /- Model_in -/
  am_rt 2 x3 M2) = some r) : F 122 0 [.ref a0, .int v1] [] M = some r := am_inF hF t_Model_isWay h
theorem e_Model_isWord {g : am_G} {F : am_FT} (hF : F = am_F T0 g) {M : am_M} {w0 : Int64} {r : am_R} (h : (
  F 123 5 [.long w0, .int 0] [] M) = some r) : F 123 0 [.long w0] [] M = some r := am_inF hF t_Model_isWord h
set_option maxRecDepth 20000 in
set_option maxHeartbeats 2000000 in
theorem e_Model_isWord_5 {g : am_G} {F : am_FT} (hF : F = am_F T0 g) {M : am_M} {w2 : Int64} {v4 : Int32} {r : am_R} (h : (
  if (lg_cmp w2 0) = 0 then
    if v4 ≤ 0 then
      am_rt 2 0 M
    else
      if (lg_cmp w2 0) = 0 then
        am_rt 2 1 M
      else
        am_rt 2 0 M
  else
    if 8 ≤ v4 then
      if v4 ≤ 0 then
        am_rt 2 0 M
      else
        if (lg_cmp w2 0) = 0 then
          am_rt 2 1 M
        else
          am_rt 2 0 M
    else
      am_ci (F 53 0 [.int (w2 &&& 255).toInt32, .int 97, .int 122] [] M) fun x2 M1 => /- Model_in -/
      if x2 = 0 then
        am_rt 2 0 M1
      else
        F 123 5 [.long (w2 >>> ((8 : Int32).toInt64 &&& 63)), .int (v4 + 1)] [] M1) = some r) : F 123 5 [.long w2, .int v4] [] M = some r := am_inF hF t_Model_isWord h
theorem e_Model_junction {g : am_G} {F : am_FT} (hF : F = am_F T0 g) {M : am_M} {a0 : Nat} {v1 : Int32} {v2 : Int32} {v3 : Int32} {r : am_R} (h : (
  am_ci (F 53 0 [.int v1, .int 0, .int 99] [] M) fun x2 M1 => /- Model_in -/
  if x2 = 0 then
    am_rt 1 (-2) M1
  else
    am_ci (F 53 0 [.int v2, .int 0, .int 99] [] M1) fun x4 M3 => /- Model_in -/
    if x4 = 0 then
      am_rt 1 (-2) M3
    else
      am_ci (F 53 0 [.int v3, .int 0, .int 1] [] M3) fun x6 M5 => /- Model_in -/
      if x6 = 0 then
        am_rt 1 (-2) M5
      else
        F 124 35 [.ref a0, .int v1, .int v2, .int v3, .int 0] [] M5) = some r) : F 124 0 [.ref a0, .int v1, .int v2, .int v3] [] M = some r := am_inF hF t_Model_junction h
set_option maxRecDepth 20000 in
set_option maxHeartbeats 2000000 in
theorem e_Model_junction_35 {g : am_G} {F : am_FT} (hF : F = am_F T0 g) {M : am_M} {a0 : Nat} {v1 : Int32} {v2 : Int32} {v3 : Int32} {v4 : Int32} {r : am_R} (h : (
  am_gI g M a0 12 0 fun x1 =>
  if x1 ≤ v4 then
    am_gI g M a0 12 0 fun x2 =>
    if x2 = 24 then
      am_rt 1 (-4) M
    else
      am_gR g a0 12 1 fun q3 =>
      am_gI g M a0 12 0 fun x4 =>
      am_is g M q3 x4 v1 fun M5 =>
      am_gR g a0 12 2 fun q6 =>
      am_gI g M5 a0 12 0 fun x7 =>
      am_is g M5 q6 x7 v2 fun M8 =>
      am_gR g a0 12 3 fun q9 =>
      am_gI g M8 a0 12 0 fun x10 =>
      if v3 = 1 then
        am_zs g M8 q9 x10 1 fun M17 =>
        am_gI g M17 a0 12 0 fun x18 =>
        am_pI g M17 a0 12 0 (x18 + 1) fun M19 =>
        am_gI g M19 a0 12 0 fun x20 =>
        am_rc g a0 12 <|
        am_ci (F 46 0 [.ref a0, .int 0, .int (x20 - 1)] [] M19) fun x22 M21 => /- Model_comes -/
        am_rt 1 x22 M21
      else
        am_zs g M8 q9 x10 0 fun M11 =>
        am_gI g M11 a0 12 0 fun x12 =>
        am_pI g M11 a0 12 0 (x12 + 1) fun M13 =>
        am_gI g M13 a0 12 0 fun x14 =>
        am_rc g a0 12 <|
        am_ci (F 46 0 [.ref a0, .int 0, .int (x14 - 1)] [] M13) fun x16 M15 => /- Model_comes -/
        am_rt 1 x16 M15
  else
    am_gR g a0 12 1 fun q23 =>
    am_ia g M q23 v4 fun x24 =>
    if x24 = v1 then
      am_gR g a0 12 2 fun q25 =>
      am_ia g M q25 v4 fun x26 =>
      if x26 = v2 then
        am_rt 1 (-3) M
      else
        F 124 35 [.ref a0, .int v1, .int v2, .int v3, .int (v4 + 1)] [] M
    else
      F 124 35 [.ref a0, .int v1, .int v2, .int v3, .int (v4 + 1)] [] M) = some r) : F 124 35 [.ref a0, .int v1, .int v2, .int v3, .int v4] [] M = some r := am_inF hF t_Model_junction h
theorem e_Model_leg {g : am_G} {F : am_FT} (hF : F = am_F T0 g) {M : am_M} {a0 : Nat} {v1 : Int32} {r : am_R} (h : (
  am_gI g M a0 12 72 fun x1 =>
  am_ci (F 53 0 [.int v1, .int 0, .int (x1 - 1)] [] M) fun x3 M2 => /- Model_in -/
  if x3 = 0 then
    am_rt 1 (-1) M2
  else
    am_gR g a0 12 71 fun q4 =>
    am_ia g M2 q4 v1 fun x5 =>
    am_rt 1 x5 M2) = some r) : F 125 0 [.ref a0, .int v1] [] M = some r := am_inF hF t_Model_leg h
theorem e_Model_number {g : am_G} {F : am_FT} (hF : F = am_F T0 g) {M : am_M} {a0 : Nat} {r : am_R} (h : (
  F 126 4 [.ref a0, .int 0, .int 0] [] M) = some r) : F 126 0 [.ref a0] [] M = some r := am_inF hF t_Model_number h
set_option maxRecDepth 20000 in
set_option maxHeartbeats 2000000 in
theorem e_Model_number_4 {g : am_G} {F : am_FT} (hF : F = am_F T0 g) {M : am_M} {a0 : Nat} {v1 : Int32} {v2 : Int32} {r : am_R} (h : (
  am_gI g M a0 12 92 fun x1 =>
  if x1 = 0 then
    if 4 ≤ v2 then
      am_gI g M a0 12 92 fun x6 =>
      if x6 = 0 then
        if v2 = 0 then
          am_pZ g M a0 12 92 1 fun M9 =>
          am_rt 1 v1 M9
        else
          am_pZ g M a0 12 92 0 fun M8 =>
          am_rt 1 v1 M8
      else
        am_pZ g M a0 12 92 1 fun M7 =>
        am_rt 1 v1 M7
    else
      am_rc g a0 12 <|
      am_ci (F 52 0 [.ref a0] [] M) fun x11 M10 => /- Model_here -/
      am_ci (F 53 0 [.int x11, .int 48, .int 57] [] M10) fun x13 M12 => /- Model_in -/
      if x13 = 0 then
        am_gI g M12 a0 12 92 fun x14 =>
        if x14 = 0 then
          if v2 = 0 then
            am_pZ g M12 a0 12 92 1 fun M17 =>
            am_rt 1 v1 M17
          else
            am_pZ g M12 a0 12 92 0 fun M16 =>
            am_rt 1 v1 M16
        else
          am_pZ g M12 a0 12 92 1 fun M15 =>
          am_rt 1 v1 M15
      else
        am_rc g a0 12 <|
        am_ci (F 52 0 [.ref a0] [] M12) fun x19 M18 => /- Model_here -/
        am_gI g M18 a0 12 75 fun x20 =>
        am_pI g M18 a0 12 75 (x20 + 1) fun M21 =>
        F 126 4 [.ref a0, .int (((10 * v1) + x19) - 48), .int (v2 + 1)] [] M21
  else
    am_gI g M a0 12 92 fun x2 =>
    if x2 = 0 then
      if v2 = 0 then
        am_pZ g M a0 12 92 1 fun M5 =>
        am_rt 1 v1 M5
      else
        am_pZ g M a0 12 92 0 fun M4 =>
        am_rt 1 v1 M4
    else
      am_pZ g M a0 12 92 1 fun M3 =>
      am_rt 1 v1 M3) = some r) : F 126 4 [.ref a0, .int v1, .int v2] [] M = some r := am_inF hF t_Model_number h
set_option maxRecDepth 20000 in
set_option maxHeartbeats 2000000 in
theorem e_Model_off {g : am_G} {F : am_FT} (hF : F = am_F T0 g) {M : am_M} {a0 : Nat} {v1 : Int32} {r : am_R} (h : (
  am_gI g M a0 12 69 fun x1 =>
  am_gI g M a0 12 67 fun x2 =>
  am_gI g M a0 12 70 fun x3 =>
  am_gI g M a0 12 68 fun x4 =>
  am_gR g a0 12 1 fun q5 =>
  am_rc g a0 12 <|
  am_ci (F 50 0 [.ref a0, .int v1] [] M) fun x7 M6 => /- Model_end -/
  am_ia g M6 q5 x7 fun x8 =>
  am_gI g M6 a0 12 67 fun x9 =>
  am_gR g a0 12 2 fun q10 =>
  am_rc g a0 12 <|
  am_ci (F 50 0 [.ref a0, .int v1] [] M6) fun x12 M11 => /- Model_end -/
  am_ia g M11 q10 x12 fun x13 =>
  am_gI g M11 a0 12 68 fun x14 =>
  am_ci (F 49 0 [.int (x1 - x2), .int (x3 - x4), .int (x8 - x9), .int (x13 - x14)] [] M11) fun x16 M15 => /- Model_cross -/
  if 0 ≤ x16 then
    some (some (.long x16.toInt64), M15)
  else
    some (some (.long (-x16).toInt64), M15)) = some r) : F 127 0 [.ref a0, .int v1] [] M = some r := am_inF hF t_Model_off h
theorem e_Model_pass {g : am_G} {F : am_FT} (hF : F = am_F T0 g) {M : am_M} {a0 : Nat} {v1 : Int32} {r : am_R} (h : (
  am_ci (F 53 0 [.int v1, .int 1, .int 100] [] M) fun x2 M1 => /- Model_in -/
  if x2 = 0 then
    am_rt 1 (-2) M1
  else
    am_gI g M1 a0 12 14 fun x3 =>
    if (x3 + v1) ≤ 299 then
      am_gI g M1 a0 12 14 fun x4 =>
      am_pI g M1 a0 12 14 (x4 + v1) fun M5 =>
      am_gI g M5 a0 12 14 fun x6 =>
      am_rt 1 x6 M5
    else
      am_rt 1 (-4) M1) = some r) : F 128 0 [.ref a0, .int v1] [] M = some r := am_inF hF t_Model_pass h
theorem e_Model_planned {g : am_G} {F : am_FT} (hF : F = am_F T0 g) {M : am_M} {a0 : Nat} {v1 : Int32} {r : am_R} (h : (
  am_gI g M a0 12 89 fun x1 =>
  am_ci (F 53 0 [.int v1, .int 0, .int (x1 - 1)] [] M) fun x3 M2 => /- Model_in -/
  if x3 = 0 then
    am_rt 1 (-1) M2
  else
    am_gR g a0 12 88 fun q4 =>
    am_ia g M2 q4 v1 fun x5 =>
    am_rt 1 x5 M2) = some r) : F 129 0 [.ref a0, .int v1] [] M = some r := am_inF hF t_Model_planned h
set_option maxRecDepth 20000 in
set_option maxHeartbeats 2000000 in
theorem e_Model_priceOf {g : am_G} {F : am_FT} (hF : F = am_F T0 g) {M : am_M} {a0 : Nat} {v1 : Int32} {v2 : Int32} {r : am_R} (h : (
  am_gR g a0 12 8 fun q1 =>
  am_ia g M q1 v1 fun x2 =>
  am_gR g a0 12 5 fun q3 =>
  am_ia g M q3 v1 fun x4 =>
  if x4 = 0 then
    am_rt 1 x2 M
  else
  if x4 = 1 then
    am_rt 1 (x2 + 20) M
  else
  if x4 = 2 then
    am_dv 10 <|
    am_rt 1 (x2 + (x2 / 10)) M
  else
  if x4 = 3 then
    am_ci (F 53 0 [.int v2, .int 8, .int 16] [] M) fun x6 M5 => /- Model_in -/
    if x6 = 0 then
      am_rt 1 ((x2 + 20) + 0) M5
    else
      am_rt 1 ((x2 + 20) + 10) M5
  else
    am_dv 10 <|
    am_ci (F 53 0 [.int v2, .int 7, .int 9] [] M) fun x8 M7 => /- Model_in -/
    if x8 = 0 then
      am_gR g a0 12 5 fun q9 =>
      am_ia g M7 q9 v1 fun x10 =>
      if x10 = 5 then
        am_rt 1 (((x2 + (x2 / 10)) * 1) + 100) M7
      else
        am_rt 1 ((x2 + (x2 / 10)) * 1) M7
    else
      am_gR g a0 12 5 fun q11 =>
      am_ia g M7 q11 v1 fun x12 =>
      if x12 = 5 then
        am_rt 1 (((x2 + (x2 / 10)) * 2) + 100) M7
      else
        am_rt 1 ((x2 + (x2 / 10)) * 2) M7) = some r) : F 130 0 [.ref a0, .int v1, .int v2] [] M = some r := am_inF hF t_Model_priceOf h
set_option maxRecDepth 20000 in
set_option maxHeartbeats 2000000 in
theorem e_Model_pupil {g : am_G} {F : am_FT} (hF : F = am_F T0 g) {M : am_M} {a0 : Nat} {v1 : Int32} {r : am_R} (h : (
  am_ci (F 53 0 [.int v1, .int 1, .int 30] [] M) fun x2 M1 => /- Model_in -/
  if x2 = 0 then
    am_rt 1 (-2) M1
  else
    am_gI g M1 a0 12 41 fun x3 =>
    if x3 = 4 then
      am_rt 1 (-4) M1
    else
      am_gR g a0 12 42 fun q4 =>
      am_gI g M1 a0 12 41 fun x5 =>
      am_is g M1 q4 x5 v1 fun M6 =>
      am_gI g M6 a0 12 41 fun x7 =>
      am_pI g M6 a0 12 41 (x7 + 1) fun M8 =>
      am_gI g M8 a0 12 41 fun x9 =>
      am_rt 1 (x9 - 1) M8) = some r) : F 131 0 [.ref a0, .int v1] [] M = some r := am_inF hF t_Model_pupil h
theorem e_Model_quarter {g : am_G} {F : am_FT} (hF : F = am_F T0 g) {M : am_M} {v0 : Int32} {v1 : Int32} {v2 : Int32} {v3 : Int32} {r : am_R} (h : (
  am_ci (F 49 0 [.int v0, .int v1, .int v2, .int v3] [] M) fun x2 M1 => /- Model_cross -/
  if 0 ≤ x2 then
    if x2 ≤ 0 then
      if ((v0 * v2) + (v1 * v3)) ≤ 0 then
        am_rt 1 2 M1
      else
        am_rt 1 0 M1
    else
      am_rt 1 3 M1
  else
    am_rt 1 1 M1) = some r) : F 132 0 [.int v0, .int v1, .int v2, .int v3] [] M = some r := am_inF hF t_Model_quarter h
set_option maxRecDepth 20000 in
set_option maxHeartbeats 2000000 in
theorem e_Model_read {g : am_G} {F : am_FT} (hF : F = am_F T0 g) {M : am_M} {a0 : Nat} {v1 : Int32} {v2 : Int32} {r : am_R} (h : (
  am_ci (F 53 0 [.int v1, .int 0, .int 3] [] M) fun x2 M1 => /- Model_in -/
  if x2 = 0 then
    am_rt 1 (-2) M1
  else
    am_gR g a0 12 54 fun q3 =>
    am_ia g M1 q3 v1 fun x4 =>
    am_ci (F 53 0 [.int v2, .int 0, .int (x4 - 1)] [] M1) fun x6 M5 => /- Model_in -/
    if x6 = 0 then
      am_rt 1 0 M5
    else
      am_gR g a0 12 55 fun q7 =>
      am_ia g M5 q7 ((100 * v1) + v2) fun x8 =>
      am_rt 1 x8 M5) = some r) : F 133 0 [.ref a0, .int v1, .int v2] [] M = some r := am_inF hF t_Model_read h
theorem e_Model_reads {g : am_G} {F : am_FT} (hF : F = am_F T0 g) {M : am_M} {a0 : Nat} {r : am_R} (h : (
  am_rc g a0 12 <|
  am_cv (F 61 0 [.ref a0] [] M) fun M1 => /- Model_skips -/
  am_pJ g M1 a0 12 77 0 fun M2 =>
  F 134 11 [.ref a0, .int 0] [] M2) = some r) : F 134 0 [.ref a0] [] M = some r := am_inF hF t_Model_reads h
set_option maxRecDepth 20000 in
set_option maxHeartbeats 2000000 in
theorem e_Model_reads_11 {g : am_G} {F : am_FT} (hF : F = am_F T0 g) {M : am_M} {a0 : Nat} {v1 : Int32} {r : am_R} (h : (
  am_gI g M a0 12 75 fun x1 =>
  am_gI g M a0 12 36 fun x2 =>
  if x2 ≤ x1 then
    if v1 ≤ 8 then
      am_gJ g M a0 12 77 fun l3 =>
      am_pJ g M a0 12 77 l3 fun M4 =>
      some (none, M4)
    else
      am_pJ g M a0 12 77 0 fun M5 =>
      some (none, M5)
  else
    am_gR g a0 12 35 fun q6 =>
    am_gI g M a0 12 75 fun x7 =>
    am_ia g M q6 x7 fun x8 =>
    am_ci (F 53 0 [.int x8, .int 97, .int 122] [] M) fun x10 M9 => /- Model_in -/
    if x10 = 0 then
      if v1 ≤ 8 then
        am_gJ g M9 a0 12 77 fun l11 =>
        am_pJ g M9 a0 12 77 l11 fun M12 =>
        some (none, M12)
      else
        am_pJ g M9 a0 12 77 0 fun M13 =>
        some (none, M13)
    else
      if 8 ≤ v1 then
        am_gJ g M9 a0 12 77 fun l14 =>
        am_pJ g M9 a0 12 77 l14 fun M15 =>
        am_gI g M15 a0 12 75 fun x16 =>
        am_pI g M15 a0 12 75 (x16 + 1) fun M17 =>
        F 134 11 [.ref a0, .int (v1 + 1)] [] M17
      else
        am_gJ g M9 a0 12 77 fun l18 =>
        am_gR g a0 12 35 fun q19 =>
        am_gI g M9 a0 12 75 fun x20 =>
        am_ia g M9 q19 x20 fun x21 =>
        am_pJ g M9 a0 12 77 ((l18 <<< ((8 : Int32).toInt64 &&& 63)) ||| x21.toInt64) fun M22 =>
        am_gI g M22 a0 12 75 fun x23 =>
        am_pI g M22 a0 12 75 (x23 + 1) fun M24 =>
        F 134 11 [.ref a0, .int (v1 + 1)] [] M24) = some r) : F 134 11 [.ref a0, .int v1] [] M = some r := am_inF hF t_Model_reads h
theorem e_Model_rides {g : am_G} {F : am_FT} (hF : F = am_F T0 g) {M : am_M} {a0 : Nat} {v1 : Int32} {v2 : Int32} {v3 : Int32} {r : am_R} (h : (
  F 135 3 [.ref a0, .int v1, .int v2, .int v3, .int 0] [] M) = some r) : F 135 0 [.ref a0, .int v1, .int v2, .int v3] [] M = some r := am_inF hF t_Model_rides h
set_option maxRecDepth 20000 in
set_option maxHeartbeats 2000000 in
theorem e_Model_rides_3 {g : am_G} {F : am_FT} (hF : F = am_F T0 g) {M : am_M} {a0 : Nat} {v1 : Int32} {v2 : Int32} {v3 : Int32} {v4 : Int32} {r : am_R} (h : (
  am_gR g a0 12 38 fun q1 =>
  am_ia g M q1 v2 fun x2 =>
  if (x2 - 1) ≤ v4 then
    some (none, M)
  else
    am_rc g a0 12 <|
    am_ci (F 60 0 [.ref a0, .int v2, .int v4] [] M) fun x4 M3 => /- Model_linkOf -/
    if x4 = (-1) then
      F 135 3 [.ref a0, .int v1, .int v2, .int v3, .int (v4 + 1)] [] M3
    else
      am_gR g a0 12 43 fun q5 =>
      am_ia g M3 q5 ((6400 * v1) + x4) fun x6 =>
      am_gR g a0 12 43 fun q7 =>
      am_ia g M3 q7 ((6400 * v1) + x4) fun x8 =>
      if 6 ≤ x8 then
        am_is g M3 q5 ((6400 * v1) + x4) (x6 + 0) fun M9 =>
        am_gR g a0 12 44 fun q10 =>
        am_is g M9 q10 ((6400 * v1) + x4) v3 fun M11 =>
        F 135 3 [.ref a0, .int v1, .int v2, .int v3, .int (v4 + 1)] [] M11
      else
        am_is g M3 q5 ((6400 * v1) + x4) (x6 + 1) fun M12 =>
        am_gR g a0 12 44 fun q13 =>
        am_is g M12 q13 ((6400 * v1) + x4) v3 fun M14 =>
        F 135 3 [.ref a0, .int v1, .int v2, .int v3, .int (v4 + 1)] [] M14) = some r) : F 135 3 [.ref a0, .int v1, .int v2, .int v3, .int v4] [] M = some r := am_inF hF t_Model_rides h
set_option maxRecDepth 20000 in
set_option maxHeartbeats 2000000 in
theorem e_Model_ring {g : am_G} {F : am_FT} (hF : F = am_F T0 g) {M : am_M} {a0 : Nat} {v1 : Int32} {v2 : Int32} {r : am_R} (h : (
  am_gI g M a0 12 0 fun x1 =>
  am_ci (F 53 0 [.int v1, .int 0, .int (x1 - 1)] [] M) fun x3 M2 => /- Model_in -/
  if x3 = 0 then
    am_rt 1 (-1) M2
  else
    am_ci (F 53 0 [.int v2, .int 0, .int 1] [] M2) fun x5 M4 => /- Model_in -/
    if x5 = 0 then
      am_rt 1 (-2) M4
    else
      am_gR g a0 12 3 fun q6 =>
      am_za g M4 q6 v1 fun x7 =>
      if x7 = 0 then
        am_gR g a0 12 3 fun q8 =>
        if v2 = 1 then
          am_zs g M4 q8 v1 1 fun M10 =>
          am_rt 1 0 M10
        else
          am_zs g M4 q8 v1 0 fun M9 =>
          am_rt 1 0 M9
      else
        am_gR g a0 12 3 fun q11 =>
        if v2 = 1 then
          am_zs g M4 q11 v1 1 fun M13 =>
          am_rt 1 1 M13
        else
          am_zs g M4 q11 v1 0 fun M12 =>
          am_rt 1 1 M12) = some r) : F 136 0 [.ref a0, .int v1, .int v2] [] M = some r := am_inF hF t_Model_ring h
set_option maxRecDepth 20000 in
set_option maxHeartbeats 2000000 in
theorem e_Model_run {g : am_G} {F : am_FT} (hF : F = am_F T0 g) {M : am_M} {a0 : Nat} {v1 : Int32} {v2 : Int32} {r : am_R} (h : (
  am_gI g M a0 12 37 fun x1 =>
  am_ci (F 53 0 [.int v1, .int 0, .int (x1 - 1)] [] M) fun x3 M2 => /- Model_in -/
  if x3 = 0 then
    am_rt 1 (-1) M2
  else
    am_gR g a0 12 38 fun q4 =>
    am_ia g M2 q4 v1 fun x5 =>
    am_ci (F 53 0 [.int v2, .int (-1), .int (x5 - 1)] [] M2) fun x7 M6 => /- Model_in -/
    if x7 = 0 then
      am_rt 1 (-2) M6
    else
      if v2 = (-1) then
        am_gR g a0 12 38 fun q10 =>
        am_ia g M6 q10 v1 fun x11 =>
        am_rt 1 x11 M6
      else
        am_gR g a0 12 39 fun q8 =>
        am_ia g M6 q8 ((21 * v1) + v2) fun x9 =>
        am_rt 1 x9 M6) = some r) : F 137 0 [.ref a0, .int v1, .int v2] [] M = some r := am_inF hF t_Model_run h
theorem e_Model_runTold {g : am_G} {F : am_FT} (hF : F = am_F T0 g) {M : am_M} {a0 : Nat} {v1 : Int32} {v2 : Int32} {r : am_R} (h : (
  am_gI g M a0 12 37 fun x1 =>
  am_ci (F 53 0 [.int v1, .int 0, .int (x1 - 1)] [] M) fun x3 M2 => /- Model_in -/
  if x3 = 0 then
    am_rt 1 (-1) M2
  else
    am_ci (F 53 0 [.int v2, .int 0, .int 5] [] M2) fun x5 M4 => /- Model_in -/
    if x5 = 0 then
      am_rt 1 (-2) M4
    else
      am_gR g a0 12 40 fun q6 =>
      am_ia g M4 q6 ((6 * v1) + v2) fun x7 =>
      am_rt 1 x7 M4) = some r) : F 138 0 [.ref a0, .int v1, .int v2] [] M = some r := am_inF hF t_Model_runTold h
set_option maxRecDepth 20000 in
set_option maxHeartbeats 2000000 in
theorem e_Model_sheet {g : am_G} {F : am_FT} (hF : F = am_F T0 g) {M : am_M} {a0 : Nat} {v1 : Int32} {v2 : Int32} {v3 : Int32} {r : am_R} (h : (
  am_ci (F 53 0 [.int v1, .int 0, .int 3] [] M) fun x2 M1 => /- Model_in -/
  if x2 = 0 then
    am_rt 1 (-2) M1
  else
    am_ci (F 53 0 [.int v2, .int (-1), .int 2] [] M1) fun x4 M3 => /- Model_in -/
    if x4 = 0 then
      am_rt 1 (-2) M3
    else
      if v2 = (-1) then
        if v2 = (-1) then
          am_gR g a0 12 53 fun q5 =>
          am_is g M3 q5 v1 v2 fun M6 =>
          am_gR g a0 12 54 fun q7 =>
          if v2 = (-1) then
            am_is g M6 q7 v1 0 fun M9 =>
            F 139 70 [.ref a0, .int v1, .int 0] [] M9
          else
            am_is g M6 q7 v1 v3 fun M8 =>
            F 139 70 [.ref a0, .int v1, .int 0] [] M8
        else
          if 0 ≤ v3 then
            am_gR g a0 12 53 fun q10 =>
            am_is g M3 q10 v1 v2 fun M11 =>
            am_gR g a0 12 54 fun q12 =>
            if v2 = (-1) then
              am_is g M11 q12 v1 0 fun M14 =>
              F 139 70 [.ref a0, .int v1, .int 0] [] M14
            else
              am_is g M11 q12 v1 v3 fun M13 =>
              F 139 70 [.ref a0, .int v1, .int 0] [] M13
          else
            am_rt 1 (-14) M3
      else
        if v3 ≤ 100 then
          if v2 = (-1) then
            am_gR g a0 12 53 fun q15 =>
            am_is g M3 q15 v1 v2 fun M16 =>
            am_gR g a0 12 54 fun q17 =>
            if v2 = (-1) then
              am_is g M16 q17 v1 0 fun M19 =>
              F 139 70 [.ref a0, .int v1, .int 0] [] M19
            else
              am_is g M16 q17 v1 v3 fun M18 =>
              F 139 70 [.ref a0, .int v1, .int 0] [] M18
          else
            if 0 ≤ v3 then
              am_gR g a0 12 53 fun q20 =>
              am_is g M3 q20 v1 v2 fun M21 =>
              am_gR g a0 12 54 fun q22 =>
              if v2 = (-1) then
                am_is g M21 q22 v1 0 fun M24 =>
                F 139 70 [.ref a0, .int v1, .int 0] [] M24
              else
                am_is g M21 q22 v1 v3 fun M23 =>
                F 139 70 [.ref a0, .int v1, .int 0] [] M23
            else
              am_rt 1 (-14) M3
        else
          am_rt 1 (-2) M3) = some r) : F 139 0 [.ref a0, .int v1, .int v2, .int v3] [] M = some r := am_inF hF t_Model_sheet h
theorem e_Model_sheet_70 {g : am_G} {F : am_FT} (hF : F = am_F T0 g) {M : am_M} {a0 : Nat} {v1 : Int32} {v4 : Int32} {r : am_R} (h : (
  if 100 ≤ v4 then
    am_rt 1 1 M
  else
    am_gR g a0 12 55 fun q1 =>
    am_is g M q1 ((100 * v1) + v4) 0 fun M2 =>
    F 139 70 [.ref a0, .int v1, .int (v4 + 1)] [] M2) = some r) : F 139 70 [.ref a0, .int v1, .int v4] [] M = some r := am_inF hF t_Model_sheet h
set_option maxRecDepth 20000 in
set_option maxHeartbeats 2000000 in
theorem e_Model_taken {g : am_G} {F : am_FT} (hF : F = am_F T0 g) {M : am_M} {a0 : Nat} {v1 : Int32} {v2 : Int32} {r : am_R} (h : (
  am_ci (F 53 0 [.int v2, .int 0, .int 8] [] M) fun x2 M1 => /- Model_in -/
  if x2 = 0 then
    am_rt 1 (-2) M1
  else
    am_gI g M1 a0 12 34 fun x3 =>
    am_pI g M1 a0 12 34 (x3 + 1) fun M4 =>
    am_gI g M4 a0 12 31 fun x5 =>
    am_ci (F 53 0 [.int v1, .int 0, .int (x5 - 1)] [] M4) fun x7 M6 => /- Model_in -/
    if x7 = 0 then
      am_rt 1 (-11) M6
    else
      am_gR g a0 12 32 fun q8 =>
      am_ia g M6 q8 v1 fun x9 =>
      am_gR g a0 12 33 fun q10 =>
      am_ia g M6 q10 v1 fun x11 =>
      if v2 = 8 then
        am_rt 1 x9 M6
      else
        if v2 < 6 then
          if x9 = 1 then
            am_gR g a0 12 5 fun q12 =>
            am_ia g M6 q12 x11 fun x13 =>
            am_ci (F 58 0 [.int x13, .int v2] [] M6) fun x15 M14 => /- Model_isUnder -/
            if x15 = 0 then
              am_rt 1 (-13) M14
            else
              am_gR g a0 12 8 fun q16 =>
              am_ia g M14 q16 x11 fun x17 =>
              am_rt 1 x17 M14
          else
            am_rt 1 (-13) M6
        else
          if v2 = 6 then
            if x9 = 0 then
              if v2 = 6 then
                am_gR g a0 12 1 fun q24 =>
                am_ia g M6 q24 x11 fun x25 =>
                am_rt 1 x25 M6
              else
                am_gR g a0 12 12 fun q22 =>
                am_ia g M6 q22 x11 fun x23 =>
                am_rt 1 x23 M6
            else
              am_rt 1 (-13) M6
          else
            if x9 = 2 then
              if v2 = 6 then
                am_gR g a0 12 1 fun q20 =>
                am_ia g M6 q20 x11 fun x21 =>
                am_rt 1 x21 M6
              else
                am_gR g a0 12 12 fun q18 =>
                am_ia g M6 q18 x11 fun x19 =>
                am_rt 1 x19 M6
            else
              am_rt 1 (-13) M6) = some r) : F 140 0 [.ref a0, .int v1, .int v2] [] M = some r := am_inF hF t_Model_taken h
set_option maxRecDepth 20000 in
set_option maxHeartbeats 2000000 in
theorem e_Model_way {g : am_G} {F : am_FT} (hF : F = am_F T0 g) {M : am_M} {a0 : Nat} {v1 : Int32} {v2 : Int32} {v3 : Int32} {v4 : Int32} {v5 : Int32} {r : am_R} (h : (
  am_gI g M a0 12 0 fun x1 =>
  am_ci (F 53 0 [.int v2, .int 0, .int (x1 - 1)] [] M) fun x3 M2 => /- Model_in -/
  if x3 = 0 then
    am_rt 1 (-1) M2
  else
    am_gI g M2 a0 12 0 fun x4 =>
    am_ci (F 53 0 [.int v3, .int 0, .int (x4 - 1)] [] M2) fun x6 M5 => /- Model_in -/
    if x6 = 0 then
      am_rt 1 (-1) M5
    else
      am_ci (F 53 0 [.int v1, .int 0, .int 5] [] M5) fun x8 M7 => /- Model_in -/
      if x8 = 0 then
        am_rt 1 (-2) M7
      else
        if v2 = v3 then
          am_rt 1 (-2) M7
        else
          am_ci (F 53 0 [.int v4, .int 2, .int 999] [] M7) fun x10 M9 => /- Model_in -/
          if x10 = 0 then
            am_rt 1 (-2) M9
          else
            am_ci (F 53 0 [.int v5, .int 0, .int 1] [] M9) fun x12 M11 => /- Model_in -/
            if x12 = 0 then
              am_rt 1 (-2) M11
            else
              am_gI g M11 a0 12 4 fun x13 =>
              if x13 = 40 then
                am_rt 1 (-4) M11
              else
                am_gR g a0 12 5 fun q14 =>
                am_gI g M11 a0 12 4 fun x15 =>
                am_is g M11 q14 x15 v1 fun M16 =>
                am_gR g a0 12 6 fun q17 =>
                am_gI g M16 a0 12 4 fun x18 =>
                am_is g M16 q17 x18 v2 fun M19 =>
                am_gR g a0 12 7 fun q20 =>
                am_gI g M19 a0 12 4 fun x21 =>
                am_is g M19 q20 x21 v3 fun M22 =>
                am_gR g a0 12 8 fun q23 =>
                am_gI g M22 a0 12 4 fun x24 =>
                am_is g M22 q23 x24 v4 fun M25 =>
                am_gR g a0 12 9 fun q26 =>
                am_gI g M25 a0 12 4 fun x27 =>
                if v5 = 1 then
                  am_zs g M25 q26 x27 1 fun M34 =>
                  am_gI g M34 a0 12 4 fun x35 =>
                  am_pI g M34 a0 12 4 (x35 + 1) fun M36 =>
                  am_gI g M36 a0 12 4 fun x37 =>
                  am_rc g a0 12 <|
                  am_ci (F 46 0 [.ref a0, .int 1, .int (x37 - 1)] [] M36) fun x39 M38 => /- Model_comes -/
                  am_rt 1 x39 M38
                else
                  am_zs g M25 q26 x27 0 fun M28 =>
                  am_gI g M28 a0 12 4 fun x29 =>
                  am_pI g M28 a0 12 4 (x29 + 1) fun M30 =>
                  am_gI g M30 a0 12 4 fun x31 =>
                  am_rc g a0 12 <|
                  am_ci (F 46 0 [.ref a0, .int 1, .int (x31 - 1)] [] M30) fun x33 M32 => /- Model_comes -/
                  am_rt 1 x33 M32) = some r) : F 141 0 [.ref a0, .int v1, .int v2, .int v3, .int v4, .int v5] [] M = some r := am_inF hF t_Model_way h
set_option maxRecDepth 20000 in
set_option maxHeartbeats 2000000 in
theorem e_Model_whyLast {g : am_G} {F : am_FT} (hF : F = am_F T0 g) {M : am_M} {a0 : Nat} {v1 : Int32} {v2 : Int32} {r : am_R} (h : (
  am_gR g a0 12 83 fun q1 =>
  am_gI g M a0 12 78 fun x2 =>
  am_ia g M q1 x2 fun x3 =>
  am_dv 2 <|
  am_gR g a0 12 11 fun q4 =>
  am_ia g M q4 v2 fun x5 =>
  if (x3 / 2) = x5 then
    am_gI g M a0 12 78 fun x6 =>
    if x6 = 0 then
      am_rc g a0 12 <|
      am_ci (F 45 0 [.ref a0, .int v1, .int v2, .int x3] [] M) fun x11 M10 => /- Model_between -/
      if 0 ≤ x11 then
        am_gI g M10 a0 12 82 fun x12 =>
        am_gR g a0 12 13 fun q13 =>
        am_ia g M10 q13 v2 fun x14 =>
        am_dv 2 <|
        if x14 = (x3 - x3 / 2 * 2) then
          if x12 = 1 then
            am_rt 1 0 M10
          else
            am_rt 1 7 M10
        else
          if x12 = 0 then
            am_rt 1 0 M10
          else
            am_rt 1 7 M10
      else
        am_rt 1 6 M10
    else
      am_gI g M a0 12 82 fun x7 =>
      am_gR g a0 12 13 fun q8 =>
      am_ia g M q8 v2 fun x9 =>
      am_dv 2 <|
      if x9 = (x3 - x3 / 2 * 2) then
        if x7 = 1 then
          am_rt 1 0 M
        else
          am_rt 1 7 M
      else
        if x7 = 0 then
          am_rt 1 0 M
        else
          am_rt 1 7 M
  else
    am_rt 1 6 M) = some r) : F 142 0 [.ref a0, .int v1, .int v2] [] M = some r := am_inF hF t_Model_whyLast h
set_option maxRecDepth 20000 in
set_option maxHeartbeats 2000000 in
theorem e_Model_about {g : am_G} {F : am_FT} (hF : F = am_F T0 g) {M : am_M} {a0 : Nat} {v1 : Int32} {v2 : Int32} {v3 : Int32} {r : am_R} (h : (
  am_rc g a0 12 <|
  am_ci (F 122 0 [.ref a0, .int v1] [] M) fun x2 M1 => /- Model_isWay -/
  if x2 = 0 then
    am_rt 1 (-1) M1
  else
    am_ci (F 116 0 [.int v3] [] M1) fun x4 M3 => /- Model_isHour -/
    if x4 = 0 then
      am_rt 1 (-2) M3
    else
      if v2 = 0 then
        am_gR g a0 12 5 fun q5 =>
        am_ia g M3 q5 v1 fun x6 =>
        am_rt 1 x6 M3
      else
      if v2 = 1 then
        am_gR g a0 12 6 fun q7 =>
        am_ia g M3 q7 v1 fun x8 =>
        am_rt 1 x8 M3
      else
      if v2 = 2 then
        am_gR g a0 12 7 fun q9 =>
        am_ia g M3 q9 v1 fun x10 =>
        am_rt 1 x10 M3
      else
      if v2 = 3 then
        am_gR g a0 12 8 fun q11 =>
        am_ia g M3 q11 v1 fun x12 =>
        am_rt 1 x12 M3
      else
      if v2 = 4 then
        am_gR g a0 12 9 fun q13 =>
        am_za g M3 q13 v1 fun x14 =>
        if x14 = 0 then
          am_rt 1 0 M3
        else
          am_rt 1 1 M3
      else
      if v2 = 5 then
        am_rc g a0 12 <|
        am_ci (F 130 0 [.ref a0, .int v1, .int v3] [] M3) fun x16 M15 => /- Model_priceOf -/
        am_rt 1 x16 M15
      else
      if v2 = 6 then
        am_rc g a0 12 <|
        am_ci (F 118 0 [.ref a0, .int v1, .int v3] [] M3) fun x18 M17 => /- Model_isOpen -/
        if x18 = 0 then
          am_rt 1 0 M17
        else
          am_rt 1 1 M17
      else
        am_rt 1 (-2) M3) = some r) : F 177 0 [.ref a0, .int v1, .int v2, .int v3] [] M = some r := am_inF hF t_Model_about h
set_option maxRecDepth 20000 in
set_option maxHeartbeats 2000000 in
theorem e_Model_answers {g : am_G} {F : am_FT} (hF : F = am_F T0 g) {M : am_M} {a0 : Nat} {v1 : Int32} {w2 : Int64} {v4 : Int32} {r : am_R} (h : (
  am_rc g a0 12 <|
  am_ci (F 122 0 [.ref a0, .int v1] [] M) fun x2 M1 => /- Model_isWay -/
  if x2 = 0 then
    am_rt 1 (-1) M1
  else
    am_ci (F 123 0 [.long w2] [] M1) fun x4 M3 => /- Model_isWord -/
    if x4 = 0 then
      am_rt 1 (-2) M3
    else
      am_gI g M3 a0 12 14 fun x5 =>
      am_ci (F 53 0 [.int v4, .int 0, .int x5] [] M3) fun x7 M6 => /- Model_in -/
      if x7 = 0 then
        am_rt 1 (-2) M6
      else
        am_rc g a0 12 <|
        am_ci (F 40 0 [.ref a0, .int v1, .long w2, .int v4] [] M6) fun x9 M8 => /- Model_answersTo -/
        if x9 = 0 then
          am_rt 1 0 M8
        else
          am_rt 1 1 M8) = some r) : F 178 0 [.ref a0, .int v1, .long w2, .int v4] [] M = some r := am_inF hF t_Model_answers h
set_option maxRecDepth 20000 in
set_option maxHeartbeats 2000000 in
theorem e_Model_ban {g : am_G} {F : am_FT} (hF : F = am_F T0 g) {M : am_M} {a0 : Nat} {v1 : Int32} {v2 : Int32} {v3 : Int32} {v4 : Int32} {r : am_R} (h : (
  am_rc g a0 12 <|
  am_ci (F 117 0 [.ref a0, .int v1] [] M) fun x2 M1 => /- Model_isLeg -/
  if x2 = 0 then
    am_rt 1 (-1) M1
  else
    am_rc g a0 12 <|
    am_ci (F 117 0 [.ref a0, .int v2] [] M1) fun x4 M3 => /- Model_isLeg -/
    if x4 = 0 then
      am_rt 1 (-1) M3
    else
      am_dv 100 <|
      am_dv 100 <|
      if v3 < 0 then
        am_rt 1 (-2) M3
      else
        if (v3 - v3 / 100 * 100) ≤ (v3 / 100) then
          am_rt 1 (-2) M3
        else
          if 24 < (v3 - v3 / 100 * 100) then
            am_rt 1 (-2) M3
          else
            am_ci (F 53 0 [.int v4, .int 1, .int 127] [] M3) fun x6 M5 => /- Model_in -/
            if x6 = 0 then
              am_rt 1 (-2) M5
            else
              am_rc g a0 12 <|
              am_ci (F 113 0 [.ref a0, .int v1, .int v2] [] M5) fun x8 M7 => /- Model_follows -/
              if x8 = 0 then
                am_rt 1 (-3) M7
              else
                am_gI g M7 a0 12 24 fun x9 =>
                if x9 = 40 then
                  am_rt 1 (-4) M7
                else
                  am_gR g a0 12 25 fun q10 =>
                  am_gI g M7 a0 12 24 fun x11 =>
                  am_is g M7 q10 x11 v1 fun M12 =>
                  am_gR g a0 12 26 fun q13 =>
                  am_gI g M12 a0 12 24 fun x14 =>
                  am_is g M12 q13 x14 v2 fun M15 =>
                  am_gR g a0 12 27 fun q16 =>
                  am_gI g M15 a0 12 24 fun x17 =>
                  am_is g M15 q16 x17 (v3 / 100) fun M18 =>
                  am_gR g a0 12 28 fun q19 =>
                  am_gI g M18 a0 12 24 fun x20 =>
                  am_is g M18 q19 x20 (v3 - v3 / 100 * 100) fun M21 =>
                  am_gR g a0 12 29 fun q22 =>
                  am_gI g M21 a0 12 24 fun x23 =>
                  am_is g M21 q22 x23 v4 fun M24 =>
                  am_gR g a0 12 30 fun q25 =>
                  am_gI g M24 a0 12 24 fun x26 =>
                  am_gI g M24 a0 12 14 fun x27 =>
                  am_is g M24 q25 x26 x27 fun M28 =>
                  am_gI g M28 a0 12 24 fun x29 =>
                  am_pI g M28 a0 12 24 (x29 + 1) fun M30 =>
                  am_gI g M30 a0 12 24 fun x31 =>
                  am_rt 1 (x31 - 1) M30) = some r) : F 179 0 [.ref a0, .int v1, .int v2, .int v3, .int v4] [] M = some r := am_inF hF t_Model_ban h
set_option maxRecDepth 20000 in
set_option maxHeartbeats 2000000 in
theorem e_Model_door {g : am_G} {F : am_FT} (hF : F = am_F T0 g) {M : am_M} {a0 : Nat} {v1 : Int32} {v2 : Int32} {v3 : Int32} {r : am_R} (h : (
  am_rc g a0 12 <|
  am_ci (F 122 0 [.ref a0, .int v1] [] M) fun x2 M1 => /- Model_isWay -/
  if x2 = 0 then
    am_rt 1 (-1) M1
  else
    am_gR g a0 12 8 fun q3 =>
    am_ia g M1 q3 v1 fun x4 =>
    am_ci (F 53 0 [.int v2, .int 1, .int (x4 - 1)] [] M1) fun x6 M5 => /- Model_in -/
    if x6 = 0 then
      am_rt 1 (-2) M5
    else
      am_ci (F 53 0 [.int v3, .int 0, .int 1] [] M5) fun x8 M7 => /- Model_in -/
      if x8 = 0 then
        am_rt 1 (-2) M7
      else
        am_gI g M7 a0 12 10 fun x9 =>
        if x9 = 8 then
          am_rt 1 (-4) M7
        else
          am_gR g a0 12 11 fun q10 =>
          am_gI g M7 a0 12 10 fun x11 =>
          am_is g M7 q10 x11 v1 fun M12 =>
          am_gR g a0 12 12 fun q13 =>
          am_gI g M12 a0 12 10 fun x14 =>
          am_is g M12 q13 x14 v2 fun M15 =>
          am_gR g a0 12 13 fun q16 =>
          am_gI g M15 a0 12 10 fun x17 =>
          am_is g M15 q16 x17 v3 fun M18 =>
          am_gI g M18 a0 12 10 fun x19 =>
          am_pI g M18 a0 12 10 (x19 + 1) fun M20 =>
          am_gI g M20 a0 12 10 fun x21 =>
          am_rc g a0 12 <|
          am_ci (F 46 0 [.ref a0, .int 2, .int (x21 - 1)] [] M20) fun x23 M22 => /- Model_comes -/
          am_rt 1 x23 M22) = some r) : F 180 0 [.ref a0, .int v1, .int v2, .int v3] [] M = some r := am_inF hF t_Model_door h
theorem e_Model_eats4 {g : am_G} {F : am_FT} (hF : F = am_F T0 g) {M : am_M} {a0 : Nat} {v1 : Int32} {v2 : Int32} {v3 : Int32} {v4 : Int32} {r : am_R} (h : (
  am_rc g a0 12 <|
  am_cv (F 110 0 [.ref a0, .int v1] [] M) fun M1 => /- Model_eats -/
  am_rc g a0 12 <|
  am_cv (F 110 0 [.ref a0, .int v2] [] M1) fun M2 => /- Model_eats -/
  am_rc g a0 12 <|
  am_cv (F 110 0 [.ref a0, .int v3] [] M2) fun M3 => /- Model_eats -/
  am_rc g a0 12 <|
  am_cv (F 110 0 [.ref a0, .int v4] [] M3) fun M4 => /- Model_eats -/
  some (none, M4)) = some r) : F 181 0 [.ref a0, .int v1, .int v2, .int v3, .int v4] [] M = some r := am_inF hF t_Model_eats4 h
set_option maxRecDepth 20000 in
set_option maxHeartbeats 2000000 in
theorem e_Model_holds {g : am_G} {F : am_FT} (hF : F = am_F T0 g) {M : am_M} {a0 : Nat} {v1 : Int32} {v2 : Int32} {v3 : Int32} {v4 : Int32} {r : am_R} (h : (
  am_rc g a0 12 <|
  am_ci (F 119 0 [.ref a0, .int v1] [] M) fun x2 M1 => /- Model_isPupil -/
  if x2 = 0 then
    am_rt 1 (-1) M1
  else
    am_rc g a0 12 <|
    am_ci (F 117 0 [.ref a0, .int v2] [] M1) fun x4 M3 => /- Model_isLeg -/
    if x4 = 0 then
      am_rt 1 (-1) M3
    else
      am_rc g a0 12 <|
      am_ci (F 117 0 [.ref a0, .int v3] [] M3) fun x6 M5 => /- Model_isLeg -/
      if x6 = 0 then
        am_rt 1 (-1) M5
      else
        am_gI g M5 a0 12 14 fun x7 =>
        am_ci (F 53 0 [.int v4, .int x7, .int 2000] [] M5) fun x9 M8 => /- Model_in -/
        if x9 = 0 then
          am_rt 1 (-2) M8
        else
          am_rc g a0 12 <|
          am_ci (F 55 0 [.ref a0, .int v1, .int v2, .int v3, .int v4] [] M8) fun x11 M10 => /- Model_isHeld -/
          if x11 = 0 then
            am_rt 1 0 M10
          else
            am_rt 1 1 M10) = some r) : F 182 0 [.ref a0, .int v1, .int v2, .int v3, .int v4] [] M = some r := am_inF hF t_Model_holds h
set_option maxRecDepth 20000 in
set_option maxHeartbeats 2000000 in
theorem e_Model_isAhead {g : am_G} {F : am_FT} (hF : F = am_F T0 g) {M : am_M} {a0 : Nat} {v1 : Int32} {v2 : Int32} {v3 : Int32} {r : am_R} (h : (
  am_rc g a0 12 <|
  am_ci (F 108 0 [.ref a0, .int v1] [] M) fun x2 M1 => /- Model_dx -/
  am_rc g a0 12 <|
  am_ci (F 109 0 [.ref a0, .int v1] [] M1) fun x4 M3 => /- Model_dy -/
  am_rc g a0 12 <|
  am_ci (F 108 0 [.ref a0, .int v2] [] M3) fun x6 M5 => /- Model_dx -/
  am_rc g a0 12 <|
  am_ci (F 109 0 [.ref a0, .int v2] [] M5) fun x8 M7 => /- Model_dy -/
  am_ci (F 132 0 [.int (-x2), .int (-x4), .int x6, .int x8] [] M7) fun x10 M9 => /- Model_quarter -/
  am_rc g a0 12 <|
  am_ci (F 108 0 [.ref a0, .int v1] [] M9) fun x12 M11 => /- Model_dx -/
  am_rc g a0 12 <|
  am_ci (F 109 0 [.ref a0, .int v1] [] M11) fun x14 M13 => /- Model_dy -/
  am_rc g a0 12 <|
  am_ci (F 108 0 [.ref a0, .int v3] [] M13) fun x16 M15 => /- Model_dx -/
  am_rc g a0 12 <|
  am_ci (F 109 0 [.ref a0, .int v3] [] M15) fun x18 M17 => /- Model_dy -/
  am_ci (F 132 0 [.int (-x12), .int (-x14), .int x16, .int x18] [] M17) fun x20 M19 => /- Model_quarter -/
  if x10 = x20 then
    am_rc g a0 12 <|
    am_ci (F 108 0 [.ref a0, .int v2] [] M19) fun x22 M21 => /- Model_dx -/
    am_rc g a0 12 <|
    am_ci (F 109 0 [.ref a0, .int v2] [] M21) fun x24 M23 => /- Model_dy -/
    am_rc g a0 12 <|
    am_ci (F 108 0 [.ref a0, .int v3] [] M23) fun x26 M25 => /- Model_dx -/
    am_rc g a0 12 <|
    am_ci (F 109 0 [.ref a0, .int v3] [] M25) fun x28 M27 => /- Model_dy -/
    am_ci (F 49 0 [.int x22, .int x24, .int x26, .int x28] [] M27) fun x30 M29 => /- Model_cross -/
    if x30 = 0 then
      if v3 ≤ v2 then
        am_rt 2 0 M29
      else
        am_rt 2 1 M29
    else
      if 0 ≤ x30 then
        am_rt 2 0 M29
      else
        am_rt 2 1 M29
  else
    if x20 ≤ x10 then
      am_rt 2 0 M19
    else
      am_rt 2 1 M19) = some r) : F 183 0 [.ref a0, .int v1, .int v2, .int v3] [] M = some r := am_inF hF t_Model_isAhead h
set_option maxRecDepth 20000 in
set_option maxHeartbeats 2000000 in
theorem e_Model_isDrivable {g : am_G} {F : am_FT} (hF : F = am_F T0 g) {M : am_M} {a0 : Nat} {v1 : Int32} {v2 : Int32} {v3 : Int32} {v4 : Int32} {r : am_R} (h : (
  am_dv 2 <|
  am_gR g a0 12 9 fun q1 =>
  am_za g M q1 (v1 / 2) fun x2 =>
  if x2 = 0 then
    am_rc g a0 12 <|
    am_ci (F 118 0 [.ref a0, .int (v1 / 2), .int v3] [] M) fun x4 M3 => /- Model_isOpen -/
    if x4 = 0 then
      am_rt 2 0 M3
    else
      am_rc g a0 12 <|
      am_ci (F 57 0 [.ref a0, .int (v1 / 2), .int v2, .int v4] [] M3) fun x6 M5 => /- Model_isShut -/
      if x6 = 0 then
        am_rt 2 1 M5
      else
        am_rt 2 0 M5
  else
    am_dv 2 <|
    if (v1 - v1 / 2 * 2) = 1 then
      am_rt 2 0 M
    else
      am_rc g a0 12 <|
      am_ci (F 118 0 [.ref a0, .int (v1 / 2), .int v3] [] M) fun x8 M7 => /- Model_isOpen -/
      if x8 = 0 then
        am_rt 2 0 M7
      else
        am_rc g a0 12 <|
        am_ci (F 57 0 [.ref a0, .int (v1 / 2), .int v2, .int v4] [] M7) fun x10 M9 => /- Model_isShut -/
        if x10 = 0 then
          am_rt 2 1 M9
        else
          am_rt 2 0 M9) = some r) : F 184 0 [.ref a0, .int v1, .int v2, .int v3, .int v4] [] M = some r := am_inF hF t_Model_isDrivable h
set_option maxRecDepth 20000 in
set_option maxHeartbeats 2000000 in
theorem e_Model_junctions {g : am_G} {F : am_FT} (hF : F = am_F T0 g) {M : am_M} {a0 : Nat} {v1 : Int32} {v2 : Int32} {v3 : Int32} {v4 : Int32} {r : am_R} (h : (
  am_ci (F 53 0 [.int v1, .int 0, .int 3] [] M) fun x2 M1 => /- Model_in -/
  if x2 = 0 then
    am_rt 1 (-2) M1
  else
    am_ci (F 53 0 [.int v2, .int 0, .int 2] [] M1) fun x4 M3 => /- Model_in -/
    if x4 = 0 then
      am_rt 1 (-2) M3
    else
      am_ci (F 53 0 [.int v4, .int 0, .int 30] [] M3) fun x6 M5 => /- Model_in -/
      if x6 = 0 then
        am_rt 1 (-2) M5
      else
        am_gR g a0 12 53 fun q7 =>
        am_ia g M5 q7 v1 fun x8 =>
        if x8 = (-1) then
          am_rt 1 (-11) M5
        else
          am_gR g a0 12 53 fun q9 =>
          am_ia g M5 q9 v1 fun x10 =>
          if x10 = v2 then
            F 185 64 [.ref a0, .int v1, .int v3, .int v4, .int 0, .int 0] [] M5
          else
            am_rt 1 (-13) M5) = some r) : F 185 0 [.ref a0, .int v1, .int v2, .int v3, .int v4] [] M = some r := am_inF hF t_Model_junctions h
set_option maxRecDepth 20000 in
set_option maxHeartbeats 2000000 in
theorem e_Model_junctions_64 {g : am_G} {F : am_FT} (hF : F = am_F T0 g) {M : am_M} {a0 : Nat} {v1 : Int32} {v3 : Int32} {v4 : Int32} {v5 : Int32} {v6 : Int32} {r : am_R} (h : (
  if v4 ≤ v6 then
    am_rt 1 v5 M
  else
    if v3 < 0 then
      am_rt 1 (-12) M
    else
      am_gR g a0 12 54 fun q1 =>
      am_ia g M q1 v1 fun x2 =>
      if (x2 - 3) < (v3 + (3 * v6)) then
        am_rt 1 (-12) M
      else
        if v3 ≤ (v3 + (3 * v6)) then
          am_gR g a0 12 55 fun q3 =>
          am_ia g M q3 ((100 * v1) + (v3 + (3 * v6))) fun x4 =>
          am_gR g a0 12 55 fun q5 =>
          am_ia g M q5 (((100 * v1) + (v3 + (3 * v6))) + 1) fun x6 =>
          am_gR g a0 12 55 fun q7 =>
          am_ia g M q7 (((100 * v1) + (v3 + (3 * v6))) + 2) fun x8 =>
          am_rc g a0 12 <|
          am_ci (F 124 0 [.ref a0, .int x4, .int x6, .int x8] [] M) fun x10 M9 => /- Model_junction -/
          if x10 < 0 then
            F 185 64 [.ref a0, .int v1, .int v3, .int v4, .int (v5 + 0), .int (v6 + 1)] [] M9
          else
            F 185 64 [.ref a0, .int v1, .int v3, .int v4, .int (v5 + 1), .int (v6 + 1)] [] M9
        else
          am_rt 1 (-12) M) = some r) : F 185 64 [.ref a0, .int v1, .int v3, .int v4, .int v5, .int v6] [] M = some r := am_inF hF t_Model_junctions h
set_option maxRecDepth 20000 in
set_option maxHeartbeats 2000000 in
theorem e_Model_keepsSaid {g : am_G} {F : am_FT} (hF : F = am_F T0 g) {M : am_M} {a0 : Nat} {v1 : Int32} {v2 : Int32} {v3 : Int32} {r : am_R} (h : (
  am_gR g a0 12 1 fun q1 =>
  am_gR g a0 12 6 fun q2 =>
  am_gR g a0 12 11 fun q3 =>
  am_ia g M q3 v1 fun x4 =>
  am_ia g M q2 x4 fun x5 =>
  am_ia g M q1 x5 fun x6 =>
  am_pI g M a0 12 67 x6 fun M7 =>
  am_gR g a0 12 2 fun q8 =>
  am_gR g a0 12 6 fun q9 =>
  am_gR g a0 12 11 fun q10 =>
  am_ia g M7 q10 v1 fun x11 =>
  am_ia g M7 q9 x11 fun x12 =>
  am_ia g M7 q8 x12 fun x13 =>
  am_pI g M7 a0 12 68 x13 fun M14 =>
  am_gR g a0 12 1 fun q15 =>
  am_gR g a0 12 6 fun q16 =>
  am_gR g a0 12 11 fun q17 =>
  am_ia g M14 q17 v2 fun x18 =>
  am_ia g M14 q16 x18 fun x19 =>
  am_ia g M14 q15 x19 fun x20 =>
  am_pI g M14 a0 12 69 x20 fun M21 =>
  am_gR g a0 12 2 fun q22 =>
  am_gR g a0 12 6 fun q23 =>
  am_gR g a0 12 11 fun q24 =>
  am_ia g M21 q24 v2 fun x25 =>
  am_ia g M21 q23 x25 fun x26 =>
  am_ia g M21 q22 x26 fun x27 =>
  am_pI g M21 a0 12 70 x27 fun M28 =>
  am_gI g M28 a0 12 78 fun x29 =>
  if x29 = 0 then
    am_gR g a0 12 83 fun q39 =>
    am_ia g M28 q39 0 fun x40 =>
    am_rc g a0 12 <|
    am_ci (F 45 0 [.ref a0, .int v1, .int v2, .int x40] [] M28) fun x42 M41 => /- Model_between -/
    F 186 138 [.ref a0, .int v1, .int v2, .int v3, .long 0, .long x42.toInt64, .int 0] [] M41
  else
    am_gR g a0 12 83 fun q30 =>
    am_ia g M28 q30 0 fun x31 =>
    am_rc g a0 12 <|
    am_ci (F 51 0 [.ref a0, .int v1, .int x31] [] M28) fun x33 M32 => /- Model_fromDoor -/
    am_gR g a0 12 83 fun q34 =>
    am_gI g M32 a0 12 78 fun x35 =>
    am_ia g M32 q34 x35 fun x36 =>
    am_rc g a0 12 <|
    am_ci (F 63 0 [.ref a0, .int v2, .int x36] [] M32) fun x38 M37 => /- Model_toDoor -/
    F 186 138 [.ref a0, .int v1, .int v2, .int v3, .long 0, .long (x33 + x38).toInt64, .int 0] [] M37) = some r) : F 186 0 [.ref a0, .int v1, .int v2, .int v3] [] M = some r := am_inF hF t_Model_keepsSaid h
set_option maxRecDepth 20000 in
set_option maxHeartbeats 2000000 in
theorem e_Model_keepsSaid_138 {g : am_G} {F : am_FT} (hF : F = am_F T0 g) {M : am_M} {a0 : Nat} {v1 : Int32} {v2 : Int32} {v3 : Int32} {w4 : Int64} {w6 : Int64} {v8 : Int32} {r : am_R} (h : (
  am_gI g M a0 12 78 fun x1 =>
  if x1 < v8 then
    am_gR g a0 12 38 fun q2 =>
    am_gI g M a0 12 37 fun x3 =>
    am_gI g M a0 12 78 fun x4 =>
    am_is g M q2 x3 (x4 + 1) fun M5 =>
    am_gI g M5 a0 12 37 fun x6 =>
    am_gR g a0 12 40 fun q7 =>
    am_is g M5 q7 (6 * x6) v1 fun M8 =>
    am_gR g a0 12 40 fun q9 =>
    am_is g M8 q9 ((6 * x6) + 1) v2 fun M10 =>
    am_gR g a0 12 40 fun q11 =>
    am_gI g M10 a0 12 14 fun x12 =>
    am_is g M10 q11 ((6 * x6) + 2) x12 fun M13 =>
    am_gR g a0 12 40 fun q14 =>
    am_is g M13 q14 ((6 * x6) + 3) v3 fun M15 =>
    am_gR g a0 12 40 fun q16 =>
    am_is g M15 q16 ((6 * x6) + 4) w6.toInt32 fun M17 =>
    am_gR g a0 12 40 fun q18 =>
    am_is g M17 q18 ((6 * x6) + 5) w4.toInt32 fun M19 =>
    am_gI g M19 a0 12 37 fun x20 =>
    am_pI g M19 a0 12 37 (x20 + 1) fun M21 =>
    some (none, M21)
  else
    am_gR g a0 12 39 fun q22 =>
    am_gI g M a0 12 37 fun x23 =>
    am_gR g a0 12 83 fun q24 =>
    am_ia g M q24 v8 fun x25 =>
    am_is g M q22 ((21 * x23) + v8) x25 fun M26 =>
    am_gI g M26 a0 12 78 fun x27 =>
    if x27 ≤ v8 then
      if v8 ≤ 0 then
        F 186 138 [.ref a0, .int v1, .int v2, .int v3, .long (w4 + 0), .long (w6 + 0), .int (v8 + 1)] [] M26
      else
        am_gI g M26 a0 12 78 fun x28 =>
        if x28 ≤ v8 then
          F 186 138 [.ref a0, .int v1, .int v2, .int v3, .long (w4 + 0), .long (w6 + 0), .int (v8 + 1)] [] M26
        else
          am_gR g a0 12 83 fun q29 =>
          am_ia g M26 q29 v8 fun x30 =>
          am_dv 2 <|
          am_rc g a0 12 <|
          am_ci (F 130 0 [.ref a0, .int (x30 / 2), .int v3] [] M26) fun x32 M31 => /- Model_priceOf -/
          F 186 138 [.ref a0, .int v1, .int v2, .int v3, .long (w4 + 0), .long (w6 + x32.toInt64), .int (v8 + 1)] [] M31
    else
      am_gR g a0 12 83 fun q33 =>
      am_ia g M26 q33 v8 fun x34 =>
      am_rc g a0 12 <|
      am_cj (F 127 0 [.ref a0, .int x34] [] M26) fun l36 M35 => /- Model_off -/
      if v8 ≤ 0 then
        F 186 138 [.ref a0, .int v1, .int v2, .int v3, .long (w4 + l36), .long (w6 + 0), .int (v8 + 1)] [] M35
      else
        am_gI g M35 a0 12 78 fun x37 =>
        if x37 ≤ v8 then
          F 186 138 [.ref a0, .int v1, .int v2, .int v3, .long (w4 + l36), .long (w6 + 0), .int (v8 + 1)] [] M35
        else
          am_gR g a0 12 83 fun q38 =>
          am_ia g M35 q38 v8 fun x39 =>
          am_dv 2 <|
          am_rc g a0 12 <|
          am_ci (F 130 0 [.ref a0, .int (x39 / 2), .int v3] [] M35) fun x41 M40 => /- Model_priceOf -/
          F 186 138 [.ref a0, .int v1, .int v2, .int v3, .long (w4 + l36), .long (w6 + x41.toInt64), .int (v8 + 1)] [] M40) = some r) : F 186 138 [.ref a0, .int v1, .int v2, .int v3, .long w4, .long w6, .int v8] [] M = some r := am_inF hF t_Model_keepsSaid h
set_option maxRecDepth 20000 in
set_option maxHeartbeats 2000000 in
theorem e_Model_knows {g : am_G} {F : am_FT} (hF : F = am_F T0 g) {M : am_M} {a0 : Nat} {v1 : Int32} {v2 : Int32} {r : am_R} (h : (
  am_rc g a0 12 <|
  am_ci (F 119 0 [.ref a0, .int v1] [] M) fun x2 M1 => /- Model_isPupil -/
  if x2 = 0 then
    am_rt 1 (-1) M1
  else
    am_gI g M1 a0 12 14 fun x3 =>
    am_ci (F 53 0 [.int v2, .int x3, .int 2000] [] M1) fun x5 M4 => /- Model_in -/
    if x5 = 0 then
      am_rt 1 (-2) M4
    else
      am_rc g a0 12 <|
      am_ci (F 114 0 [.ref a0, .int v1, .int v2] [] M4) fun x7 M6 => /- Model_heldOn -/
      am_rt 1 x7 M6) = some r) : F 187 0 [.ref a0, .int v1, .int v2] [] M = some r := am_inF hF t_Model_knows h
theorem e_Model_leftRight {g : am_G} {F : am_FT} (hF : F = am_F T0 g) {M : am_M} {a0 : Nat} {r : am_R} (h : (
  am_rc g a0 12 <|
  am_ci (F 120 0 [.ref a0, .int 108, .int 101, .int 102, .int 116, .int 0] [] M) fun x2 M1 => /- Model_isSaid -/
  if x2 = 0 then
    am_rc g a0 12 <|
    am_ci (F 120 0 [.ref a0, .int 114, .int 105, .int 103, .int 104, .int 116] [] M1) fun x4 M3 => /- Model_isSaid -/
    if x4 = 0 then
      am_rt 1 (-1) M3
    else
      am_rt 1 1 M3
  else
    am_rt 1 0 M1) = some r) : F 188 0 [.ref a0] [] M = some r := am_inF hF t_Model_leftRight h
set_option maxRecDepth 20000 in
set_option maxHeartbeats 2000000 in
theorem e_Model_lets {g : am_G} {F : am_FT} (hF : F = am_F T0 g) {M : am_M} {a0 : Nat} {v1 : Int32} {w2 : Int64} {w4 : Int64} {r : am_R} (h : (
  am_rc g a0 12 <|
  am_cj (F 127 0 [.ref a0, .int v1] [] M) fun l2 M1 => /- Model_off -/
  am_gR g a0 12 61 fun q3 =>
  am_la g M1 q3 v1 fun l4 =>
  am_gR g a0 12 62 fun q5 =>
  am_la g M1 q5 v1 fun l6 =>
  am_rc g a0 12 <|
  am_ci (F 56 0 [.ref a0, .long (w2 + l2), .long w4, .long l4, .long l6] [] M1) fun x8 M7 => /- Model_isLess -/
  if x8 = 0 then
    am_rt 2 0 M7
  else
    am_gR g a0 12 61 fun q9 =>
    am_ls g M7 q9 v1 (w2 + l2) fun M10 =>
    am_gR g a0 12 62 fun q11 =>
    am_ls g M10 q11 v1 w4 fun M12 =>
    am_rt 2 1 M12) = some r) : F 189 0 [.ref a0, .int v1, .long w2, .long w4] [] M = some r := am_inF hF t_Model_lets h
set_option maxRecDepth 20000 in
set_option maxHeartbeats 2000000 in
theorem e_Model_name {g : am_G} {F : am_FT} (hF : F = am_F T0 g) {M : am_M} {a0 : Nat} {v1 : Int32} {w2 : Int64} {r : am_R} (h : (
  am_rc g a0 12 <|
  am_ci (F 122 0 [.ref a0, .int v1] [] M) fun x2 M1 => /- Model_isWay -/
  if x2 = 0 then
    am_rt 1 (-1) M1
  else
    am_ci (F 123 0 [.long w2] [] M1) fun x4 M3 => /- Model_isWord -/
    if x4 = 0 then
      am_rt 1 (-2) M3
    else
      am_gI g M3 a0 12 15 fun x5 =>
      if x5 = 60 then
        am_rt 1 (-4) M3
      else
        am_gR g a0 12 16 fun q6 =>
        am_gI g M3 a0 12 15 fun x7 =>
        am_is g M3 q6 x7 v1 fun M8 =>
        am_gR g a0 12 17 fun q9 =>
        am_gI g M8 a0 12 15 fun x10 =>
        am_ls g M8 q9 x10 w2 fun M11 =>
        am_gR g a0 12 18 fun q12 =>
        am_gI g M11 a0 12 15 fun x13 =>
        am_gI g M11 a0 12 14 fun x14 =>
        am_is g M11 q12 x13 x14 fun M15 =>
        am_gI g M15 a0 12 15 fun x16 =>
        am_pI g M15 a0 12 15 (x16 + 1) fun M17 =>
        am_gI g M17 a0 12 15 fun x18 =>
        am_rt 1 (x18 - 1) M17) = some r) : F 190 0 [.ref a0, .int v1, .long w2] [] M = some r := am_inF hF t_Model_name h
theorem e_Model_plan {g : am_G} {F : am_FT} (hF : F = am_F T0 g) {M : am_M} {a0 : Nat} {v1 : Int32} {v2 : Int32} {v3 : Int32} {v4 : Int32} {r : am_R} (h : (
  am_rc g a0 12 <|
  am_ci (F 119 0 [.ref a0, .int v1] [] M) fun x2 M1 => /- Model_isPupil -/
  if x2 = 0 then
    am_rt 1 (-1) M1
  else
    if v2 < 0 then
      am_rt 1 (-1) M1
    else
      am_gI g M1 a0 12 37 fun x3 =>
      if v2 < ((1 : Int32) <<< (x3 &&& 31)) then
        F 191 30 [.ref a0, .int v1, .int v2, .int v3, .int v4, .int 0, .int 0] [] M1
      else
        am_rt 1 (-1) M1) = some r) : F 191 0 [.ref a0, .int v1, .int v2, .int v3, .int v4] [] M = some r := am_inF hF t_Model_plan h
set_option maxRecDepth 20000 in
set_option maxHeartbeats 2000000 in
theorem e_Model_plan_30 {g : am_G} {F : am_FT} (hF : F = am_F T0 g) {M : am_M} {a0 : Nat} {v1 : Int32} {v2 : Int32} {v3 : Int32} {v4 : Int32} {v5 : Int32} {v6 : Int32} {r : am_R} (h : (
  am_gI g M a0 12 37 fun x1 =>
  if x1 ≤ v6 then
    am_ci (F 53 0 [.int v5, .int 1, .int 4] [] M) fun x3 M2 => /- Model_in -/
    if x3 = 0 then
      am_rt 1 (-2) M2
    else
      am_ci (F 53 0 [.int v3, .int 1, .int 4] [] M2) fun x5 M4 => /- Model_in -/
      if x5 = 0 then
        am_rt 1 (-2) M4
      else
        am_gI g M4 a0 12 14 fun x6 =>
        am_ci (F 53 0 [.int v4, .int ((x6 + v3) - 1), .int 2000] [] M4) fun x8 M7 => /- Model_in -/
        if x8 = 0 then
          am_rt 1 (-2) M7
        else
          am_rc g a0 12 <|
          am_cv (F 59 0 [.ref a0, .int v1, .int 1] [] M7) fun M9 => /- Model_laysBack -/
          F 191 126 [.ref a0, .int v1, .int v3, .int v4, .int v5, .int 1, .int 0] [] M9
  else
    if ((v2 >>> (v6 &&& 31)) &&& 1) = 1 then
      if 4 ≤ v5 then
        F 191 30 [.ref a0, .int v1, .int v2, .int v3, .int v4, .int (v5 + 1), .int (v6 + 1)] [] M
      else
        am_gR g a0 12 86 fun q10 =>
        am_is g M q10 v5 v6 fun M11 =>
        F 191 30 [.ref a0, .int v1, .int v2, .int v3, .int v4, .int (v5 + 1), .int (v6 + 1)] [] M11
    else
      F 191 30 [.ref a0, .int v1, .int v2, .int v3, .int v4, .int v5, .int (v6 + 1)] [] M) = some r) : F 191 30 [.ref a0, .int v1, .int v2, .int v3, .int v4, .int v5, .int v6] [] M = some r := am_inF hF t_Model_plan h
theorem e_Model_plan_126 {g : am_G} {F : am_FT} (hF : F = am_F T0 g) {M : am_M} {a0 : Nat} {v1 : Int32} {v3 : Int32} {v4 : Int32} {v5 : Int32} {v6 : Int32} {v7 : Int32} {r : am_R} (h : (
  if v3 ≤ v7 then
    F 191 151 [.ref a0, .int v1, .int v3, .int v4, .int v5, .int v6, .int (-1), .int 0] [] M
  else
    F 191 126 [.ref a0, .int v1, .int v3, .int v4, .int v5, .int (v6 * v5), .int (v7 + 1)] [] M) = some r) : F 191 126 [.ref a0, .int v1, .int v3, .int v4, .int v5, .int v6, .int v7] [] M = some r := am_inF hF t_Model_plan h
theorem e_Model_plan_151 {g : am_G} {F : am_FT} (hF : F = am_F T0 g) {M : am_M} {a0 : Nat} {v1 : Int32} {v3 : Int32} {v4 : Int32} {v5 : Int32} {v6 : Int32} {v7 : Int32} {v8 : Int32} {r : am_R} (h : (
  if v6 ≤ v8 then
    am_pI g M a0 12 89 v3 fun M1 =>
    am_rt 1 v7 M1
  else
    F 191 167 [.ref a0, .int v1, .int v3, .int v4, .int v5, .int v6, .int v7, .int v8, .int v8, .int (v3 - 1)] [] M) = some r) : F 191 151 [.ref a0, .int v1, .int v3, .int v4, .int v5, .int v6, .int v7, .int v8] [] M = some r := am_inF hF t_Model_plan h
theorem e_Model_plan_167 {g : am_G} {F : am_FT} (hF : F = am_F T0 g) {M : am_M} {a0 : Nat} {v1 : Int32} {v3 : Int32} {v4 : Int32} {v5 : Int32} {v6 : Int32} {v7 : Int32} {v8 : Int32} {v9 : Int32} {v10 : Int32} {r : am_R} (h : (
  if v10 < 0 then
    F 191 205 [.ref a0, .int v1, .int v3, .int v4, .int v5, .int v6, .int v7, .int v8, .int 0] [] M
  else
    am_gR g a0 12 87 fun q1 =>
    am_gR g a0 12 86 fun q2 =>
    am_dv v5 <|
    am_ia g M q2 (v9 - v9 / v5 * v5) fun x3 =>
    am_is g M q1 v10 x3 fun M4 =>
    am_dv v5 <|
    F 191 167 [.ref a0, .int v1, .int v3, .int v4, .int v5, .int v6, .int v7, .int v8, .int (v9 / v5), .int (v10 + (-1))] [] M4) = some r) : F 191 167 [.ref a0, .int v1, .int v3, .int v4, .int v5, .int v6, .int v7, .int v8, .int v9, .int v10] [] M = some r := am_inF hF t_Model_plan h
set_option maxRecDepth 20000 in
set_option maxHeartbeats 2000000 in
theorem e_Model_plan_205 {g : am_G} {F : am_FT} (hF : F = am_F T0 g) {M : am_M} {a0 : Nat} {v1 : Int32} {v3 : Int32} {v4 : Int32} {v5 : Int32} {v6 : Int32} {v7 : Int32} {v8 : Int32} {v10 : Int32} {r : am_R} (h : (
  if v3 ≤ v10 then
    am_rc g a0 12 <|
    am_ci (F 114 0 [.ref a0, .int v1, .int v4] [] M) fun x2 M1 => /- Model_heldOn -/
    am_rc g a0 12 <|
    am_cv (F 59 0 [.ref a0, .int v1, .int 0] [] M1) fun M3 => /- Model_laysBack -/
    if x2 ≤ v7 then
      F 191 151 [.ref a0, .int v1, .int v3, .int v4, .int v5, .int v6, .int v7, .int (v8 + 1)] [] M3
    else
      F 191 265 [.ref a0, .int v1, .int v3, .int v4, .int v5, .int v6, .int x2, .int v8, .int 0] [] M3
  else
    am_gR g a0 12 87 fun q4 =>
    am_ia g M q4 v10 fun x5 =>
    am_gI g M a0 12 14 fun x6 =>
    am_rc g a0 12 <|
    am_cv (F 135 0 [.ref a0, .int v1, .int x5, .int (x6 + v10)] [] M) fun M7 => /- Model_rides -/
    F 191 205 [.ref a0, .int v1, .int v3, .int v4, .int v5, .int v6, .int v7, .int v8, .int (v10 + 1)] [] M7) = some r) : F 191 205 [.ref a0, .int v1, .int v3, .int v4, .int v5, .int v6, .int v7, .int v8, .int v10] [] M = some r := am_inF hF t_Model_plan h
theorem e_Model_plan_265 {g : am_G} {F : am_FT} (hF : F = am_F T0 g) {M : am_M} {a0 : Nat} {v1 : Int32} {v3 : Int32} {v4 : Int32} {v5 : Int32} {v6 : Int32} {v7 : Int32} {v8 : Int32} {v11 : Int32} {r : am_R} (h : (
  if v3 ≤ v11 then
    F 191 151 [.ref a0, .int v1, .int v3, .int v4, .int v5, .int v6, .int v7, .int (v8 + 1)] [] M
  else
    am_gR g a0 12 88 fun q1 =>
    am_gR g a0 12 87 fun q2 =>
    am_ia g M q2 v11 fun x3 =>
    am_is g M q1 v11 x3 fun M4 =>
    F 191 265 [.ref a0, .int v1, .int v3, .int v4, .int v5, .int v6, .int v7, .int v8, .int (v11 + 1)] [] M4) = some r) : F 191 265 [.ref a0, .int v1, .int v3, .int v4, .int v5, .int v6, .int v7, .int v8, .int v11] [] M = some r := am_inF hF t_Model_plan h
set_option maxRecDepth 20000 in
set_option maxHeartbeats 2000000 in
theorem e_Model_ride {g : am_G} {F : am_FT} (hF : F = am_F T0 g) {M : am_M} {a0 : Nat} {v1 : Int32} {v2 : Int32} {r : am_R} (h : (
  am_rc g a0 12 <|
  am_ci (F 119 0 [.ref a0, .int v1] [] M) fun x2 M1 => /- Model_isPupil -/
  if x2 = 0 then
    am_rt 1 (-1) M1
  else
    am_rc g a0 12 <|
    am_ci (F 121 0 [.ref a0, .int v2] [] M1) fun x4 M3 => /- Model_isSaidRun -/
    if x4 = 0 then
      am_rt 1 (-1) M3
    else
      am_gI g M3 a0 12 14 fun x5 =>
      am_rc g a0 12 <|
      am_cv (F 135 0 [.ref a0, .int v1, .int v2, .int x5] [] M3) fun M6 => /- Model_rides -/
      am_gI g M6 a0 12 14 fun x7 =>
      am_rc g a0 12 <|
      am_ci (F 114 0 [.ref a0, .int v1, .int x7] [] M6) fun x9 M8 => /- Model_heldOn -/
      am_rt 1 x9 M8) = some r) : F 192 0 [.ref a0, .int v1, .int v2] [] M = some r := am_inF hF t_Model_ride h
set_option maxRecDepth 20000 in
set_option maxHeartbeats 2000000 in
theorem e_Model_shut {g : am_G} {F : am_FT} (hF : F = am_F T0 g) {M : am_M} {a0 : Nat} {v1 : Int32} {v2 : Int32} {v3 : Int32} {r : am_R} (h : (
  am_rc g a0 12 <|
  am_ci (F 122 0 [.ref a0, .int v1] [] M) fun x2 M1 => /- Model_isWay -/
  if x2 = 0 then
    am_rt 1 (-1) M1
  else
    am_ci (F 53 0 [.int v2, .int 0, .int 300] [] M1) fun x4 M3 => /- Model_in -/
    if x4 = 0 then
      am_rt 1 (-2) M3
    else
      am_ci (F 53 0 [.int v3, .int (v2 + 1), .int 300] [] M3) fun x6 M5 => /- Model_in -/
      if x6 = 0 then
        am_rt 1 (-2) M5
      else
        am_gI g M5 a0 12 19 fun x7 =>
        if x7 = 40 then
          am_rt 1 (-4) M5
        else
          am_gR g a0 12 20 fun q8 =>
          am_gI g M5 a0 12 19 fun x9 =>
          am_is g M5 q8 x9 v1 fun M10 =>
          am_gR g a0 12 21 fun q11 =>
          am_gI g M10 a0 12 19 fun x12 =>
          am_is g M10 q11 x12 v2 fun M13 =>
          am_gR g a0 12 22 fun q14 =>
          am_gI g M13 a0 12 19 fun x15 =>
          am_is g M13 q14 x15 v3 fun M16 =>
          am_gR g a0 12 23 fun q17 =>
          am_gI g M16 a0 12 19 fun x18 =>
          am_gI g M16 a0 12 14 fun x19 =>
          am_is g M16 q17 x18 x19 fun M20 =>
          am_gI g M20 a0 12 19 fun x21 =>
          am_pI g M20 a0 12 19 (x21 + 1) fun M22 =>
          am_gI g M22 a0 12 19 fun x23 =>
          am_rt 1 (x23 - 1) M22) = some r) : F 193 0 [.ref a0, .int v1, .int v2, .int v3] [] M = some r := am_inF hF t_Model_shut h
set_option maxRecDepth 20000 in
set_option maxHeartbeats 2000000 in
theorem e_Model_wasShut {g : am_G} {F : am_FT} (hF : F = am_F T0 g) {M : am_M} {a0 : Nat} {v1 : Int32} {v2 : Int32} {v3 : Int32} {r : am_R} (h : (
  am_rc g a0 12 <|
  am_ci (F 122 0 [.ref a0, .int v1] [] M) fun x2 M1 => /- Model_isWay -/
  if x2 = 0 then
    am_rt 1 (-1) M1
  else
    am_ci (F 53 0 [.int v2, .int 0, .int 299] [] M1) fun x4 M3 => /- Model_in -/
    if x4 = 0 then
      am_rt 1 (-2) M3
    else
      am_gI g M3 a0 12 14 fun x5 =>
      am_ci (F 53 0 [.int v3, .int 0, .int x5] [] M3) fun x7 M6 => /- Model_in -/
      if x7 = 0 then
        am_rt 1 (-2) M6
      else
        am_rc g a0 12 <|
        am_ci (F 57 0 [.ref a0, .int v1, .int v2, .int v3] [] M6) fun x9 M8 => /- Model_isShut -/
        if x9 = 0 then
          am_rt 1 0 M8
        else
          am_rt 1 1 M8) = some r) : F 194 0 [.ref a0, .int v1, .int v2, .int v3] [] M = some r := am_inF hF t_Model_wasShut h
set_option maxRecDepth 20000 in
set_option maxHeartbeats 2000000 in
theorem e_Model_drivable {g : am_G} {F : am_FT} (hF : F = am_F T0 g) {M : am_M} {a0 : Nat} {v1 : Int32} {v2 : Int32} {v3 : Int32} {v4 : Int32} {r : am_R} (h : (
  am_rc g a0 12 <|
  am_ci (F 117 0 [.ref a0, .int v1] [] M) fun x2 M1 => /- Model_isLeg -/
  if x2 = 0 then
    am_rt 1 (-1) M1
  else
    am_ci (F 53 0 [.int v2, .int 0, .int 299] [] M1) fun x4 M3 => /- Model_in -/
    if x4 = 0 then
      am_rt 1 (-2) M3
    else
      am_ci (F 116 0 [.int v3] [] M3) fun x6 M5 => /- Model_isHour -/
      if x6 = 0 then
        am_rt 1 (-2) M5
      else
        am_gI g M5 a0 12 14 fun x7 =>
        am_ci (F 53 0 [.int v4, .int 0, .int x7] [] M5) fun x9 M8 => /- Model_in -/
        if x9 = 0 then
          am_rt 1 (-2) M8
        else
          am_rc g a0 12 <|
          am_ci (F 184 0 [.ref a0, .int v1, .int v2, .int v3, .int v4] [] M8) fun x11 M10 => /- Model_isDrivable -/
          if x11 = 0 then
            am_rt 1 0 M10
          else
            am_rt 1 1 M10) = some r) : F 223 0 [.ref a0, .int v1, .int v2, .int v3, .int v4] [] M = some r := am_inF hF t_Model_drivable h
theorem e_Model_isWrong {g : am_G} {F : am_FT} (hF : F = am_F T0 g) {M : am_M} {a0 : Nat} {v1 : Int32} {v2 : Int32} {v3 : Int32} {v4 : Int32} {r : am_R} (h : (
  F 224 3 [.ref a0, .int v1, .int v2, .int v3, .int v4, .int 0] [] M) = some r) : F 224 0 [.ref a0, .int v1, .int v2, .int v3, .int v4] [] M = some r := am_inF hF t_Model_isWrong h
set_option maxRecDepth 20000 in
set_option maxHeartbeats 2000000 in
theorem e_Model_isWrong_3 {g : am_G} {F : am_FT} (hF : F = am_F T0 g) {M : am_M} {a0 : Nat} {v1 : Int32} {v2 : Int32} {v3 : Int32} {v4 : Int32} {v5 : Int32} {r : am_R} (h : (
  am_gR g a0 12 50 fun q1 =>
  am_ia g M q1 ((8 * v1) + 6) fun x2 =>
  if x2 ≤ v5 then
    am_rt 2 0 M
  else
    am_gR g a0 12 51 fun q3 =>
    am_ia g M q3 ((80 * v1) + v5) fun x4 =>
    am_rc g a0 12 <|
    am_ci (F 184 0 [.ref a0, .int x4, .int v2, .int v3, .int v4] [] M) fun x6 M5 => /- Model_isDrivable -/
    if x6 = 0 then
      am_rt 2 1 M5
    else
      if v5 ≤ 0 then
        F 224 3 [.ref a0, .int v1, .int v2, .int v3, .int v4, .int (v5 + 1)] [] M5
      else
        am_gR g a0 12 51 fun q7 =>
        am_ia g M5 q7 (((80 * v1) + v5) - 1) fun x8 =>
        am_rc g a0 12 <|
        am_ci (F 54 0 [.ref a0, .int x8, .int x4, .int v2, .int v3] [] M5) fun x10 M9 => /- Model_isBanned -/
        if x10 = 0 then
          F 224 3 [.ref a0, .int v1, .int v2, .int v3, .int v4, .int (v5 + 1)] [] M9
        else
          am_rt 2 1 M9) = some r) : F 224 3 [.ref a0, .int v1, .int v2, .int v3, .int v4, .int v5] [] M = some r := am_inF hF t_Model_isWrong h
set_option maxRecDepth 20000 in
set_option maxHeartbeats 2000000 in
theorem e_Model_mayGo {g : am_G} {F : am_FT} (hF : F = am_F T0 g) {M : am_M} {a0 : Nat} {v1 : Int32} {r : am_R} (h : (
  am_gI g M a0 12 56 fun x1 =>
  if x1 = (-1) then
    am_gI g M a0 12 57 fun x10 =>
    am_gI g M a0 12 58 fun x11 =>
    am_gI g M a0 12 59 fun x12 =>
    am_rc g a0 12 <|
    am_ci (F 184 0 [.ref a0, .int v1, .int x10, .int x11, .int x12] [] M) fun x14 M13 => /- Model_isDrivable -/
    am_rt 2 x14 M13
  else
    am_gR g a0 12 9 fun q2 =>
    am_dv 2 <|
    am_za g M q2 (v1 / 2) fun x3 =>
    if x3 = 0 then
      am_dv 2 <|
      am_gI g M a0 12 58 fun x4 =>
      am_rc g a0 12 <|
      am_ci (F 118 0 [.ref a0, .int (v1 / 2), .int x4] [] M) fun x6 M5 => /- Model_isOpen -/
      if x6 = 0 then
        am_rt 2 0 M5
      else
        am_rt 2 1 M5
    else
      am_dv 2 <|
      if (v1 - v1 / 2 * 2) = 1 then
        am_rt 2 0 M
      else
        am_dv 2 <|
        am_gI g M a0 12 58 fun x7 =>
        am_rc g a0 12 <|
        am_ci (F 118 0 [.ref a0, .int (v1 / 2), .int x7] [] M) fun x9 M8 => /- Model_isOpen -/
        if x9 = 0 then
          am_rt 2 0 M8
        else
          am_rt 2 1 M8) = some r) : F 225 0 [.ref a0, .int v1] [] M = some r := am_inF hF t_Model_mayGo h
set_option maxRecDepth 20000 in
set_option maxHeartbeats 2000000 in
theorem e_Model_testRead {g : am_G} {F : am_FT} (hF : F = am_F T0 g) {M : am_M} {a0 : Nat} {r : am_R} (h : (
  am_rc g a0 12 <|
  am_ci (F 52 0 [.ref a0] [] M) fun x2 M1 => /- Model_here -/
  if x2 = 102 then
    am_rc g a0 12 <|
    am_cv (F 181 0 [.ref a0, .int 102, .int 101, .int 101, .int 116] [] M1) fun M3 => /- Model_eats4 -/
    F 226 171 [.ref a0, .int 4] [] M3
  else
  if x2 = 111 then
    am_rc g a0 12 <|
    am_cv (F 181 0 [.ref a0, .int 111, .int 118, .int 101, .int 114] [] M1) fun M4 => /- Model_eats4 -/
    F 226 171 [.ref a0, .int 2] [] M4
  else
  if x2 = 115 then
    am_rc g a0 12 <|
    am_cv (F 181 0 [.ref a0, .int 115, .int 97, .int 105, .int 100] [] M1) fun M5 => /- Model_eats4 -/
    F 226 171 [.ref a0, .int 0] [] M5
  else
  if x2 = 116 then
    am_rc g a0 12 <|
    am_cv (F 181 0 [.ref a0, .int 116, .int 117, .int 114, .int 110] [] M1) fun M6 => /- Model_eats4 -/
    am_rc g a0 12 <|
    am_cv (F 110 0 [.ref a0, .int 115] [] M6) fun M7 => /- Model_eats -/
    F 226 171 [.ref a0, .int 3] [] M7
  else
  if x2 = 119 then
    am_rc g a0 12 <|
    am_cv (F 181 0 [.ref a0, .int 119, .int 114, .int 111, .int 110] [] M1) fun M8 => /- Model_eats4 -/
    am_rc g a0 12 <|
    am_cv (F 110 0 [.ref a0, .int 103] [] M8) fun M9 => /- Model_eats -/
    F 226 171 [.ref a0, .int 1] [] M9
  else
    am_rc g a0 12 <|
    am_cv (F 110 0 [.ref a0, .int 100] [] M1) fun M10 => /- Model_eats -/
    am_rc g a0 12 <|
    am_cv (F 110 0 [.ref a0, .int 97] [] M10) fun M11 => /- Model_eats -/
    am_rc g a0 12 <|
    am_cv (F 110 0 [.ref a0, .int 121] [] M11) fun M12 => /- Model_eats -/
    F 226 171 [.ref a0, .int 5] [] M12) = some r) : F 226 0 [.ref a0] [] M = some r := am_inF hF t_Model_testRead h
set_option maxRecDepth 20000 in
set_option maxHeartbeats 2000000 in
theorem e_Model_testRead_171 {g : am_G} {F : am_FT} (hF : F = am_F T0 g) {M : am_M} {a0 : Nat} {v1 : Int32} {r : am_R} (h : (
  am_rc g a0 12 <|
  am_ci (F 52 0 [.ref a0] [] M) fun x2 M1 => /- Model_here -/
  am_gI g M1 a0 12 92 fun x3 =>
  if x3 = 0 then
    if x2 = 61 then
      am_gI g M1 a0 12 75 fun x11 =>
      am_pI g M1 a0 12 75 (x11 + 1) fun M12 =>
      if x2 = 61 then
        am_rc g a0 12 <|
        am_ci (F 126 0 [.ref a0] [] M12) fun x18 M17 => /- Model_number -/
        am_rt 1 (((100000 * v1) + ((10000 : Int32) * 0)) + x18) M17
      else
        if x2 = 60 then
          am_rc g a0 12 <|
          am_ci (F 126 0 [.ref a0] [] M12) fun x16 M15 => /- Model_number -/
          am_rt 1 (((100000 * v1) + ((10000 : Int32) * 1)) + x16) M15
        else
          am_rc g a0 12 <|
          am_ci (F 126 0 [.ref a0] [] M12) fun x14 M13 => /- Model_number -/
          am_rt 1 (((100000 * v1) + ((10000 : Int32) * 2)) + x14) M13
    else
      if x2 = 60 then
        am_gI g M1 a0 12 75 fun x19 =>
        am_pI g M1 a0 12 75 (x19 + 1) fun M20 =>
        if x2 = 61 then
          am_rc g a0 12 <|
          am_ci (F 126 0 [.ref a0] [] M20) fun x26 M25 => /- Model_number -/
          am_rt 1 (((100000 * v1) + ((10000 : Int32) * 0)) + x26) M25
        else
          if x2 = 60 then
            am_rc g a0 12 <|
            am_ci (F 126 0 [.ref a0] [] M20) fun x24 M23 => /- Model_number -/
            am_rt 1 (((100000 * v1) + ((10000 : Int32) * 1)) + x24) M23
          else
            am_rc g a0 12 <|
            am_ci (F 126 0 [.ref a0] [] M20) fun x22 M21 => /- Model_number -/
            am_rt 1 (((100000 * v1) + ((10000 : Int32) * 2)) + x22) M21
      else
        if x2 = 62 then
          am_gI g M1 a0 12 75 fun x34 =>
          am_pI g M1 a0 12 75 (x34 + 1) fun M35 =>
          if x2 = 61 then
            am_rc g a0 12 <|
            am_ci (F 126 0 [.ref a0] [] M35) fun x41 M40 => /- Model_number -/
            am_rt 1 (((100000 * v1) + ((10000 : Int32) * 0)) + x41) M40
          else
            if x2 = 60 then
              am_rc g a0 12 <|
              am_ci (F 126 0 [.ref a0] [] M35) fun x39 M38 => /- Model_number -/
              am_rt 1 (((100000 * v1) + ((10000 : Int32) * 1)) + x39) M38
            else
              am_rc g a0 12 <|
              am_ci (F 126 0 [.ref a0] [] M35) fun x37 M36 => /- Model_number -/
              am_rt 1 (((100000 * v1) + ((10000 : Int32) * 2)) + x37) M36
        else
          am_pZ g M1 a0 12 92 1 fun M27 =>
          if x2 = 61 then
            am_rc g a0 12 <|
            am_ci (F 126 0 [.ref a0] [] M27) fun x33 M32 => /- Model_number -/
            am_rt 1 (((100000 * v1) + ((10000 : Int32) * 0)) + x33) M32
          else
            if x2 = 60 then
              am_rc g a0 12 <|
              am_ci (F 126 0 [.ref a0] [] M27) fun x31 M30 => /- Model_number -/
              am_rt 1 (((100000 * v1) + ((10000 : Int32) * 1)) + x31) M30
            else
              am_rc g a0 12 <|
              am_ci (F 126 0 [.ref a0] [] M27) fun x29 M28 => /- Model_number -/
              am_rt 1 (((100000 * v1) + ((10000 : Int32) * 2)) + x29) M28
  else
    am_pZ g M1 a0 12 92 1 fun M4 =>
    if x2 = 61 then
      am_rc g a0 12 <|
      am_ci (F 126 0 [.ref a0] [] M4) fun x10 M9 => /- Model_number -/
      am_rt 1 (((100000 * v1) + ((10000 : Int32) * 0)) + x10) M9
    else
      if x2 = 60 then
        am_rc g a0 12 <|
        am_ci (F 126 0 [.ref a0] [] M4) fun x8 M7 => /- Model_number -/
        am_rt 1 (((100000 * v1) + ((10000 : Int32) * 1)) + x8) M7
      else
        am_rc g a0 12 <|
        am_ci (F 126 0 [.ref a0] [] M4) fun x6 M5 => /- Model_number -/
        am_rt 1 (((100000 * v1) + ((10000 : Int32) * 2)) + x6) M5) = some r) : F 226 171 [.ref a0, .int v1] [] M = some r := am_inF hF t_Model_testRead h
set_option maxRecDepth 20000 in
set_option maxHeartbeats 2000000 in
theorem e_Model_turnRead {g : am_G} {F : am_FT} (hF : F = am_F T0 g) {M : am_M} {a0 : Nat} {r : am_R} (h : (
  am_rc g a0 12 <|
  am_ci (F 188 0 [.ref a0] [] M) fun x2 M1 => /- Model_leftRight -/
  if x2 = (-1) then
    am_rc g a0 12 <|
    am_ci (F 120 0 [.ref a0, .int 97, .int 104, .int 101, .int 97, .int 100] [] M1) fun x26 M25 => /- Model_isSaid -/
    if x26 = 0 then
      if x2 = (-1) then
        am_gJ g M25 a0 12 77 fun l38 =>
        am_cj (F 65 0 [.int 99, .int 111, .int 109, .int 112, .int 108] [] M25) fun l40 M39 => /- Model_wordOf -/
        if (lg_cmp l38 ((l40 <<< ((8 : Int32).toInt64 &&& 63)) ||| 121)) = 0 then
          am_rc g a0 12 <|
          am_cv (F 61 0 [.ref a0] [] M39) fun M41 => /- Model_skips -/
          am_gI g M41 a0 12 75 fun x42 =>
          am_gI g M41 a0 12 36 fun x43 =>
          if x43 ≤ (x42 + 1) then
            F 227 111 [.ref a0] [.int 0] M41
          else
            am_gR g a0 12 35 fun q44 =>
            am_gI g M41 a0 12 75 fun x45 =>
            am_ia g M41 q44 (x45 + 1) fun x46 =>
            am_ci (F 53 0 [.int x46, .int 48, .int 57] [] M41) fun x48 M47 => /- Model_in -/
            if x48 = 0 then
              F 227 111 [.ref a0] [.int 0] M47
            else
              F 227 111 [.ref a0] [.int 1] M47
        else
          am_rt 2 0 M39
      else
        am_rc g a0 12 <|
        am_cv (F 134 0 [.ref a0] [] M25) fun M27 => /- Model_reads -/
        am_gJ g M27 a0 12 77 fun l28 =>
        if (lg_cmp l28 0) = 0 then
          am_rt 2 0 M27
        else
          am_gR g a0 12 79 fun q29 =>
          am_gI g M27 a0 12 78 fun x30 =>
          am_is g M27 q29 x30 x2 fun M31 =>
          am_gR g a0 12 80 fun q32 =>
          am_gI g M31 a0 12 78 fun x33 =>
          am_gJ g M31 a0 12 77 fun l34 =>
          am_ls g M31 q32 x33 l34 fun M35 =>
          am_gI g M35 a0 12 78 fun x36 =>
          am_pI g M35 a0 12 78 (x36 + 1) fun M37 =>
          am_rt 2 1 M37
    else
      if (2 : Int32) = (-1) then
        am_gJ g M25 a0 12 77 fun l60 =>
        am_cj (F 65 0 [.int 99, .int 111, .int 109, .int 112, .int 108] [] M25) fun l62 M61 => /- Model_wordOf -/
        if (lg_cmp l60 ((l62 <<< ((8 : Int32).toInt64 &&& 63)) ||| 121)) = 0 then
          am_rc g a0 12 <|
          am_cv (F 61 0 [.ref a0] [] M61) fun M63 => /- Model_skips -/
          am_gI g M63 a0 12 75 fun x64 =>
          am_gI g M63 a0 12 36 fun x65 =>
          if x65 ≤ (x64 + 1) then
            F 227 111 [.ref a0] [.int 0] M63
          else
            am_gR g a0 12 35 fun q66 =>
            am_gI g M63 a0 12 75 fun x67 =>
            am_ia g M63 q66 (x67 + 1) fun x68 =>
            am_ci (F 53 0 [.int x68, .int 48, .int 57] [] M63) fun x70 M69 => /- Model_in -/
            if x70 = 0 then
              F 227 111 [.ref a0] [.int 0] M69
            else
              F 227 111 [.ref a0] [.int 1] M69
        else
          am_rt 2 0 M61
      else
        am_rc g a0 12 <|
        am_cv (F 134 0 [.ref a0] [] M25) fun M49 => /- Model_reads -/
        am_gJ g M49 a0 12 77 fun l50 =>
        if (lg_cmp l50 0) = 0 then
          am_rt 2 0 M49
        else
          am_gR g a0 12 79 fun q51 =>
          am_gI g M49 a0 12 78 fun x52 =>
          am_is g M49 q51 x52 2 fun M53 =>
          am_gR g a0 12 80 fun q54 =>
          am_gI g M53 a0 12 78 fun x55 =>
          am_gJ g M53 a0 12 77 fun l56 =>
          am_ls g M53 q54 x55 l56 fun M57 =>
          am_gI g M57 a0 12 78 fun x58 =>
          am_pI g M57 a0 12 78 (x58 + 1) fun M59 =>
          am_rt 2 1 M59
  else
    if x2 = (-1) then
      am_gJ g M1 a0 12 77 fun l14 =>
      am_cj (F 65 0 [.int 99, .int 111, .int 109, .int 112, .int 108] [] M1) fun l16 M15 => /- Model_wordOf -/
      if (lg_cmp l14 ((l16 <<< ((8 : Int32).toInt64 &&& 63)) ||| 121)) = 0 then
        am_rc g a0 12 <|
        am_cv (F 61 0 [.ref a0] [] M15) fun M17 => /- Model_skips -/
        am_gI g M17 a0 12 75 fun x18 =>
        am_gI g M17 a0 12 36 fun x19 =>
        if x19 ≤ (x18 + 1) then
          F 227 111 [.ref a0] [.int 0] M17
        else
          am_gR g a0 12 35 fun q20 =>
          am_gI g M17 a0 12 75 fun x21 =>
          am_ia g M17 q20 (x21 + 1) fun x22 =>
          am_ci (F 53 0 [.int x22, .int 48, .int 57] [] M17) fun x24 M23 => /- Model_in -/
          if x24 = 0 then
            F 227 111 [.ref a0] [.int 0] M23
          else
            F 227 111 [.ref a0] [.int 1] M23
      else
        am_rt 2 0 M15
    else
      am_rc g a0 12 <|
      am_cv (F 134 0 [.ref a0] [] M1) fun M3 => /- Model_reads -/
      am_gJ g M3 a0 12 77 fun l4 =>
      if (lg_cmp l4 0) = 0 then
        am_rt 2 0 M3
      else
        am_gR g a0 12 79 fun q5 =>
        am_gI g M3 a0 12 78 fun x6 =>
        am_is g M3 q5 x6 x2 fun M7 =>
        am_gR g a0 12 80 fun q8 =>
        am_gI g M7 a0 12 78 fun x9 =>
        am_gJ g M7 a0 12 77 fun l10 =>
        am_ls g M7 q8 x9 l10 fun M11 =>
        am_gI g M11 a0 12 78 fun x12 =>
        am_pI g M11 a0 12 78 (x12 + 1) fun M13 =>
        am_rt 2 1 M13) = some r) : F 227 0 [.ref a0] [] M = some r := am_inF hF t_Model_turnRead h
set_option maxRecDepth 20000 in
set_option maxHeartbeats 2000000 in
theorem e_Model_turnRead_111 {g : am_G} {F : am_FT} (hF : F = am_F T0 g) {M : am_M} {a0 : Nat} {vs0 : Int32} {r : am_R} (h : (
  am_gI g M a0 12 75 fun x1 =>
  am_gI g M a0 12 36 fun x2 =>
  if x2 ≤ x1 then
    am_rt 2 0 M
  else
    am_gR g a0 12 35 fun q3 =>
    am_gI g M a0 12 75 fun x4 =>
    am_ia g M q3 x4 fun x5 =>
    am_ci (F 53 0 [.int x5, .int 49, .int 57] [] M) fun x7 M6 => /- Model_in -/
    if x7 = 0 then
      am_rt 2 0 M6
    else
      if vs0 = 0 then
        am_gR g a0 12 35 fun q8 =>
        am_gI g M6 a0 12 75 fun x9 =>
        am_ia g M6 q8 x9 fun x10 =>
        am_gI g M6 a0 12 75 fun x11 =>
        am_pI g M6 a0 12 75 (x11 + 1) fun M12 =>
        am_rc g a0 12 <|
        am_cv (F 134 0 [.ref a0] [] M12) fun M13 => /- Model_reads -/
        am_gJ g M13 a0 12 77 fun l14 =>
        if (lg_cmp l14 0) = 0 then
          am_rt 2 0 M13
        else
          am_gR g a0 12 79 fun q15 =>
          am_gI g M13 a0 12 78 fun x16 =>
          am_is g M13 q15 x16 ((2 + x10) - 48) fun M17 =>
          am_gR g a0 12 80 fun q18 =>
          am_gI g M17 a0 12 78 fun x19 =>
          am_gJ g M17 a0 12 77 fun l20 =>
          am_ls g M17 q18 x19 l20 fun M21 =>
          am_gI g M21 a0 12 78 fun x22 =>
          am_pI g M21 a0 12 78 (x22 + 1) fun M23 =>
          am_rt 2 1 M23
      else
        am_rt 2 0 M6) = some r) : F 227 111 [.ref a0] [.int vs0] M = some r := am_inF hF t_Model_turnRead h
set_option maxRecDepth 20000 in
set_option maxHeartbeats 2000000 in
theorem e_Model_turned {g : am_G} {F : am_FT} (hF : F = am_F T0 g) {M : am_M} {a0 : Nat} {v1 : Int32} {v2 : Int32} {r : am_R} (h : (
  am_gR g a0 12 3 fun q1 =>
  am_rc g a0 12 <|
  am_ci (F 50 0 [.ref a0, .int v1] [] M) fun x3 M2 => /- Model_end -/
  am_za g M2 q1 x3 fun x4 =>
  if x4 = 0 then
    am_rc g a0 12 <|
    am_ci (F 108 0 [.ref a0, .int v1] [] M2) fun x6 M5 => /- Model_dx -/
    am_rc g a0 12 <|
    am_ci (F 109 0 [.ref a0, .int v1] [] M5) fun x8 M7 => /- Model_dy -/
    am_rc g a0 12 <|
    am_ci (F 108 0 [.ref a0, .int v2] [] M7) fun x10 M9 => /- Model_dx -/
    am_rc g a0 12 <|
    am_ci (F 109 0 [.ref a0, .int v2] [] M9) fun x12 M11 => /- Model_dy -/
    am_ci (F 49 0 [.int x6, .int x8, .int x10, .int x12] [] M11) fun x14 M13 => /- Model_cross -/
    if 0 ≤ x14 then
      if x14 = 0 then
        am_rc g a0 12 <|
        am_ci (F 108 0 [.ref a0, .int v1] [] M13) fun x16 M15 => /- Model_dx -/
        am_rc g a0 12 <|
        am_ci (F 108 0 [.ref a0, .int v2] [] M15) fun x18 M17 => /- Model_dx -/
        am_rc g a0 12 <|
        am_ci (F 109 0 [.ref a0, .int v1] [] M17) fun x20 M19 => /- Model_dy -/
        am_rc g a0 12 <|
        am_ci (F 109 0 [.ref a0, .int v2] [] M19) fun x22 M21 => /- Model_dy -/
        if ((x16 * x18) + (x20 * x22)) < 0 then
          am_rt 1 0 M21
        else
          am_rt 1 2 M21
      else
        am_rt 1 0 M13
    else
      am_rt 1 1 M13
  else
    F 228 86 [.ref a0, .int v1, .int v2, .int 3, .int 0] [] M2) = some r) : F 228 0 [.ref a0, .int v1, .int v2] [] M = some r := am_inF hF t_Model_turned h
theorem e_Model_turned_86 {g : am_G} {F : am_FT} (hF : F = am_F T0 g) {M : am_M} {a0 : Nat} {v1 : Int32} {v2 : Int32} {v3 : Int32} {v4 : Int32} {r : am_R} (h : (
  am_gI g M a0 12 4 fun x1 =>
  if (2 * x1) ≤ v4 then
    am_rt 1 v3 M
  else
    if v4 = v2 then
      F 228 86 [.ref a0, .int v1, .int v2, .int (v3 + 0), .int (v4 + 1)] [] M
    else
      am_rc g a0 12 <|
      am_ci (F 113 0 [.ref a0, .int v1, .int v4] [] M) fun x3 M2 => /- Model_follows -/
      if x3 = 0 then
        F 228 86 [.ref a0, .int v1, .int v2, .int (v3 + 0), .int (v4 + 1)] [] M2
      else
        am_rc g a0 12 <|
        am_ci (F 183 0 [.ref a0, .int v1, .int v4, .int v2] [] M2) fun x5 M4 => /- Model_isAhead -/
        if x5 = 0 then
          F 228 86 [.ref a0, .int v1, .int v2, .int (v3 + 0), .int (v4 + 1)] [] M4
        else
          F 228 86 [.ref a0, .int v1, .int v2, .int (v3 + 1), .int (v4 + 1)] [] M4) = some r) : F 228 86 [.ref a0, .int v1, .int v2, .int v3, .int v4] [] M = some r := am_inF hF t_Model_turned h
set_option maxRecDepth 20000 in
set_option maxHeartbeats 2000000 in
theorem e_Model_mayTurn {g : am_G} {F : am_FT} (hF : F = am_F T0 g) {M : am_M} {a0 : Nat} {v1 : Int32} {v2 : Int32} {r : am_R} (h : (
  am_rc g a0 12 <|
  am_ci (F 113 0 [.ref a0, .int v1, .int v2] [] M) fun x2 M1 => /- Model_follows -/
  if x2 = 0 then
    am_rt 2 0 M1
  else
    am_rc g a0 12 <|
    am_ci (F 225 0 [.ref a0, .int v2] [] M1) fun x4 M3 => /- Model_mayGo -/
    if x4 = 0 then
      am_rt 2 0 M3
    else
      am_gI g M3 a0 12 56 fun x5 =>
      if x5 = (-1) then
        am_gI g M3 a0 12 57 fun x10 =>
        am_gI g M3 a0 12 58 fun x11 =>
        am_rc g a0 12 <|
        am_ci (F 54 0 [.ref a0, .int v1, .int v2, .int x10, .int x11] [] M3) fun x13 M12 => /- Model_isBanned -/
        if x13 = 0 then
          am_rt 2 1 M12
        else
          am_rt 2 0 M12
      else
        am_gI g M3 a0 12 56 fun x6 =>
        am_gI g M3 a0 12 14 fun x7 =>
        am_rc g a0 12 <|
        am_ci (F 55 0 [.ref a0, .int x6, .int v1, .int v2, .int x7] [] M3) fun x9 M8 => /- Model_isHeld -/
        am_rt 2 x9 M8) = some r) : F 234 0 [.ref a0, .int v1, .int v2] [] M = some r := am_inF hF t_Model_mayTurn h
set_option maxRecDepth 20000 in
set_option maxHeartbeats 2000000 in
theorem e_Model_rule {g : am_G} {F : am_FT} (hF : F = am_F T0 g) {M : am_M} {a0 : Nat} {r : am_R} (h : (
  am_gI g M a0 12 45 fun x1 =>
  if x1 = 6 then
    am_rt 1 (-4) M
  else
    am_pI g M a0 12 75 0 fun M2 =>
    am_pZ g M2 a0 12 92 0 fun M3 =>
    am_rc g a0 12 <|
    am_cv (F 181 0 [.ref a0, .int 116, .int 97, .int 107, .int 101] [] M3) fun M4 => /- Model_eats4 -/
    am_rc g a0 12 <|
    am_cv (F 110 0 [.ref a0, .int 32] [] M4) fun M5 => /- Model_eats -/
    am_rc g a0 12 <|
    am_ci (F 126 0 [.ref a0] [] M5) fun x7 M6 => /- Model_number -/
    am_gI g M6 a0 12 92 fun x8 =>
    if x8 = 0 then
      am_gI g M6 a0 12 75 fun x21 =>
      am_gI g M6 a0 12 36 fun x22 =>
      if x22 ≤ x21 then
        am_gI g M6 a0 12 75 fun x23 =>
        am_pI g M6 a0 12 36 0 fun M24 =>
        am_gI g M24 a0 12 92 fun x25 =>
        if x25 = 0 then
          am_gR g a0 12 46 fun q26 =>
          am_gI g M24 a0 12 45 fun x27 =>
          am_is g M24 q26 x27 x7 fun M28 =>
          am_gR g a0 12 47 fun q29 =>
          am_gI g M28 a0 12 45 fun x30 =>
          am_is g M28 q29 x30 0 fun M31 =>
          am_gI g M31 a0 12 45 fun x32 =>
          am_pI g M31 a0 12 45 (x32 + 1) fun M33 =>
          am_gI g M33 a0 12 45 fun x34 =>
          am_rt 1 (x34 - 1) M33
        else
          am_rt 1 ((-100) - x23) M24
      else
        am_rc g a0 12 <|
        am_cv (F 110 0 [.ref a0, .int 32] [] M6) fun M35 => /- Model_eats -/
        am_rc g a0 12 <|
        am_cv (F 110 0 [.ref a0, .int 105] [] M35) fun M36 => /- Model_eats -/
        am_rc g a0 12 <|
        am_cv (F 110 0 [.ref a0, .int 102] [] M36) fun M37 => /- Model_eats -/
        am_rc g a0 12 <|
        am_cv (F 110 0 [.ref a0, .int 32] [] M37) fun M38 => /- Model_eats -/
        am_gI g M38 a0 12 92 fun x39 =>
        if x39 = 0 then
          F 235 102 [.ref a0, .int x7, .int 0, .int 1] [] M38
        else
          F 235 102 [.ref a0, .int x7, .int 0, .int 0] [] M38
    else
      am_gI g M6 a0 12 75 fun x9 =>
      am_pI g M6 a0 12 36 0 fun M10 =>
      am_gI g M10 a0 12 92 fun x11 =>
      if x11 = 0 then
        am_gR g a0 12 46 fun q12 =>
        am_gI g M10 a0 12 45 fun x13 =>
        am_is g M10 q12 x13 x7 fun M14 =>
        am_gR g a0 12 47 fun q15 =>
        am_gI g M14 a0 12 45 fun x16 =>
        am_is g M14 q15 x16 0 fun M17 =>
        am_gI g M17 a0 12 45 fun x18 =>
        am_pI g M17 a0 12 45 (x18 + 1) fun M19 =>
        am_gI g M19 a0 12 45 fun x20 =>
        am_rt 1 (x20 - 1) M19
      else
        am_rt 1 ((-100) - x9) M10) = some r) : F 235 0 [.ref a0] [] M = some r := am_inF hF t_Model_rule h
set_option maxRecDepth 20000 in
set_option maxHeartbeats 2000000 in
theorem e_Model_rule_102 {g : am_G} {F : am_FT} (hF : F = am_F T0 g) {M : am_M} {a0 : Nat} {v1 : Int32} {v2 : Int32} {v3 : Int32} {r : am_R} (h : (
  if v3 = 0 then
    am_gI g M a0 12 75 fun x1 =>
    am_pI g M a0 12 36 0 fun M2 =>
    am_gI g M2 a0 12 92 fun x3 =>
    if x3 = 0 then
      am_gR g a0 12 46 fun q4 =>
      am_gI g M2 a0 12 45 fun x5 =>
      am_is g M2 q4 x5 v1 fun M6 =>
      am_gR g a0 12 47 fun q7 =>
      am_gI g M6 a0 12 45 fun x8 =>
      am_is g M6 q7 x8 v2 fun M9 =>
      am_gI g M9 a0 12 45 fun x10 =>
      am_pI g M9 a0 12 45 (x10 + 1) fun M11 =>
      am_gI g M11 a0 12 45 fun x12 =>
      am_rt 1 (x12 - 1) M11
    else
      am_rt 1 ((-100) - x1) M2
  else
    am_gR g a0 12 48 fun q13 =>
    am_gI g M a0 12 45 fun x14 =>
    am_rc g a0 12 <|
    am_ci (F 226 0 [.ref a0] [] M) fun x16 M15 => /- Model_testRead -/
    am_is g M15 q13 ((3 * x14) + v2) x16 fun M17 =>
    am_gI g M17 a0 12 92 fun x18 =>
    if x18 = 0 then
      am_gI g M17 a0 12 75 fun x24 =>
      am_gI g M17 a0 12 36 fun x25 =>
      if x25 ≤ x24 then
        if (0 : Int32) = 0 then
          if (0 : Int32) = 0 then
            F 235 102 [.ref a0, .int v1, .int (v2 + 1), .int 0] [] M17
          else
            am_rc g a0 12 <|
            am_cv (F 110 0 [.ref a0, .int 38] [] M17) fun M26 => /- Model_eats -/
            am_gI g M26 a0 12 92 fun x27 =>
            if x27 = 0 then
              F 235 102 [.ref a0, .int v1, .int (v2 + 1), .int 1] [] M26
            else
              F 235 102 [.ref a0, .int v1, .int (v2 + 1), .int 0] [] M26
        else
          if (v2 + 1) = 3 then
            am_pZ g M17 a0 12 92 1 fun M30 =>
            F 235 102 [.ref a0, .int v1, .int (v2 + 1), .int 0] [] M30
          else
            if (0 : Int32) = 0 then
              F 235 102 [.ref a0, .int v1, .int (v2 + 1), .int 0] [] M17
            else
              am_rc g a0 12 <|
              am_cv (F 110 0 [.ref a0, .int 38] [] M17) fun M28 => /- Model_eats -/
              am_gI g M28 a0 12 92 fun x29 =>
              if x29 = 0 then
                F 235 102 [.ref a0, .int v1, .int (v2 + 1), .int 1] [] M28
              else
                F 235 102 [.ref a0, .int v1, .int (v2 + 1), .int 0] [] M28
      else
        if (1 : Int32) = 0 then
          if (1 : Int32) = 0 then
            F 235 102 [.ref a0, .int v1, .int (v2 + 1), .int 1] [] M17
          else
            am_rc g a0 12 <|
            am_cv (F 110 0 [.ref a0, .int 38] [] M17) fun M31 => /- Model_eats -/
            am_gI g M31 a0 12 92 fun x32 =>
            if x32 = 0 then
              F 235 102 [.ref a0, .int v1, .int (v2 + 1), .int 1] [] M31
            else
              F 235 102 [.ref a0, .int v1, .int (v2 + 1), .int 0] [] M31
        else
          if (v2 + 1) = 3 then
            am_pZ g M17 a0 12 92 1 fun M35 =>
            F 235 102 [.ref a0, .int v1, .int (v2 + 1), .int 0] [] M35
          else
            if (1 : Int32) = 0 then
              F 235 102 [.ref a0, .int v1, .int (v2 + 1), .int 1] [] M17
            else
              am_rc g a0 12 <|
              am_cv (F 110 0 [.ref a0, .int 38] [] M17) fun M33 => /- Model_eats -/
              am_gI g M33 a0 12 92 fun x34 =>
              if x34 = 0 then
                F 235 102 [.ref a0, .int v1, .int (v2 + 1), .int 1] [] M33
              else
                F 235 102 [.ref a0, .int v1, .int (v2 + 1), .int 0] [] M33
    else
      if (0 : Int32) = 0 then
        if (0 : Int32) = 0 then
          F 235 102 [.ref a0, .int v1, .int (v2 + 1), .int 0] [] M17
        else
          am_rc g a0 12 <|
          am_cv (F 110 0 [.ref a0, .int 38] [] M17) fun M19 => /- Model_eats -/
          am_gI g M19 a0 12 92 fun x20 =>
          if x20 = 0 then
            F 235 102 [.ref a0, .int v1, .int (v2 + 1), .int 1] [] M19
          else
            F 235 102 [.ref a0, .int v1, .int (v2 + 1), .int 0] [] M19
      else
        if (v2 + 1) = 3 then
          am_pZ g M17 a0 12 92 1 fun M23 =>
          F 235 102 [.ref a0, .int v1, .int (v2 + 1), .int 0] [] M23
        else
          if (0 : Int32) = 0 then
            F 235 102 [.ref a0, .int v1, .int (v2 + 1), .int 0] [] M17
          else
            am_rc g a0 12 <|
            am_cv (F 110 0 [.ref a0, .int 38] [] M17) fun M21 => /- Model_eats -/
            am_gI g M21 a0 12 92 fun x22 =>
            if x22 = 0 then
              F 235 102 [.ref a0, .int v1, .int (v2 + 1), .int 1] [] M21
            else
              F 235 102 [.ref a0, .int v1, .int (v2 + 1), .int 0] [] M21) = some r) : F 235 102 [.ref a0, .int v1, .int v2, .int v3] [] M = some r := am_inF hF t_Model_rule h
set_option maxRecDepth 20000 in
set_option maxHeartbeats 2000000 in
theorem e_Model_saidRead {g : am_G} {F : am_FT} (hF : F = am_F T0 g) {M : am_M} {a0 : Nat} {r : am_R} (h : (
  am_pI g M a0 12 75 0 fun M1 =>
  am_pI g M1 a0 12 78 0 fun M2 =>
  am_rc g a0 12 <|
  am_cv (F 134 0 [.ref a0] [] M2) fun M3 => /- Model_reads -/
  am_rc g a0 12 <|
  am_ci (F 120 0 [.ref a0, .int 108, .int 101, .int 97, .int 118, .int 101] [] M3) fun x5 M4 => /- Model_isSaid -/
  if x5 = 0 then
    am_gI g M4 a0 12 76 fun x22 =>
    am_rt 1 x22 M4
  else
    am_rc g a0 12 <|
    am_cv (F 134 0 [.ref a0] [] M4) fun M6 => /- Model_reads -/
    am_gJ g M6 a0 12 77 fun l7 =>
    if (lg_cmp l7 30064) = 0 then
      am_pZ g M6 a0 12 81 1 fun M15 =>
      am_gI g M15 a0 12 81 fun x16 =>
      if x16 = 0 then
        am_rc g a0 12 <|
        am_ci (F 120 0 [.ref a0, .int 100, .int 111, .int 119, .int 110, .int 0] [] M15) fun x19 M18 => /- Model_isSaid -/
        if x19 = 0 then
          am_gI g M18 a0 12 76 fun x21 =>
          am_rt 1 x21 M18
        else
          am_rc g a0 12 <|
          am_cv (F 134 0 [.ref a0] [] M18) fun M20 => /- Model_reads -/
          F 236 92 [.ref a0] [] M20
      else
        am_rc g a0 12 <|
        am_cv (F 134 0 [.ref a0] [] M15) fun M17 => /- Model_reads -/
        F 236 92 [.ref a0] [] M17
    else
      am_pZ g M6 a0 12 81 0 fun M8 =>
      am_gI g M8 a0 12 81 fun x9 =>
      if x9 = 0 then
        am_rc g a0 12 <|
        am_ci (F 120 0 [.ref a0, .int 100, .int 111, .int 119, .int 110, .int 0] [] M8) fun x12 M11 => /- Model_isSaid -/
        if x12 = 0 then
          am_gI g M11 a0 12 76 fun x14 =>
          am_rt 1 x14 M11
        else
          am_rc g a0 12 <|
          am_cv (F 134 0 [.ref a0] [] M11) fun M13 => /- Model_reads -/
          F 236 92 [.ref a0] [] M13
      else
        am_rc g a0 12 <|
        am_cv (F 134 0 [.ref a0] [] M8) fun M10 => /- Model_reads -/
        F 236 92 [.ref a0] [] M10) = some r) : F 236 0 [.ref a0] [] M = some r := am_inF hF t_Model_saidRead h
set_option maxRecDepth 20000 in
set_option maxHeartbeats 2000000 in
theorem e_Model_saidRead_92 {g : am_G} {F : am_FT} (hF : F = am_F T0 g) {M : am_M} {a0 : Nat} {r : am_R} (h : (
  am_rc g a0 12 <|
  am_ci (F 120 0 [.ref a0, .int 115, .int 101, .int 116, .int 0, .int 0] [] M) fun x2 M1 => /- Model_isSaid -/
  if x2 = 0 then
    am_gI g M1 a0 12 78 fun x19 =>
    if x19 = 20 then
      am_gI g M1 a0 12 76 fun x20 =>
      am_rt 1 x20 M1
    else
      am_rc g a0 12 <|
      am_ci (F 227 0 [.ref a0] [] M1) fun x22 M21 => /- Model_turnRead -/
      if x22 = 0 then
        am_gI g M21 a0 12 76 fun x24 =>
        am_rt 1 x24 M21
      else
        am_rc g a0 12 <|
        am_cv (F 134 0 [.ref a0] [] M21) fun M23 => /- Model_reads -/
        F 236 92 [.ref a0] [] M23
  else
    am_rc g a0 12 <|
    am_cv (F 134 0 [.ref a0] [] M1) fun M3 => /- Model_reads -/
    am_rc g a0 12 <|
    am_ci (F 188 0 [.ref a0] [] M3) fun x5 M4 => /- Model_leftRight -/
    if x5 = (-1) then
      am_gI g M4 a0 12 76 fun x18 =>
      am_rt 1 x18 M4
    else
      am_rc g a0 12 <|
      am_ci (F 188 0 [.ref a0] [] M4) fun x7 M6 => /- Model_leftRight -/
      if x7 = 0 then
        am_pZ g M6 a0 12 82 1 fun M13 =>
        am_rc g a0 12 <|
        am_cv (F 61 0 [.ref a0] [] M13) fun M14 => /- Model_skips -/
        am_gI g M14 a0 12 75 fun x15 =>
        am_gI g M14 a0 12 36 fun x16 =>
        if x16 ≤ x15 then
          am_rt 1 (-1) M14
        else
          am_gI g M14 a0 12 76 fun x17 =>
          am_rt 1 x17 M14
      else
        am_pZ g M6 a0 12 82 0 fun M8 =>
        am_rc g a0 12 <|
        am_cv (F 61 0 [.ref a0] [] M8) fun M9 => /- Model_skips -/
        am_gI g M9 a0 12 75 fun x10 =>
        am_gI g M9 a0 12 36 fun x11 =>
        if x11 ≤ x10 then
          am_rt 1 (-1) M9
        else
          am_gI g M9 a0 12 76 fun x12 =>
          am_rt 1 x12 M9) = some r) : F 236 92 [.ref a0] [] M = some r := am_inF hF t_Model_saidRead h
set_option maxRecDepth 20000 in
set_option maxHeartbeats 2000000 in
theorem e_Model_turn {g : am_G} {F : am_FT} (hF : F = am_F T0 g) {M : am_M} {a0 : Nat} {v1 : Int32} {v2 : Int32} {r : am_R} (h : (
  am_rc g a0 12 <|
  am_ci (F 117 0 [.ref a0, .int v1] [] M) fun x2 M1 => /- Model_isLeg -/
  if x2 = 0 then
    am_rt 1 (-1) M1
  else
    am_rc g a0 12 <|
    am_ci (F 117 0 [.ref a0, .int v2] [] M1) fun x4 M3 => /- Model_isLeg -/
    if x4 = 0 then
      am_rt 1 (-1) M3
    else
      am_rc g a0 12 <|
      am_ci (F 113 0 [.ref a0, .int v1, .int v2] [] M3) fun x6 M5 => /- Model_follows -/
      if x6 = 0 then
        am_rt 1 (-3) M5
      else
        am_rc g a0 12 <|
        am_ci (F 228 0 [.ref a0, .int v1, .int v2] [] M5) fun x8 M7 => /- Model_turned -/
        am_rt 1 x8 M7) = some r) : F 237 0 [.ref a0, .int v1, .int v2] [] M = some r := am_inF hF t_Model_turn h
theorem e_Model_whyNot {g : am_G} {F : am_FT} (hF : F = am_F T0 g) {M : am_M} {a0 : Nat} {v1 : Int32} {v2 : Int32} {v3 : Int32} {r : am_R} (h : (
  F 238 9 [.ref a0, .int v1, .int v2, .int v3, .int 0, .int (-1), .int 0] [] M) = some r) : F 238 0 [.ref a0, .int v1, .int v2, .int v3] [] M = some r := am_inF hF t_Model_whyNot h
set_option maxRecDepth 20000 in
set_option maxHeartbeats 2000000 in
theorem e_Model_whyNot_9 {g : am_G} {F : am_FT} (hF : F = am_F T0 g) {M : am_M} {a0 : Nat} {v1 : Int32} {v2 : Int32} {v3 : Int32} {v4 : Int32} {v5 : Int32} {v6 : Int32} {r : am_R} (h : (
  am_gI g M a0 12 4 fun x1 =>
  if (2 * x1) ≤ v6 then
    if v5 = (-1) then
      if v4 = 0 then
        am_rt 1 2 M
      else
        am_rt 1 3 M
    else
      am_gR g a0 12 83 fun q2 =>
      am_is g M q2 v1 v5 fun M3 =>
      am_gI g M3 a0 12 14 fun x4 =>
      am_gI g M3 a0 12 14 fun x5 =>
      am_rc g a0 12 <|
      am_ci (F 184 0 [.ref a0, .int v5, .int x4, .int v3, .int x5] [] M3) fun x7 M6 => /- Model_isDrivable -/
      if x7 = 0 then
        am_rt 1 4 M6
      else
        am_gI g M6 a0 12 14 fun x8 =>
        am_rc g a0 12 <|
        am_ci (F 54 0 [.ref a0, .int v2, .int v5, .int x8, .int v3] [] M6) fun x10 M9 => /- Model_isBanned -/
        if x10 = 0 then
          am_rt 1 0 M9
        else
          am_rt 1 5 M9
  else
    am_rc g a0 12 <|
    am_ci (F 113 0 [.ref a0, .int v2, .int v6] [] M) fun x12 M11 => /- Model_follows -/
    if x12 = 0 then
      F 238 9 [.ref a0, .int v1, .int v2, .int v3, .int v4, .int v5, .int (v6 + 1)] [] M11
    else
      am_dv 2 <|
      am_gR g a0 12 80 fun q13 =>
      am_la g M11 q13 (v1 - 1) fun l14 =>
      am_gI g M11 a0 12 14 fun x15 =>
      am_rc g a0 12 <|
      am_ci (F 40 0 [.ref a0, .int (v6 / 2), .long l14, .int x15] [] M11) fun x17 M16 => /- Model_answersTo -/
      if x17 = 0 then
        F 238 9 [.ref a0, .int v1, .int v2, .int v3, .int v4, .int v5, .int (v6 + 1)] [] M16
      else
        if v5 = (-1) then
          am_rc g a0 12 <|
          am_ci (F 228 0 [.ref a0, .int v2, .int v6] [] M16) fun x19 M18 => /- Model_turned -/
          am_gR g a0 12 79 fun q20 =>
          am_ia g M18 q20 (v1 - 1) fun x21 =>
          if x19 = x21 then
            F 238 9 [.ref a0, .int v1, .int v2, .int v3, .int 1, .int v6, .int (v6 + 1)] [] M18
          else
            F 238 9 [.ref a0, .int v1, .int v2, .int v3, .int 1, .int v5, .int (v6 + 1)] [] M18
        else
          F 238 9 [.ref a0, .int v1, .int v2, .int v3, .int 1, .int v5, .int (v6 + 1)] [] M16) = some r) : F 238 9 [.ref a0, .int v1, .int v2, .int v3, .int v4, .int v5, .int v6] [] M = some r := am_inF hF t_Model_whyNot h
theorem e_Model_isRight {g : am_G} {F : am_FT} (hF : F = am_F T0 g) {M : am_M} {a0 : Nat} {v1 : Int32} {v2 : Int32} {v3 : Int32} {r : am_R} (h : (
  am_gR g a0 12 55 fun q1 =>
  am_ia g M q1 (v3 + v1) fun x2 =>
  if (-1) ≤ x2 then
    F 250 21 [.ref a0, .int v1, .int v2, .int v3, .int x2, .int 0] [] M
  else
    am_rt 2 0 M) = some r) : F 250 0 [.ref a0, .int v1, .int v2, .int v3] [] M = some r := am_inF hF t_Model_isRight h
set_option maxRecDepth 20000 in
set_option maxHeartbeats 2000000 in
theorem e_Model_isRight_21 {g : am_G} {F : am_FT} (hF : F = am_F T0 g) {M : am_M} {a0 : Nat} {v1 : Int32} {v2 : Int32} {v3 : Int32} {v4 : Int32} {v5 : Int32} {r : am_R} (h : (
  am_gI g M a0 12 4 fun x1 =>
  if (2 * x1) ≤ v5 then
    am_rt 2 1 M
  else
    am_rc g a0 12 <|
    am_ci (F 234 0 [.ref a0, .int v1, .int v5] [] M) fun x3 M2 => /- Model_mayTurn -/
    if x3 = 0 then
      F 250 21 [.ref a0, .int v1, .int v2, .int v3, .int v4, .int (v5 + 1)] [] M2
    else
      am_dv 2 <|
      am_gR g a0 12 11 fun q4 =>
      am_ia g M2 q4 v2 fun x5 =>
      if (v5 / 2) = x5 then
        am_gR g a0 12 55 fun q16 =>
        am_ia g M2 q16 (v3 + v5) fun x17 =>
        if v4 = (-1) then
          if (1 : Int32) = 0 then
            if x17 < 0 then
              F 250 21 [.ref a0, .int v1, .int v2, .int v3, .int v4, .int (v5 + 1)] [] M2
            else
              am_rt 2 0 M2
          else
            am_rt 2 0 M2
        else
          if (1 : Int32) = 0 then
            if x17 < 0 then
              F 250 21 [.ref a0, .int v1, .int v2, .int v3, .int v4, .int (v5 + 1)] [] M2
            else
              am_dv 2 <|
              am_gI g M2 a0 12 58 fun x18 =>
              am_rc g a0 12 <|
              am_ci (F 130 0 [.ref a0, .int (v5 / 2), .int x18] [] M2) fun x20 M19 => /- Model_priceOf -/
              if (lg_cmp v4.toInt64 (x20.toInt64 + x17.toInt64)) ≤ 0 then
                F 250 21 [.ref a0, .int v1, .int v2, .int v3, .int v4, .int (v5 + 1)] [] M19
              else
                am_rt 2 0 M19
          else
            am_rc g a0 12 <|
            am_ci (F 63 0 [.ref a0, .int v2, .int v5] [] M2) fun x22 M21 => /- Model_toDoor -/
            if x22 < v4 then
              am_rt 2 0 M21
            else
              if x17 < 0 then
                F 250 21 [.ref a0, .int v1, .int v2, .int v3, .int v4, .int (v5 + 1)] [] M21
              else
                am_dv 2 <|
                am_gI g M21 a0 12 58 fun x23 =>
                am_rc g a0 12 <|
                am_ci (F 130 0 [.ref a0, .int (v5 / 2), .int x23] [] M21) fun x25 M24 => /- Model_priceOf -/
                if (lg_cmp v4.toInt64 (x25.toInt64 + x17.toInt64)) ≤ 0 then
                  F 250 21 [.ref a0, .int v1, .int v2, .int v3, .int v4, .int (v5 + 1)] [] M24
                else
                  am_rt 2 0 M24
      else
        am_gR g a0 12 55 fun q6 =>
        am_ia g M2 q6 (v3 + v5) fun x7 =>
        if v4 = (-1) then
          if (0 : Int32) = 0 then
            if x7 < 0 then
              F 250 21 [.ref a0, .int v1, .int v2, .int v3, .int v4, .int (v5 + 1)] [] M2
            else
              am_rt 2 0 M2
          else
            am_rt 2 0 M2
        else
          if (0 : Int32) = 0 then
            if x7 < 0 then
              F 250 21 [.ref a0, .int v1, .int v2, .int v3, .int v4, .int (v5 + 1)] [] M2
            else
              am_dv 2 <|
              am_gI g M2 a0 12 58 fun x8 =>
              am_rc g a0 12 <|
              am_ci (F 130 0 [.ref a0, .int (v5 / 2), .int x8] [] M2) fun x10 M9 => /- Model_priceOf -/
              if (lg_cmp v4.toInt64 (x10.toInt64 + x7.toInt64)) ≤ 0 then
                F 250 21 [.ref a0, .int v1, .int v2, .int v3, .int v4, .int (v5 + 1)] [] M9
              else
                am_rt 2 0 M9
          else
            am_rc g a0 12 <|
            am_ci (F 63 0 [.ref a0, .int v2, .int v5] [] M2) fun x12 M11 => /- Model_toDoor -/
            if x12 < v4 then
              am_rt 2 0 M11
            else
              if x7 < 0 then
                F 250 21 [.ref a0, .int v1, .int v2, .int v3, .int v4, .int (v5 + 1)] [] M11
              else
                am_dv 2 <|
                am_gI g M11 a0 12 58 fun x13 =>
                am_rc g a0 12 <|
                am_ci (F 130 0 [.ref a0, .int (v5 / 2), .int x13] [] M11) fun x15 M14 => /- Model_priceOf -/
                if (lg_cmp v4.toInt64 (x15.toInt64 + x7.toInt64)) ≤ 0 then
                  F 250 21 [.ref a0, .int v1, .int v2, .int v3, .int v4, .int (v5 + 1)] [] M14
                else
                  am_rt 2 0 M14) = some r) : F 250 21 [.ref a0, .int v1, .int v2, .int v3, .int v4, .int v5] [] M = some r := am_inF hF t_Model_isRight h
theorem e_Model_letsDown {g : am_G} {F : am_FT} (hF : F = am_F T0 g) {M : am_M} {a0 : Nat} {v1 : Int32} {r : am_R} (h : (
  am_gI g M a0 12 4 fun x1 =>
  F 251 9 [.ref a0, .int v1, .int (2 * x1), .int 0] [] M) = some r) : F 251 0 [.ref a0, .int v1] [] M = some r := am_inF hF t_Model_letsDown h
theorem e_Model_letsDown_9 {g : am_G} {F : am_FT} (hF : F = am_F T0 g) {M : am_M} {a0 : Nat} {v1 : Int32} {v2 : Int32} {v3 : Int32} {r : am_R} (h : (
  if v2 ≤ v3 then
    F 251 40 [.ref a0, .int v1, .int v2, .int 1] [] M
  else
    am_gR g a0 12 61 fun q1 =>
    am_ls g M q1 v3 1000000000000 fun M2 =>
    am_gR g a0 12 62 fun q3 =>
    am_ls g M2 q3 v3 1000000000000 fun M4 =>
    F 251 9 [.ref a0, .int v1, .int v2, .int (v3 + 1)] [] M4) = some r) : F 251 9 [.ref a0, .int v1, .int v2, .int v3] [] M = some r := am_inF hF t_Model_letsDown h
theorem e_Model_letsDown_40 {g : am_G} {F : am_FT} (hF : F = am_F T0 g) {M : am_M} {a0 : Nat} {v1 : Int32} {v2 : Int32} {v3 : Int32} {r : am_R} (h : (
  if v3 = 0 then
    some (none, M)
  else
    F 251 49 [.ref a0, .int v1, .int v2, .int 0, .int 0] [] M) = some r) : F 251 40 [.ref a0, .int v1, .int v2, .int v3] [] M = some r := am_inF hF t_Model_letsDown h
theorem e_Model_letsDown_49 {g : am_G} {F : am_FT} (hF : F = am_F T0 g) {M : am_M} {a0 : Nat} {v1 : Int32} {v2 : Int32} {v3 : Int32} {v4 : Int32} {r : am_R} (h : (
  if v2 ≤ v4 then
    F 251 40 [.ref a0, .int v1, .int v2, .int v3] [] M
  else
    F 251 58 [.ref a0, .int v1, .int v2, .int v3, .int v4, .int 0] [] M) = some r) : F 251 49 [.ref a0, .int v1, .int v2, .int v3, .int v4] [] M = some r := am_inF hF t_Model_letsDown h
set_option maxRecDepth 20000 in
set_option maxHeartbeats 2000000 in
theorem e_Model_letsDown_58 {g : am_G} {F : am_FT} (hF : F = am_F T0 g) {M : am_M} {a0 : Nat} {v1 : Int32} {v2 : Int32} {v3 : Int32} {v4 : Int32} {v5 : Int32} {r : am_R} (h : (
  if v2 ≤ v5 then
    F 251 49 [.ref a0, .int v1, .int v2, .int v3, .int (v4 + 1)] [] M
  else
    am_rc g a0 12 <|
    am_ci (F 234 0 [.ref a0, .int v4, .int v5] [] M) fun x2 M1 => /- Model_mayTurn -/
    if x2 = 0 then
      F 251 58 [.ref a0, .int v1, .int v2, .int v3, .int v4, .int (v5 + 1)] [] M1
    else
      am_dv 2 <|
      am_gR g a0 12 11 fun q3 =>
      am_ia g M1 q3 v1 fun x4 =>
      if (v5 / 2) = x4 then
        am_rc g a0 12 <|
        am_ci (F 63 0 [.ref a0, .int v1, .int v5] [] M1) fun x17 M16 => /- Model_toDoor -/
        am_rc g a0 12 <|
        am_ci (F 189 0 [.ref a0, .int v4, .long 0, .long x17.toInt64] [] M16) fun x19 M18 => /- Model_lets -/
        if x19 = 0 then
          if v3 = 0 then
            am_gR g a0 12 61 fun q31 =>
            am_la g M18 q31 v5 fun l32 =>
            if 0 ≤ (lg_cmp l32 1000000000000) then
              F 251 58 [.ref a0, .int v1, .int v2, .int 0, .int v4, .int (v5 + 1)] [] M18
            else
              am_gR g a0 12 61 fun q33 =>
              am_la g M18 q33 v5 fun l34 =>
              am_gR g a0 12 62 fun q35 =>
              am_la g M18 q35 v5 fun l36 =>
              am_dv 2 <|
              am_gI g M18 a0 12 58 fun x37 =>
              am_rc g a0 12 <|
              am_ci (F 130 0 [.ref a0, .int (v5 / 2), .int x37] [] M18) fun x39 M38 => /- Model_priceOf -/
              am_rc g a0 12 <|
              am_ci (F 189 0 [.ref a0, .int v4, .long l34, .long (l36 + x39.toInt64)] [] M38) fun x41 M40 => /- Model_lets -/
              if x41 = 0 then
                if (0 : Int32) = 0 then
                  F 251 58 [.ref a0, .int v1, .int v2, .int 0, .int v4, .int (v5 + 1)] [] M40
                else
                  F 251 58 [.ref a0, .int v1, .int v2, .int 1, .int v4, .int (v5 + 1)] [] M40
              else
                F 251 58 [.ref a0, .int v1, .int v2, .int 1, .int v4, .int (v5 + 1)] [] M40
          else
            am_gR g a0 12 61 fun q42 =>
            am_la g M18 q42 v5 fun l43 =>
            if 0 ≤ (lg_cmp l43 1000000000000) then
              F 251 58 [.ref a0, .int v1, .int v2, .int 1, .int v4, .int (v5 + 1)] [] M18
            else
              am_gR g a0 12 61 fun q44 =>
              am_la g M18 q44 v5 fun l45 =>
              am_gR g a0 12 62 fun q46 =>
              am_la g M18 q46 v5 fun l47 =>
              am_dv 2 <|
              am_gI g M18 a0 12 58 fun x48 =>
              am_rc g a0 12 <|
              am_ci (F 130 0 [.ref a0, .int (v5 / 2), .int x48] [] M18) fun x50 M49 => /- Model_priceOf -/
              am_rc g a0 12 <|
              am_ci (F 189 0 [.ref a0, .int v4, .long l45, .long (l47 + x50.toInt64)] [] M49) fun x52 M51 => /- Model_lets -/
              if x52 = 0 then
                if (1 : Int32) = 0 then
                  F 251 58 [.ref a0, .int v1, .int v2, .int 0, .int v4, .int (v5 + 1)] [] M51
                else
                  F 251 58 [.ref a0, .int v1, .int v2, .int 1, .int v4, .int (v5 + 1)] [] M51
              else
                F 251 58 [.ref a0, .int v1, .int v2, .int 1, .int v4, .int (v5 + 1)] [] M51
        else
          am_gR g a0 12 61 fun q20 =>
          am_la g M18 q20 v5 fun l21 =>
          if 0 ≤ (lg_cmp l21 1000000000000) then
            F 251 58 [.ref a0, .int v1, .int v2, .int 1, .int v4, .int (v5 + 1)] [] M18
          else
            am_gR g a0 12 61 fun q22 =>
            am_la g M18 q22 v5 fun l23 =>
            am_gR g a0 12 62 fun q24 =>
            am_la g M18 q24 v5 fun l25 =>
            am_dv 2 <|
            am_gI g M18 a0 12 58 fun x26 =>
            am_rc g a0 12 <|
            am_ci (F 130 0 [.ref a0, .int (v5 / 2), .int x26] [] M18) fun x28 M27 => /- Model_priceOf -/
            am_rc g a0 12 <|
            am_ci (F 189 0 [.ref a0, .int v4, .long l23, .long (l25 + x28.toInt64)] [] M27) fun x30 M29 => /- Model_lets -/
            if x30 = 0 then
              if (1 : Int32) = 0 then
                F 251 58 [.ref a0, .int v1, .int v2, .int 0, .int v4, .int (v5 + 1)] [] M29
              else
                F 251 58 [.ref a0, .int v1, .int v2, .int 1, .int v4, .int (v5 + 1)] [] M29
            else
              F 251 58 [.ref a0, .int v1, .int v2, .int 1, .int v4, .int (v5 + 1)] [] M29
      else
        am_gR g a0 12 61 fun q5 =>
        am_la g M1 q5 v5 fun l6 =>
        if 0 ≤ (lg_cmp l6 1000000000000) then
          F 251 58 [.ref a0, .int v1, .int v2, .int v3, .int v4, .int (v5 + 1)] [] M1
        else
          am_gR g a0 12 61 fun q7 =>
          am_la g M1 q7 v5 fun l8 =>
          am_gR g a0 12 62 fun q9 =>
          am_la g M1 q9 v5 fun l10 =>
          am_dv 2 <|
          am_gI g M1 a0 12 58 fun x11 =>
          am_rc g a0 12 <|
          am_ci (F 130 0 [.ref a0, .int (v5 / 2), .int x11] [] M1) fun x13 M12 => /- Model_priceOf -/
          am_rc g a0 12 <|
          am_ci (F 189 0 [.ref a0, .int v4, .long l8, .long (l10 + x13.toInt64)] [] M12) fun x15 M14 => /- Model_lets -/
          if x15 = 0 then
            if v3 = 0 then
              F 251 58 [.ref a0, .int v1, .int v2, .int 0, .int v4, .int (v5 + 1)] [] M14
            else
              F 251 58 [.ref a0, .int v1, .int v2, .int 1, .int v4, .int (v5 + 1)] [] M14
          else
            F 251 58 [.ref a0, .int v1, .int v2, .int 1, .int v4, .int (v5 + 1)] [] M14) = some r) : F 251 58 [.ref a0, .int v1, .int v2, .int v3, .int v4, .int v5] [] M = some r := am_inF hF t_Model_letsDown h
set_option maxRecDepth 20000 in
set_option maxHeartbeats 2000000 in
theorem e_Model_say {g : am_G} {F : am_FT} (hF : F = am_F T0 g) {M : am_M} {a0 : Nat} {v1 : Int32} {v2 : Int32} {v3 : Int32} {r : am_R} (h : (
  am_rc g a0 12 <|
  am_ci (F 115 0 [.ref a0, .int v1] [] M) fun x2 M1 => /- Model_isDoor -/
  if x2 = 0 then
    am_rt 1 (-1) M1
  else
    am_rc g a0 12 <|
    am_ci (F 115 0 [.ref a0, .int v2] [] M1) fun x4 M3 => /- Model_isDoor -/
    if x4 = 0 then
      am_rt 1 (-1) M3
    else
      if v1 = v2 then
        am_rt 1 (-2) M3
      else
        am_ci (F 116 0 [.int v3] [] M3) fun x6 M5 => /- Model_isHour -/
        if x6 = 0 then
          am_rt 1 (-2) M5
        else
          am_gI g M5 a0 12 37 fun x7 =>
          if x7 = 10 then
            am_rt 1 (-4) M5
          else
            am_rc g a0 12 <|
            am_ci (F 236 0 [.ref a0] [] M5) fun x9 M8 => /- Model_saidRead -/
            am_pI g M8 a0 12 36 0 fun M10 =>
            if x9 = (-1) then
              am_gR g a0 12 83 fun q11 =>
              am_gR g a0 12 11 fun q12 =>
              am_ia g M10 q12 v1 fun x13 =>
              am_gI g M10 a0 12 81 fun x14 =>
              if x14 = 0 then
                am_is g M10 q11 0 ((2 * x13) + 1) fun M15 =>
                am_gR g a0 12 83 fun q16 =>
                am_ia g M15 q16 0 fun x17 =>
                am_gI g M15 a0 12 14 fun x18 =>
                am_gI g M15 a0 12 14 fun x19 =>
                am_rc g a0 12 <|
                am_ci (F 184 0 [.ref a0, .int x17, .int x18, .int v3, .int x19] [] M15) fun x21 M20 => /- Model_isDrivable -/
                if x21 = 0 then
                  am_rt 1 (-1001) M20
                else
                  F 252 124 [.ref a0, .int v1, .int v2, .int v3, .int 1] [] M20
              else
                am_is g M10 q11 0 ((2 * x13) + 0) fun M22 =>
                am_gR g a0 12 83 fun q23 =>
                am_ia g M22 q23 0 fun x24 =>
                am_gI g M22 a0 12 14 fun x25 =>
                am_gI g M22 a0 12 14 fun x26 =>
                am_rc g a0 12 <|
                am_ci (F 184 0 [.ref a0, .int x24, .int x25, .int v3, .int x26] [] M22) fun x28 M27 => /- Model_isDrivable -/
                if x28 = 0 then
                  am_rt 1 (-1001) M27
                else
                  F 252 124 [.ref a0, .int v1, .int v2, .int v3, .int 1] [] M27
            else
              am_rt 1 ((-100) - x9) M10) = some r) : F 252 0 [.ref a0, .int v1, .int v2, .int v3] [] M = some r := am_inF hF t_Model_say h
set_option maxRecDepth 20000 in
set_option maxHeartbeats 2000000 in
theorem e_Model_say_124 {g : am_G} {F : am_FT} (hF : F = am_F T0 g) {M : am_M} {a0 : Nat} {v1 : Int32} {v2 : Int32} {v3 : Int32} {v5 : Int32} {r : am_R} (h : (
  am_gI g M a0 12 78 fun x1 =>
  if x1 < v5 then
    am_rc g a0 12 <|
    am_ci (F 142 0 [.ref a0, .int v1, .int v2] [] M) fun x3 M2 => /- Model_whyLast -/
    if x3 = 0 then
      am_rc g a0 12 <|
      am_cv (F 186 0 [.ref a0, .int v1, .int v2, .int v3] [] M2) fun M4 => /- Model_keepsSaid -/
      am_gI g M4 a0 12 37 fun x5 =>
      am_rt 1 (x5 - 1) M4
    else
      am_gI g M2 a0 12 78 fun x6 =>
      am_rt 1 (((-1000) - (10 * x6)) - x3) M2
  else
    am_gR g a0 12 83 fun q7 =>
    am_ia g M q7 (v5 - 1) fun x8 =>
    am_rc g a0 12 <|
    am_ci (F 238 0 [.ref a0, .int v5, .int x8, .int v3] [] M) fun x10 M9 => /- Model_whyNot -/
    if x10 = 0 then
      F 252 124 [.ref a0, .int v1, .int v2, .int v3, .int (v5 + 1)] [] M9
    else
      am_rt 1 (((-1000) - (10 * v5)) - x10) M9) = some r) : F 252 124 [.ref a0, .int v1, .int v2, .int v3, .int v5] [] M = some r := am_inF hF t_Model_say h
set_option maxRecDepth 20000 in
set_option maxHeartbeats 2000000 in
theorem e_Model_bound {g : am_G} {F : am_FT} (hF : F = am_F T0 g) {M : am_M} {a0 : Nat} {v1 : Int32} {v2 : Int32} {v3 : Int32} {v4 : Int32} {r : am_R} (h : (
  am_rc g a0 12 <|
  am_ci (F 115 0 [.ref a0, .int v1] [] M) fun x2 M1 => /- Model_isDoor -/
  if x2 = 0 then
    am_rt 1 (-1) M1
  else
    am_rc g a0 12 <|
    am_ci (F 115 0 [.ref a0, .int v2] [] M1) fun x4 M3 => /- Model_isDoor -/
    if x4 = 0 then
      am_rt 1 (-1) M3
    else
      if v1 = v2 then
        am_rt 1 (-2) M3
      else
        am_ci (F 116 0 [.int v3] [] M3) fun x6 M5 => /- Model_isHour -/
        if x6 = 0 then
          am_rt 1 (-2) M5
        else
          am_ci (F 53 0 [.int v4, .int 0, .int 3] [] M5) fun x8 M7 => /- Model_in -/
          if x8 = 0 then
            am_rt 1 (-2) M7
          else
            am_gR g a0 12 53 fun q9 =>
            am_ia g M7 q9 v4 fun x10 =>
            if x10 = (-1) then
              am_rt 1 (-11) M7
            else
              am_gR g a0 12 53 fun q11 =>
              am_ia g M7 q11 v4 fun x12 =>
              if x12 = 2 then
                am_gR g a0 12 54 fun q13 =>
                am_ia g M7 q13 v4 fun x14 =>
                am_gI g M7 a0 12 4 fun x15 =>
                if x14 = (2 * x15) then
                  am_gI g M7 a0 12 14 fun x16 =>
                  am_gI g M7 a0 12 14 fun x17 =>
                  am_rc g a0 12 <|
                  am_cv (F 43 0 [.ref a0, .int x16, .int v3, .int x17, .int 1] [] M7) fun M18 => /- Model_asReal -/
                  F 258 107 [.ref a0, .int v1, .int v2, .int v4, .int 0] [] M18
                else
                  am_rt 1 (-12) M7
              else
                am_rt 1 (-13) M7) = some r) : F 258 0 [.ref a0, .int v1, .int v2, .int v3, .int v4] [] M = some r := am_inF hF t_Model_bound h
theorem e_Model_bound_107 {g : am_G} {F : am_FT} (hF : F = am_F T0 g) {M : am_M} {a0 : Nat} {v1 : Int32} {v2 : Int32} {v4 : Int32} {v5 : Int32} {r : am_R} (h : (
  am_gI g M a0 12 4 fun x1 =>
  if (2 * x1) ≤ v5 then
    am_gR g a0 12 11 fun q2 =>
    am_ia g M q2 v1 fun x3 =>
    F 258 160 [.ref a0, .int v1, .int v2, .int v4, .long 1000000000000, .int (2 * x3)] [] M
  else
    am_rc g a0 12 <|
    am_ci (F 250 0 [.ref a0, .int v5, .int v2, .int (100 * v4)] [] M) fun x5 M4 => /- Model_isRight -/
    if x5 = 0 then
      am_rt 1 ((-100) - v5) M4
    else
      F 258 107 [.ref a0, .int v1, .int v2, .int v4, .int (v5 + 1)] [] M4) = some r) : F 258 107 [.ref a0, .int v1, .int v2, .int v4, .int v5] [] M = some r := am_inF hF t_Model_bound h
set_option maxRecDepth 20000 in
set_option maxHeartbeats 2000000 in
theorem e_Model_bound_160 {g : am_G} {F : am_FT} (hF : F = am_F T0 g) {M : am_M} {a0 : Nat} {v1 : Int32} {v2 : Int32} {v4 : Int32} {w5 : Int64} {v7 : Int32} {r : am_R} (h : (
  am_gR g a0 12 11 fun q1 =>
  am_ia g M q1 v1 fun x2 =>
  if ((2 * x2) + 1) < v7 then
    if (lg_cmp w5 1000000000000) = 0 then
      am_rt 1 (-1) M
    else
      if (lg_cmp w5 2147483647) ≤ 0 then
        am_rt 1 w5.toInt32 M
      else
        am_rt 1 2147483647 M
  else
    am_rc g a0 12 <|
    am_ci (F 225 0 [.ref a0, .int v7] [] M) fun x4 M3 => /- Model_mayGo -/
    if x4 = 0 then
      F 258 160 [.ref a0, .int v1, .int v2, .int v4, .long w5, .int (v7 + 1)] [] M3
    else
      am_gR g a0 12 55 fun q5 =>
      am_ia g M3 q5 ((100 * v4) + v7) fun x6 =>
      am_rc g a0 12 <|
      am_ci (F 45 0 [.ref a0, .int v1, .int v2, .int v7] [] M3) fun x8 M7 => /- Model_between -/
      if x6 < 0 then
        if x8 < 0 then
          F 258 160 [.ref a0, .int v1, .int v2, .int v4, .long w5, .int (v7 + 1)] [] M7
        else
          if 0 ≤ (lg_cmp x8.toInt64 w5) then
            F 258 160 [.ref a0, .int v1, .int v2, .int v4, .long w5, .int (v7 + 1)] [] M7
          else
            F 258 160 [.ref a0, .int v1, .int v2, .int v4, .long x8.toInt64, .int (v7 + 1)] [] M7
      else
        am_rc g a0 12 <|
        am_ci (F 51 0 [.ref a0, .int v1, .int v7] [] M7) fun x10 M9 => /- Model_fromDoor -/
        if 0 ≤ (lg_cmp (x10.toInt64 + x6.toInt64) w5) then
          if x8 < 0 then
            F 258 160 [.ref a0, .int v1, .int v2, .int v4, .long w5, .int (v7 + 1)] [] M9
          else
            if 0 ≤ (lg_cmp x8.toInt64 w5) then
              F 258 160 [.ref a0, .int v1, .int v2, .int v4, .long w5, .int (v7 + 1)] [] M9
            else
              F 258 160 [.ref a0, .int v1, .int v2, .int v4, .long x8.toInt64, .int (v7 + 1)] [] M9
        else
          am_rc g a0 12 <|
          am_ci (F 51 0 [.ref a0, .int v1, .int v7] [] M9) fun x12 M11 => /- Model_fromDoor -/
          if x8 < 0 then
            F 258 160 [.ref a0, .int v1, .int v2, .int v4, .long (x12.toInt64 + x6.toInt64), .int (v7 + 1)] [] M11
          else
            if 0 ≤ (lg_cmp x8.toInt64 (x12.toInt64 + x6.toInt64)) then
              F 258 160 [.ref a0, .int v1, .int v2, .int v4, .long (x12.toInt64 + x6.toInt64), .int (v7 + 1)] [] M11
            else
              F 258 160 [.ref a0, .int v1, .int v2, .int v4, .long x8.toInt64, .int (v7 + 1)] [] M11) = some r) : F 258 160 [.ref a0, .int v1, .int v2, .int v4, .long w5, .int v7] [] M = some r := am_inF hF t_Model_bound h
set_option maxRecDepth 20000 in
set_option maxHeartbeats 2000000 in
theorem e_Model_prove {g : am_G} {F : am_FT} (hF : F = am_F T0 g) {M : am_M} {a0 : Nat} {v1 : Int32} {v2 : Int32} {v3 : Int32} {r : am_R} (h : (
  am_rc g a0 12 <|
  am_ci (F 115 0 [.ref a0, .int v1] [] M) fun x2 M1 => /- Model_isDoor -/
  if x2 = 0 then
    am_rt 1 (-1) M1
  else
    am_rc g a0 12 <|
    am_ci (F 115 0 [.ref a0, .int v2] [] M1) fun x4 M3 => /- Model_isDoor -/
    if x4 = 0 then
      am_rt 1 (-1) M3
    else
      if v1 = v2 then
        am_rt 1 (-2) M3
      else
        am_ci (F 116 0 [.int v3] [] M3) fun x6 M5 => /- Model_isHour -/
        if x6 = 0 then
          am_rt 1 (-2) M5
        else
          am_gI g M5 a0 12 14 fun x7 =>
          am_gI g M5 a0 12 14 fun x8 =>
          am_rc g a0 12 <|
          am_cv (F 43 0 [.ref a0, .int x7, .int v3, .int x8, .int 1] [] M5) fun M9 => /- Model_asReal -/
          am_pI g M9 a0 12 67 0 fun M10 =>
          am_pI g M10 a0 12 68 0 fun M11 =>
          am_pI g M11 a0 12 69 0 fun M12 =>
          am_pI g M12 a0 12 70 0 fun M13 =>
          am_rc g a0 12 <|
          am_cv (F 251 0 [.ref a0, .int v2] [] M13) fun M14 => /- Model_letsDown -/
          am_gR g a0 12 53 fun q15 =>
          am_is g M14 q15 0 2 fun M16 =>
          am_gR g a0 12 54 fun q17 =>
          am_gI g M16 a0 12 4 fun x18 =>
          am_is g M16 q17 0 (2 * x18) fun M19 =>
          F 259 94 [.ref a0, .int 0] [] M19) = some r) : F 259 0 [.ref a0, .int v1, .int v2, .int v3] [] M = some r := am_inF hF t_Model_prove h
set_option maxRecDepth 20000 in
set_option maxHeartbeats 2000000 in
theorem e_Model_prove_94 {g : am_G} {F : am_FT} (hF : F = am_F T0 g) {M : am_M} {a0 : Nat} {v4 : Int32} {r : am_R} (h : (
  if 100 ≤ v4 then
    am_gI g M a0 12 4 fun x1 =>
    am_rt 1 (2 * x1) M
  else
    am_gR g a0 12 55 fun q2 =>
    am_gI g M a0 12 4 fun x3 =>
    if (2 * x3) ≤ v4 then
      am_is g M q2 v4 0 fun M4 =>
      F 259 94 [.ref a0, .int (v4 + 1)] [] M4
    else
      am_gR g a0 12 61 fun q5 =>
      am_la g M q5 v4 fun l6 =>
      if 0 ≤ (lg_cmp l6 1000000000000) then
        am_is g M q2 v4 (-1) fun M7 =>
        F 259 94 [.ref a0, .int (v4 + 1)] [] M7
      else
        am_gR g a0 12 62 fun q8 =>
        am_la g M q8 v4 fun l9 =>
        am_is g M q2 v4 l9.toInt32 fun M10 =>
        F 259 94 [.ref a0, .int (v4 + 1)] [] M10) = some r) : F 259 94 [.ref a0, .int v4] [] M = some r := am_inF hF t_Model_prove h
set_option maxRecDepth 20000 in
set_option maxHeartbeats 2000000 in
theorem e_Model_search {g : am_G} {F : am_FT} (hF : F = am_F T0 g) {M : am_M} {a0 : Nat} {v1 : Int32} {v2 : Int32} {r : am_R} (h : (
  am_gR g a0 12 1 fun q1 =>
  am_gR g a0 12 6 fun q2 =>
  am_gR g a0 12 11 fun q3 =>
  am_ia g M q3 v1 fun x4 =>
  am_ia g M q2 x4 fun x5 =>
  am_ia g M q1 x5 fun x6 =>
  am_pI g M a0 12 67 x6 fun M7 =>
  am_gR g a0 12 2 fun q8 =>
  am_gR g a0 12 6 fun q9 =>
  am_gR g a0 12 11 fun q10 =>
  am_ia g M7 q10 v1 fun x11 =>
  am_ia g M7 q9 x11 fun x12 =>
  am_ia g M7 q8 x12 fun x13 =>
  am_pI g M7 a0 12 68 x13 fun M14 =>
  am_gR g a0 12 1 fun q15 =>
  am_gR g a0 12 6 fun q16 =>
  am_gR g a0 12 11 fun q17 =>
  am_ia g M14 q17 v2 fun x18 =>
  am_ia g M14 q16 x18 fun x19 =>
  am_ia g M14 q15 x19 fun x20 =>
  am_pI g M14 a0 12 69 x20 fun M21 =>
  am_gR g a0 12 2 fun q22 =>
  am_gR g a0 12 6 fun q23 =>
  am_gR g a0 12 11 fun q24 =>
  am_ia g M21 q24 v2 fun x25 =>
  am_ia g M21 q23 x25 fun x26 =>
  am_ia g M21 q22 x26 fun x27 =>
  am_pI g M21 a0 12 70 x27 fun M28 =>
  am_rc g a0 12 <|
  am_cv (F 251 0 [.ref a0, .int v2] [] M28) fun M29 => /- Model_letsDown -/
  am_pI g M29 a0 12 64 0 fun M30 =>
  am_pJ g M30 a0 12 65 (-1) fun M31 =>
  am_pJ g M31 a0 12 66 (-1) fun M32 =>
  am_gR g a0 12 11 fun q33 =>
  am_ia g M32 q33 v1 fun x34 =>
  F 260 129 [.ref a0, .int v1, .int v2, .long 1000000000000, .long 1000000000000, .int (-1), .int 0, .int (2 * x34)] [] M32) = some r) : F 260 0 [.ref a0, .int v1, .int v2] [] M = some r := am_inF hF t_Model_search h
set_option maxRecDepth 20000 in
set_option maxHeartbeats 2000000 in
theorem e_Model_search_129 {g : am_G} {F : am_FT} (hF : F = am_F T0 g) {M : am_M} {a0 : Nat} {v1 : Int32} {v2 : Int32} {w3 : Int64} {w5 : Int64} {v7 : Int32} {v8 : Int32} {v9 : Int32} {r : am_R} (h : (
  am_gR g a0 12 11 fun q1 =>
  am_ia g M q1 v1 fun x2 =>
  if ((2 * x2) + 1) < v9 then
    if v7 = (-1) then
      some (none, M)
    else
      am_pJ g M a0 12 65 w3 fun M3 =>
      am_pJ g M3 a0 12 66 w5 fun M4 =>
      am_gR g a0 12 63 fun q5 =>
      am_is g M4 q5 0 v7 fun M6 =>
      am_pI g M6 a0 12 64 1 fun M7 =>
      F 260 313 [.ref a0, .int v2, .int v8] [] M7
  else
    am_rc g a0 12 <|
    am_ci (F 225 0 [.ref a0, .int v9] [] M) fun x9 M8 => /- Model_mayGo -/
    if x9 = 0 then
      F 260 129 [.ref a0, .int v1, .int v2, .long w3, .long w5, .int v7, .int v8, .int (v9 + 1)] [] M8
    else
      am_rc g a0 12 <|
      am_ci (F 45 0 [.ref a0, .int v1, .int v2, .int v9] [] M8) fun x11 M10 => /- Model_between -/
      if x11 < 0 then
        am_gR g a0 12 61 fun q12 =>
        am_la g M10 q12 v9 fun l13 =>
        if 0 ≤ (lg_cmp l13 1000000000000) then
          F 260 129 [.ref a0, .int v1, .int v2, .long w3, .long w5, .int v7, .int v8, .int (v9 + 1)] [] M10
        else
          am_gR g a0 12 61 fun q14 =>
          am_la g M10 q14 v9 fun l15 =>
          am_rc g a0 12 <|
          am_ci (F 51 0 [.ref a0, .int v1, .int v9] [] M10) fun x17 M16 => /- Model_fromDoor -/
          am_gR g a0 12 62 fun q18 =>
          am_la g M16 q18 v9 fun l19 =>
          am_rc g a0 12 <|
          am_ci (F 56 0 [.ref a0, .long l15, .long (x17.toInt64 + l19), .long w3, .long w5] [] M16) fun x21 M20 => /- Model_isLess -/
          if x21 = 0 then
            F 260 129 [.ref a0, .int v1, .int v2, .long w3, .long w5, .int v7, .int v8, .int (v9 + 1)] [] M20
          else
            am_gR g a0 12 61 fun q22 =>
            am_la g M20 q22 v9 fun l23 =>
            am_rc g a0 12 <|
            am_ci (F 51 0 [.ref a0, .int v1, .int v9] [] M20) fun x25 M24 => /- Model_fromDoor -/
            am_gR g a0 12 62 fun q26 =>
            am_la g M24 q26 v9 fun l27 =>
            F 260 129 [.ref a0, .int v1, .int v2, .long l23, .long (x25.toInt64 + l27), .int v9, .int 0, .int (v9 + 1)] [] M24
      else
        am_rc g a0 12 <|
        am_ci (F 56 0 [.ref a0, .long 0, .long x11.toInt64, .long w3, .long w5] [] M10) fun x29 M28 => /- Model_isLess -/
        if x29 = 0 then
          am_gR g a0 12 61 fun q30 =>
          am_la g M28 q30 v9 fun l31 =>
          if 0 ≤ (lg_cmp l31 1000000000000) then
            F 260 129 [.ref a0, .int v1, .int v2, .long w3, .long w5, .int v7, .int v8, .int (v9 + 1)] [] M28
          else
            am_gR g a0 12 61 fun q32 =>
            am_la g M28 q32 v9 fun l33 =>
            am_rc g a0 12 <|
            am_ci (F 51 0 [.ref a0, .int v1, .int v9] [] M28) fun x35 M34 => /- Model_fromDoor -/
            am_gR g a0 12 62 fun q36 =>
            am_la g M34 q36 v9 fun l37 =>
            am_rc g a0 12 <|
            am_ci (F 56 0 [.ref a0, .long l33, .long (x35.toInt64 + l37), .long w3, .long w5] [] M34) fun x39 M38 => /- Model_isLess -/
            if x39 = 0 then
              F 260 129 [.ref a0, .int v1, .int v2, .long w3, .long w5, .int v7, .int v8, .int (v9 + 1)] [] M38
            else
              am_gR g a0 12 61 fun q40 =>
              am_la g M38 q40 v9 fun l41 =>
              am_rc g a0 12 <|
              am_ci (F 51 0 [.ref a0, .int v1, .int v9] [] M38) fun x43 M42 => /- Model_fromDoor -/
              am_gR g a0 12 62 fun q44 =>
              am_la g M42 q44 v9 fun l45 =>
              F 260 129 [.ref a0, .int v1, .int v2, .long l41, .long (x43.toInt64 + l45), .int v9, .int 0, .int (v9 + 1)] [] M42
        else
          am_gR g a0 12 61 fun q46 =>
          am_la g M28 q46 v9 fun l47 =>
          if 0 ≤ (lg_cmp l47 1000000000000) then
            F 260 129 [.ref a0, .int v1, .int v2, .long 0, .long x11.toInt64, .int v9, .int 1, .int (v9 + 1)] [] M28
          else
            am_gR g a0 12 61 fun q48 =>
            am_la g M28 q48 v9 fun l49 =>
            am_rc g a0 12 <|
            am_ci (F 51 0 [.ref a0, .int v1, .int v9] [] M28) fun x51 M50 => /- Model_fromDoor -/
            am_gR g a0 12 62 fun q52 =>
            am_la g M50 q52 v9 fun l53 =>
            am_rc g a0 12 <|
            am_ci (F 56 0 [.ref a0, .long l49, .long (x51.toInt64 + l53), .long 0, .long x11.toInt64] [] M50) fun x55 M54 => /- Model_isLess -/
            if x55 = 0 then
              F 260 129 [.ref a0, .int v1, .int v2, .long 0, .long x11.toInt64, .int v9, .int 1, .int (v9 + 1)] [] M54
            else
              am_gR g a0 12 61 fun q56 =>
              am_la g M54 q56 v9 fun l57 =>
              am_rc g a0 12 <|
              am_ci (F 51 0 [.ref a0, .int v1, .int v9] [] M54) fun x59 M58 => /- Model_fromDoor -/
              am_gR g a0 12 62 fun q60 =>
              am_la g M58 q60 v9 fun l61 =>
              F 260 129 [.ref a0, .int v1, .int v2, .long l57, .long (x59.toInt64 + l61), .int v9, .int 0, .int (v9 + 1)] [] M58) = some r) : F 260 129 [.ref a0, .int v1, .int v2, .long w3, .long w5, .int v7, .int v8, .int v9] [] M = some r := am_inF hF t_Model_search h
theorem e_Model_search_313 {g : am_G} {F : am_FT} (hF : F = am_F T0 g) {M : am_M} {a0 : Nat} {v2 : Int32} {v8 : Int32} {r : am_R} (h : (
  if v8 = 0 then
    am_gR g a0 12 63 fun q1 =>
    am_gI g M a0 12 64 fun x2 =>
    am_ia g M q1 (x2 - 1) fun x3 =>
    F 260 337 [.ref a0, .int v2, .int v8, .int x3, .int 0, .int 0] [] M
  else
    some (none, M)) = some r) : F 260 313 [.ref a0, .int v2, .int v8] [] M = some r := am_inF hF t_Model_search h
set_option maxRecDepth 20000 in
set_option maxHeartbeats 2000000 in
theorem e_Model_search_337 {g : am_G} {F : am_FT} (hF : F = am_F T0 g) {M : am_M} {a0 : Nat} {v2 : Int32} {v8 : Int32} {v9 : Int32} {v10 : Int32} {v11 : Int32} {r : am_R} (h : (
  if v11 = 0 then
    if v8 = 0 then
      am_rc g a0 12 <|
      am_ci (F 234 0 [.ref a0, .int v9, .int v10] [] M) fun x12 M11 => /- Model_mayTurn -/
      if x12 = 0 then
        F 260 337 [.ref a0, .int v2, .int v8, .int v9, .int (v10 + 1), .int v11] [] M11
      else
        am_dv 2 <|
        am_gR g a0 12 11 fun q13 =>
        am_ia g M11 q13 v2 fun x14 =>
        if (v10 / 2) = x14 then
          am_rc g a0 12 <|
          am_cj (F 127 0 [.ref a0, .int v9] [] M11) fun l31 M30 => /- Model_off -/
          am_gR g a0 12 61 fun q32 =>
          am_la g M30 q32 v9 fun l33 =>
          if (lg_cmp l31 l33) = 0 then
            am_rc g a0 12 <|
            am_ci (F 63 0 [.ref a0, .int v2, .int v10] [] M30) fun x50 M49 => /- Model_toDoor -/
            am_gR g a0 12 62 fun q51 =>
            am_la g M49 q51 v9 fun l52 =>
            if (lg_cmp x50.toInt64 l52) = 0 then
              am_gR g a0 12 61 fun q68 =>
              am_la g M49 q68 v10 fun l69 =>
              if 0 ≤ (lg_cmp l69 1000000000000) then
                F 260 337 [.ref a0, .int v2, .int 1, .int v9, .int (v10 + 1), .int 0] [] M49
              else
                am_gR g a0 12 61 fun q70 =>
                am_la g M49 q70 v10 fun l71 =>
                am_rc g a0 12 <|
                am_cj (F 127 0 [.ref a0, .int v9] [] M49) fun l73 M72 => /- Model_off -/
                am_gR g a0 12 61 fun q74 =>
                am_la g M72 q74 v9 fun l75 =>
                if (lg_cmp (l71 + l73) l75) = 0 then
                  am_gR g a0 12 62 fun q76 =>
                  am_la g M72 q76 v10 fun l77 =>
                  am_dv 2 <|
                  am_gI g M72 a0 12 58 fun x78 =>
                  am_rc g a0 12 <|
                  am_ci (F 130 0 [.ref a0, .int (v10 / 2), .int x78] [] M72) fun x80 M79 => /- Model_priceOf -/
                  am_gR g a0 12 62 fun q81 =>
                  am_la g M79 q81 v9 fun l82 =>
                  if (lg_cmp (l77 + x80.toInt64) l82) = 0 then
                    F 260 337 [.ref a0, .int v2, .int 1, .int v9, .int (v10 + 1), .int 1] [] M79
                  else
                    F 260 337 [.ref a0, .int v2, .int 1, .int v9, .int (v10 + 1), .int 0] [] M79
                else
                  F 260 337 [.ref a0, .int v2, .int 1, .int v9, .int (v10 + 1), .int 0] [] M72
            else
              am_gR g a0 12 61 fun q53 =>
              am_la g M49 q53 v10 fun l54 =>
              if 0 ≤ (lg_cmp l54 1000000000000) then
                F 260 337 [.ref a0, .int v2, .int 0, .int v9, .int (v10 + 1), .int 0] [] M49
              else
                am_gR g a0 12 61 fun q55 =>
                am_la g M49 q55 v10 fun l56 =>
                am_rc g a0 12 <|
                am_cj (F 127 0 [.ref a0, .int v9] [] M49) fun l58 M57 => /- Model_off -/
                am_gR g a0 12 61 fun q59 =>
                am_la g M57 q59 v9 fun l60 =>
                if (lg_cmp (l56 + l58) l60) = 0 then
                  am_gR g a0 12 62 fun q61 =>
                  am_la g M57 q61 v10 fun l62 =>
                  am_dv 2 <|
                  am_gI g M57 a0 12 58 fun x63 =>
                  am_rc g a0 12 <|
                  am_ci (F 130 0 [.ref a0, .int (v10 / 2), .int x63] [] M57) fun x65 M64 => /- Model_priceOf -/
                  am_gR g a0 12 62 fun q66 =>
                  am_la g M64 q66 v9 fun l67 =>
                  if (lg_cmp (l62 + x65.toInt64) l67) = 0 then
                    F 260 337 [.ref a0, .int v2, .int 0, .int v9, .int (v10 + 1), .int 1] [] M64
                  else
                    F 260 337 [.ref a0, .int v2, .int 0, .int v9, .int (v10 + 1), .int 0] [] M64
                else
                  F 260 337 [.ref a0, .int v2, .int 0, .int v9, .int (v10 + 1), .int 0] [] M57
          else
            am_gR g a0 12 61 fun q34 =>
            am_la g M30 q34 v10 fun l35 =>
            if 0 ≤ (lg_cmp l35 1000000000000) then
              F 260 337 [.ref a0, .int v2, .int 0, .int v9, .int (v10 + 1), .int 0] [] M30
            else
              am_gR g a0 12 61 fun q36 =>
              am_la g M30 q36 v10 fun l37 =>
              am_rc g a0 12 <|
              am_cj (F 127 0 [.ref a0, .int v9] [] M30) fun l39 M38 => /- Model_off -/
              am_gR g a0 12 61 fun q40 =>
              am_la g M38 q40 v9 fun l41 =>
              if (lg_cmp (l37 + l39) l41) = 0 then
                am_gR g a0 12 62 fun q42 =>
                am_la g M38 q42 v10 fun l43 =>
                am_dv 2 <|
                am_gI g M38 a0 12 58 fun x44 =>
                am_rc g a0 12 <|
                am_ci (F 130 0 [.ref a0, .int (v10 / 2), .int x44] [] M38) fun x46 M45 => /- Model_priceOf -/
                am_gR g a0 12 62 fun q47 =>
                am_la g M45 q47 v9 fun l48 =>
                if (lg_cmp (l43 + x46.toInt64) l48) = 0 then
                  F 260 337 [.ref a0, .int v2, .int 0, .int v9, .int (v10 + 1), .int 1] [] M45
                else
                  F 260 337 [.ref a0, .int v2, .int 0, .int v9, .int (v10 + 1), .int 0] [] M45
              else
                F 260 337 [.ref a0, .int v2, .int 0, .int v9, .int (v10 + 1), .int 0] [] M38
        else
          am_gR g a0 12 61 fun q15 =>
          am_la g M11 q15 v10 fun l16 =>
          if 0 ≤ (lg_cmp l16 1000000000000) then
            F 260 337 [.ref a0, .int v2, .int 0, .int v9, .int (v10 + 1), .int 0] [] M11
          else
            am_gR g a0 12 61 fun q17 =>
            am_la g M11 q17 v10 fun l18 =>
            am_rc g a0 12 <|
            am_cj (F 127 0 [.ref a0, .int v9] [] M11) fun l20 M19 => /- Model_off -/
            am_gR g a0 12 61 fun q21 =>
            am_la g M19 q21 v9 fun l22 =>
            if (lg_cmp (l18 + l20) l22) = 0 then
              am_gR g a0 12 62 fun q23 =>
              am_la g M19 q23 v10 fun l24 =>
              am_dv 2 <|
              am_gI g M19 a0 12 58 fun x25 =>
              am_rc g a0 12 <|
              am_ci (F 130 0 [.ref a0, .int (v10 / 2), .int x25] [] M19) fun x27 M26 => /- Model_priceOf -/
              am_gR g a0 12 62 fun q28 =>
              am_la g M26 q28 v9 fun l29 =>
              if (lg_cmp (l24 + x27.toInt64) l29) = 0 then
                F 260 337 [.ref a0, .int v2, .int 0, .int v9, .int (v10 + 1), .int 1] [] M26
              else
                F 260 337 [.ref a0, .int v2, .int 0, .int v9, .int (v10 + 1), .int 0] [] M26
            else
              F 260 337 [.ref a0, .int v2, .int 0, .int v9, .int (v10 + 1), .int 0] [] M19
    else
      am_gR g a0 12 63 fun q6 =>
      am_gI g M a0 12 64 fun x7 =>
      am_is g M q6 x7 (v10 - 1) fun M8 =>
      am_gI g M8 a0 12 64 fun x9 =>
      am_pI g M8 a0 12 64 (x9 + 1) fun M10 =>
      F 260 313 [.ref a0, .int v2, .int v8] [] M10
  else
    am_gR g a0 12 63 fun q1 =>
    am_gI g M a0 12 64 fun x2 =>
    am_is g M q1 x2 (v10 - 1) fun M3 =>
    am_gI g M3 a0 12 64 fun x4 =>
    am_pI g M3 a0 12 64 (x4 + 1) fun M5 =>
    F 260 313 [.ref a0, .int v2, .int v8] [] M5) = some r) : F 260 337 [.ref a0, .int v2, .int v8, .int v9, .int v10, .int v11] [] M = some r := am_inF hF t_Model_search h
set_option maxRecDepth 20000 in
set_option maxHeartbeats 2000000 in
theorem e_Model_best {g : am_G} {F : am_FT} (hF : F = am_F T0 g) {M : am_M} {a0 : Nat} {v1 : Int32} {v2 : Int32} {v3 : Int32} {v4 : Int32} {r : am_R} (h : (
  am_rc g a0 12 <|
  am_ci (F 115 0 [.ref a0, .int v1] [] M) fun x2 M1 => /- Model_isDoor -/
  if x2 = 0 then
    am_rt 1 (-1) M1
  else
    am_rc g a0 12 <|
    am_ci (F 115 0 [.ref a0, .int v2] [] M1) fun x4 M3 => /- Model_isDoor -/
    if x4 = 0 then
      am_rt 1 (-1) M3
    else
      if v1 = v2 then
        am_rt 1 (-2) M3
      else
        am_ci (F 116 0 [.int v3] [] M3) fun x6 M5 => /- Model_isHour -/
        if x6 = 0 then
          am_rt 1 (-2) M5
        else
          am_ci (F 53 0 [.int v4, .int 0, .int 1] [] M5) fun x8 M7 => /- Model_in -/
          if x8 = 0 then
            am_rt 1 (-2) M7
          else
            am_gI g M7 a0 12 14 fun x9 =>
            am_gI g M7 a0 12 14 fun x10 =>
            am_rc g a0 12 <|
            am_cv (F 43 0 [.ref a0, .int x9, .int v3, .int x10, .int v4] [] M7) fun M11 => /- Model_asReal -/
            am_rc g a0 12 <|
            am_cv (F 260 0 [.ref a0, .int v1, .int v2] [] M11) fun M12 => /- Model_search -/
            am_rc g a0 12 <|
            am_ci (F 62 0 [.ref a0] [] M12) fun x14 M13 => /- Model_tells -/
            am_rt 1 x14 M13) = some r) : F 264 0 [.ref a0, .int v1, .int v2, .int v3, .int v4] [] M = some r := am_inF hF t_Model_best h
set_option maxRecDepth 20000 in
set_option maxHeartbeats 2000000 in
theorem e_Model_bestOn {g : am_G} {F : am_FT} (hF : F = am_F T0 g) {M : am_M} {a0 : Nat} {v1 : Int32} {v2 : Int32} {v3 : Int32} {v4 : Int32} {v5 : Int32} {r : am_R} (h : (
  am_rc g a0 12 <|
  am_ci (F 115 0 [.ref a0, .int v1] [] M) fun x2 M1 => /- Model_isDoor -/
  if x2 = 0 then
    am_rt 1 (-1) M1
  else
    am_rc g a0 12 <|
    am_ci (F 115 0 [.ref a0, .int v2] [] M1) fun x4 M3 => /- Model_isDoor -/
    if x4 = 0 then
      am_rt 1 (-1) M3
    else
      if v1 = v2 then
        am_rt 1 (-2) M3
      else
        if v3 < 0 then
          am_rt 1 (-2) M3
        else
          am_dv 1000 <|
          if 299 < (v3 / 1000) then
            am_rt 1 (-2) M3
          else
            am_dv 1000 <|
            am_gI g M3 a0 12 14 fun x5 =>
            if x5 < (v3 - v3 / 1000 * 1000) then
              am_rt 1 (-2) M3
            else
              am_ci (F 116 0 [.int v4] [] M3) fun x7 M6 => /- Model_isHour -/
              if x7 = 0 then
                am_rt 1 (-2) M6
              else
                am_ci (F 53 0 [.int v5, .int 0, .int 1] [] M6) fun x9 M8 => /- Model_in -/
                if x9 = 0 then
                  am_rt 1 (-2) M8
                else
                  am_dv 1000 <|
                  am_dv 1000 <|
                  am_rc g a0 12 <|
                  am_cv (F 43 0 [.ref a0, .int (v3 / 1000), .int v4, .int (v3 - v3 / 1000 * 1000), .int v5] [] M8) fun M10 => /- Model_asReal -/
                  am_rc g a0 12 <|
                  am_cv (F 260 0 [.ref a0, .int v1, .int v2] [] M10) fun M11 => /- Model_search -/
                  am_rc g a0 12 <|
                  am_ci (F 62 0 [.ref a0] [] M11) fun x13 M12 => /- Model_tells -/
                  am_rt 1 x13 M12) = some r) : F 265 0 [.ref a0, .int v1, .int v2, .int v3, .int v4, .int v5] [] M = some r := am_inF hF t_Model_bestOn h
set_option maxRecDepth 20000 in
set_option maxHeartbeats 2000000 in
theorem e_Model_marks {g : am_G} {F : am_FT} (hF : F = am_F T0 g) {M : am_M} {a0 : Nat} {v1 : Int32} {r : am_R} (h : (
  am_gR g a0 12 50 fun q1 =>
  am_ia g M q1 ((8 * v1) + 6) fun x2 =>
  am_gR g a0 12 50 fun q3 =>
  am_ia g M q3 ((8 * v1) + 3) fun x4 =>
  am_gR g a0 12 50 fun q5 =>
  am_ia g M q5 ((8 * v1) + 4) fun x6 =>
  am_gI g M a0 12 14 fun x7 =>
  am_rc g a0 12 <|
  am_cv (F 43 0 [.ref a0, .int x4, .int x6, .int x7, .int 1] [] M) fun M8 => /- Model_asReal -/
  am_gR g a0 12 50 fun q9 =>
  am_ia g M8 q9 ((8 * v1) + 1) fun x10 =>
  am_gR g a0 12 50 fun q11 =>
  am_ia g M8 q11 ((8 * v1) + 2) fun x12 =>
  am_rc g a0 12 <|
  am_cv (F 260 0 [.ref a0, .int x10, .int x12] [] M8) fun M13 => /- Model_search -/
  am_gR g a0 12 52 fun q14 =>
  am_la g M13 q14 v1 fun l15 =>
  am_gJ g M13 a0 12 66 fun l16 =>
  am_gR g a0 12 93 fun q17 =>
  if x2 ≤ 0 then
    am_ls g M13 q17 0 0 fun M18 =>
    am_gR g a0 12 93 fun q19 =>
    am_gI g M18 a0 12 14 fun x20 =>
    am_rc g a0 12 <|
    am_ci (F 224 0 [.ref a0, .int v1, .int x4, .int x6, .int x20] [] M18) fun x22 M21 => /- Model_isWrong -/
    if x22 = 0 then
      am_ls g M21 q19 1 0 fun M23 =>
      am_gR g a0 12 93 fun q24 =>
      if x2 ≤ 0 then
        F 266 168 [.ref a0, .int v1, .int x2, .int x4] [.long 0, .int 2, .ref q24] M23
      else
        am_gI g M23 a0 12 64 fun x25 =>
        if x25 ≤ 0 then
          F 266 168 [.ref a0, .int v1, .int x2, .int x4] [.long 0, .int 2, .ref q24] M23
        else
          if (lg_cmp (l15 - l16) 0) ≤ 0 then
            F 266 168 [.ref a0, .int v1, .int x2, .int x4] [.long 0, .int 2, .ref q24] M23
          else
            am_gJ g M23 a0 12 66 fun l26 =>
            am_dw l26 <|
            F 266 168 [.ref a0, .int v1, .int x2, .int x4] [.long (((l15 - l16) * 100) / l26), .int 2, .ref q24] M23
    else
      am_ls g M21 q19 1 1 fun M27 =>
      am_gR g a0 12 93 fun q28 =>
      if x2 ≤ 0 then
        F 266 168 [.ref a0, .int v1, .int x2, .int x4] [.long 0, .int 2, .ref q28] M27
      else
        am_gI g M27 a0 12 64 fun x29 =>
        if x29 ≤ 0 then
          F 266 168 [.ref a0, .int v1, .int x2, .int x4] [.long 0, .int 2, .ref q28] M27
        else
          if (lg_cmp (l15 - l16) 0) ≤ 0 then
            F 266 168 [.ref a0, .int v1, .int x2, .int x4] [.long 0, .int 2, .ref q28] M27
          else
            am_gJ g M27 a0 12 66 fun l30 =>
            am_dw l30 <|
            F 266 168 [.ref a0, .int v1, .int x2, .int x4] [.long (((l15 - l16) * 100) / l30), .int 2, .ref q28] M27
  else
    am_ls g M13 q17 0 1 fun M31 =>
    am_gR g a0 12 93 fun q32 =>
    am_gI g M31 a0 12 14 fun x33 =>
    am_rc g a0 12 <|
    am_ci (F 224 0 [.ref a0, .int v1, .int x4, .int x6, .int x33] [] M31) fun x35 M34 => /- Model_isWrong -/
    if x35 = 0 then
      am_ls g M34 q32 1 0 fun M36 =>
      am_gR g a0 12 93 fun q37 =>
      if x2 ≤ 0 then
        F 266 168 [.ref a0, .int v1, .int x2, .int x4] [.long 0, .int 2, .ref q37] M36
      else
        am_gI g M36 a0 12 64 fun x38 =>
        if x38 ≤ 0 then
          F 266 168 [.ref a0, .int v1, .int x2, .int x4] [.long 0, .int 2, .ref q37] M36
        else
          if (lg_cmp (l15 - l16) 0) ≤ 0 then
            F 266 168 [.ref a0, .int v1, .int x2, .int x4] [.long 0, .int 2, .ref q37] M36
          else
            am_gJ g M36 a0 12 66 fun l39 =>
            am_dw l39 <|
            F 266 168 [.ref a0, .int v1, .int x2, .int x4] [.long (((l15 - l16) * 100) / l39), .int 2, .ref q37] M36
    else
      am_ls g M34 q32 1 1 fun M40 =>
      am_gR g a0 12 93 fun q41 =>
      if x2 ≤ 0 then
        F 266 168 [.ref a0, .int v1, .int x2, .int x4] [.long 0, .int 2, .ref q41] M40
      else
        am_gI g M40 a0 12 64 fun x42 =>
        if x42 ≤ 0 then
          F 266 168 [.ref a0, .int v1, .int x2, .int x4] [.long 0, .int 2, .ref q41] M40
        else
          if (lg_cmp (l15 - l16) 0) ≤ 0 then
            F 266 168 [.ref a0, .int v1, .int x2, .int x4] [.long 0, .int 2, .ref q41] M40
          else
            am_gJ g M40 a0 12 66 fun l43 =>
            am_dw l43 <|
            F 266 168 [.ref a0, .int v1, .int x2, .int x4] [.long (((l15 - l16) * 100) / l43), .int 2, .ref q41] M40) = some r) : F 266 0 [.ref a0, .int v1] [] M = some r := am_inF hF t_Model_marks h
set_option maxRecDepth 20000 in
set_option maxHeartbeats 2000000 in
theorem e_Model_marks_168 {g : am_G} {F : am_FT} (hF : F = am_F T0 g) {M : am_M} {a0 : Nat} {v1 : Int32} {v2 : Int32} {v3 : Int32} {as0 : Nat} {vs1 : Int32} {ws2 : Int64} {r : am_R} (h : (
  am_ls g M as0 vs1 ws2 fun M1 =>
  am_gR g a0 12 93 fun q2 =>
  if v2 ≤ 0 then
    am_ls g M1 q2 3 0 fun M3 =>
    am_gR g a0 12 93 fun q4 =>
    if v2 ≤ 0 then
      am_ls g M3 q4 4 0 fun M5 =>
      am_gR g a0 12 93 fun q6 =>
      am_ls g M5 q6 5 v3.toInt64 fun M7 =>
      F 266 222 [.ref a0, .int v1, .int 100, .int 0] [] M7
    else
      am_gR g a0 12 52 fun q8 =>
      am_la g M3 q8 v1 fun l9 =>
      am_ls g M3 q4 4 l9 fun M10 =>
      am_gR g a0 12 93 fun q11 =>
      am_ls g M10 q11 5 v3.toInt64 fun M12 =>
      F 266 222 [.ref a0, .int v1, .int 100, .int 0] [] M12
  else
    am_ls g M1 q2 3 (v2 - 1).toInt64 fun M13 =>
    am_gR g a0 12 93 fun q14 =>
    if v2 ≤ 0 then
      am_ls g M13 q14 4 0 fun M15 =>
      am_gR g a0 12 93 fun q16 =>
      am_ls g M15 q16 5 v3.toInt64 fun M17 =>
      F 266 222 [.ref a0, .int v1, .int 100, .int 0] [] M17
    else
      am_gR g a0 12 52 fun q18 =>
      am_la g M13 q18 v1 fun l19 =>
      am_ls g M13 q14 4 l19 fun M20 =>
      am_gR g a0 12 93 fun q21 =>
      am_ls g M20 q21 5 v3.toInt64 fun M22 =>
      F 266 222 [.ref a0, .int v1, .int 100, .int 0] [] M22) = some r) : F 266 168 [.ref a0, .int v1, .int v2, .int v3] [.long ws2, .int vs1, .ref as0] M = some r := am_inF hF t_Model_marks h
set_option maxRecDepth 20000 in
set_option maxHeartbeats 2000000 in
theorem e_Model_marks_222 {g : am_G} {F : am_FT} (hF : F = am_F T0 g) {M : am_M} {a0 : Nat} {v1 : Int32} {v7 : Int32} {v8 : Int32} {r : am_R} (h : (
  am_gI g M a0 12 45 fun x1 =>
  if x1 ≤ v8 then
    am_gR g a0 12 50 fun q2 =>
    if 0 ≤ v7 then
      am_is g M q2 ((8 * v1) + 5) v7 fun M3 =>
      am_gR g a0 12 50 fun q4 =>
      am_gI g M3 a0 12 14 fun x5 =>
      am_is g M3 q4 ((8 * v1) + 7) x5 fun M6 =>
      some (none, M6)
    else
      am_is g M q2 ((8 * v1) + 5) 0 fun M7 =>
      am_gR g a0 12 50 fun q8 =>
      am_gI g M7 a0 12 14 fun x9 =>
      am_is g M7 q8 ((8 * v1) + 7) x9 fun M10 =>
      some (none, M10)
  else
    F 266 237 [.ref a0, .int v1, .int v7, .int v8, .int 1, .int 0] [] M) = some r) : F 266 222 [.ref a0, .int v1, .int v7, .int v8] [] M = some r := am_inF hF t_Model_marks h
set_option maxRecDepth 20000 in
set_option maxHeartbeats 2000000 in
theorem e_Model_marks_237 {g : am_G} {F : am_FT} (hF : F = am_F T0 g) {M : am_M} {a0 : Nat} {v1 : Int32} {v7 : Int32} {v8 : Int32} {v9 : Int32} {v10 : Int32} {r : am_R} (h : (
  am_gR g a0 12 47 fun q1 =>
  am_ia g M q1 v8 fun x2 =>
  if x2 ≤ v10 then
    if v9 = 0 then
      F 266 222 [.ref a0, .int v1, .int (v7 - 0), .int (v8 + 1)] [] M
    else
      am_gR g a0 12 46 fun q3 =>
      am_ia g M q3 v8 fun x4 =>
      F 266 222 [.ref a0, .int v1, .int (v7 - x4), .int (v8 + 1)] [] M
  else
    am_gR g a0 12 48 fun q5 =>
    am_ia g M q5 ((3 * v8) + v10) fun x6 =>
    am_gR g a0 12 93 fun q7 =>
    am_dv 100000 <|
    am_la g M q7 (x6 / 100000) fun l8 =>
    am_dv 10000 <|
    am_dv 10 <|
    am_dv 10000 <|
    if v9 = 0 then
      F 266 237 [.ref a0, .int v1, .int v7, .int v8, .int 0, .int (v10 + 1)] [] M
    else
      if ((x6 / 10000) - (x6 / 10000) / 10 * 10) = 0 then
        if (lg_cmp l8 (x6 - x6 / 10000 * 10000).toInt64) = 0 then
          F 266 237 [.ref a0, .int v1, .int v7, .int v8, .int 1, .int (v10 + 1)] [] M
        else
          F 266 237 [.ref a0, .int v1, .int v7, .int v8, .int 0, .int (v10 + 1)] [] M
      else
        if ((x6 / 10000) - (x6 / 10000) / 10 * 10) = 1 then
          if 0 ≤ (lg_cmp l8 (x6 - x6 / 10000 * 10000).toInt64) then
            F 266 237 [.ref a0, .int v1, .int v7, .int v8, .int 0, .int (v10 + 1)] [] M
          else
            F 266 237 [.ref a0, .int v1, .int v7, .int v8, .int 1, .int (v10 + 1)] [] M
        else
          if (lg_cmp l8 (x6 - x6 / 10000 * 10000).toInt64) ≤ 0 then
            F 266 237 [.ref a0, .int v1, .int v7, .int v8, .int 0, .int (v10 + 1)] [] M
          else
            F 266 237 [.ref a0, .int v1, .int v7, .int v8, .int 1, .int (v10 + 1)] [] M) = some r) : F 266 237 [.ref a0, .int v1, .int v7, .int v8, .int v9, .int v10] [] M = some r := am_inF hF t_Model_marks h
theorem e_Model_mostAlike {g : am_G} {F : am_FT} (hF : F = am_F T0 g) {M : am_M} {a0 : Nat} {v1 : Int32} {v2 : Int32} {v3 : Int32} {v4 : Int32} {r : am_R} (h : (
  F 267 6 [.ref a0, .int v1, .int v2, .int v3, .int v4, .int 0, .int 0] [] M) = some r) : F 267 0 [.ref a0, .int v1, .int v2, .int v3, .int v4] [] M = some r := am_inF hF t_Model_mostAlike h
set_option maxRecDepth 20000 in
set_option maxHeartbeats 2000000 in
theorem e_Model_mostAlike_6 {g : am_G} {F : am_FT} (hF : F = am_F T0 g) {M : am_M} {a0 : Nat} {v1 : Int32} {v2 : Int32} {v3 : Int32} {v4 : Int32} {v5 : Int32} {v6 : Int32} {r : am_R} (h : (
  am_gI g M a0 12 41 fun x1 =>
  if x1 ≤ v6 then
    am_rt 1 v5 M
  else
    if ((v1 >>> (v6 &&& 31)) &&& 1) = 1 then
      am_rc g a0 12 <|
      am_cv (F 42 0 [.ref a0, .int v6, .int v4] [] M) fun M2 => /- Model_asPupil -/
      am_rc g a0 12 <|
      am_cv (F 260 0 [.ref a0, .int v2, .int v3] [] M2) fun M3 => /- Model_search -/
      am_gR g a0 12 90 fun q4 =>
      am_gI g M3 a0 12 64 fun x5 =>
      am_is g M3 q4 v6 x5 fun M6 =>
      F 267 53 [.ref a0, .int v1, .int v2, .int v3, .int v4, .int v5, .int v6, .int 0] [] M6
    else
      F 267 6 [.ref a0, .int v1, .int v2, .int v3, .int v4, .int v5, .int (v6 + 1)] [] M) = some r) : F 267 6 [.ref a0, .int v1, .int v2, .int v3, .int v4, .int v5, .int v6] [] M = some r := am_inF hF t_Model_mostAlike h
theorem e_Model_mostAlike_53 {g : am_G} {F : am_FT} (hF : F = am_F T0 g) {M : am_M} {a0 : Nat} {v1 : Int32} {v2 : Int32} {v3 : Int32} {v4 : Int32} {v5 : Int32} {v6 : Int32} {v7 : Int32} {r : am_R} (h : (
  am_gI g M a0 12 64 fun x1 =>
  if x1 ≤ v7 then
    F 267 94 [.ref a0, .int v1, .int v2, .int v3, .int v4, .int v5, .int v6, .int 0, .int 0] [] M
  else
    am_gR g a0 12 91 fun q2 =>
    am_gR g a0 12 63 fun q3 =>
    am_ia g M q3 v7 fun x4 =>
    am_is g M q2 ((80 * v6) + v7) x4 fun M5 =>
    F 267 53 [.ref a0, .int v1, .int v2, .int v3, .int v4, .int v5, .int v6, .int (v7 + 1)] [] M5) = some r) : F 267 53 [.ref a0, .int v1, .int v2, .int v3, .int v4, .int v5, .int v6, .int v7] [] M = some r := am_inF hF t_Model_mostAlike h
theorem e_Model_mostAlike_94 {g : am_G} {F : am_FT} (hF : F = am_F T0 g) {M : am_M} {a0 : Nat} {v1 : Int32} {v2 : Int32} {v3 : Int32} {v4 : Int32} {v5 : Int32} {v6 : Int32} {v7 : Int32} {v8 : Int32} {r : am_R} (h : (
  if v6 < v8 then
    if v7 ≤ v5 then
      F 267 6 [.ref a0, .int v1, .int v2, .int v3, .int v4, .int v5, .int (v6 + 1)] [] M
    else
      F 267 6 [.ref a0, .int v1, .int v2, .int v3, .int v4, .int v7, .int (v6 + 1)] [] M
  else
    if ((v1 >>> (v8 &&& 31)) &&& 1) = 1 then
      am_rc g a0 12 <|
      am_ci (F 41 0 [.ref a0, .int v6, .int v8] [] M) fun x2 M1 => /- Model_areAlike -/
      if x2 = 0 then
        F 267 94 [.ref a0, .int v1, .int v2, .int v3, .int v4, .int v5, .int v6, .int (v7 + 0), .int (v8 + 1)] [] M1
      else
        F 267 94 [.ref a0, .int v1, .int v2, .int v3, .int v4, .int v5, .int v6, .int (v7 + 1), .int (v8 + 1)] [] M1
    else
      F 267 94 [.ref a0, .int v1, .int v2, .int v3, .int v4, .int v5, .int v6, .int (v7 + 0), .int (v8 + 1)] [] M) = some r) : F 267 94 [.ref a0, .int v1, .int v2, .int v3, .int v4, .int v5, .int v6, .int v7, .int v8] [] M = some r := am_inF hF t_Model_mostAlike h
set_option maxRecDepth 20000 in
set_option maxHeartbeats 2000000 in
theorem e_Model_wouldSay {g : am_G} {F : am_FT} (hF : F = am_F T0 g) {M : am_M} {a0 : Nat} {v1 : Int32} {v2 : Int32} {v3 : Int32} {v4 : Int32} {r : am_R} (h : (
  am_rc g a0 12 <|
  am_ci (F 119 0 [.ref a0, .int v1] [] M) fun x2 M1 => /- Model_isPupil -/
  if x2 = 0 then
    am_rt 1 (-1) M1
  else
    am_rc g a0 12 <|
    am_ci (F 115 0 [.ref a0, .int v2] [] M1) fun x4 M3 => /- Model_isDoor -/
    if x4 = 0 then
      am_rt 1 (-1) M3
    else
      am_rc g a0 12 <|
      am_ci (F 115 0 [.ref a0, .int v3] [] M3) fun x6 M5 => /- Model_isDoor -/
      if x6 = 0 then
        am_rt 1 (-1) M5
      else
        if v2 = v3 then
          am_rt 1 (-2) M5
        else
          am_ci (F 116 0 [.int v4] [] M5) fun x8 M7 => /- Model_isHour -/
          if x8 = 0 then
            am_rt 1 (-2) M7
          else
            am_rc g a0 12 <|
            am_cv (F 42 0 [.ref a0, .int v1, .int v4] [] M7) fun M9 => /- Model_asPupil -/
            am_rc g a0 12 <|
            am_cv (F 260 0 [.ref a0, .int v2, .int v3] [] M9) fun M10 => /- Model_search -/
            am_rc g a0 12 <|
            am_ci (F 62 0 [.ref a0] [] M10) fun x12 M11 => /- Model_tells -/
            am_rt 1 x12 M11) = some r) : F 268 0 [.ref a0, .int v1, .int v2, .int v3, .int v4] [] M = some r := am_inF hF t_Model_wouldSay h
set_option maxRecDepth 20000 in
set_option maxHeartbeats 2000000 in
theorem e_Model_appeal {g : am_G} {F : am_FT} (hF : F = am_F T0 g) {M : am_M} {a0 : Nat} {v1 : Int32} {r : am_R} (h : (
  am_gI g M a0 12 49 fun x1 =>
  am_ci (F 53 0 [.int v1, .int 0, .int (x1 - 1)] [] M) fun x3 M2 => /- Model_in -/
  if x3 = 0 then
    am_rt 1 (-1) M2
  else
    am_gR g a0 12 50 fun q4 =>
    am_ia g M2 q4 ((8 * v1) + 5) fun x5 =>
    am_rc g a0 12 <|
    am_cv (F 266 0 [.ref a0, .int v1] [] M2) fun M6 => /- Model_marks -/
    am_gR g a0 12 50 fun q7 =>
    am_ia g M6 q7 ((8 * v1) + 5) fun x8 =>
    am_rt 1 (x8 - x5) M6) = some r) : F 270 0 [.ref a0, .int v1] [] M = some r := am_inF hF t_Model_appeal h
set_option maxRecDepth 20000 in
set_option maxHeartbeats 2000000 in
theorem e_Model_ask {g : am_G} {F : am_FT} (hF : F = am_F T0 g) {M : am_M} {a0 : Nat} {v1 : Int32} {v2 : Int32} {v3 : Int32} {v4 : Int32} {r : am_R} (h : (
  am_rc g a0 12 <|
  am_ci (F 119 0 [.ref a0, .int v1] [] M) fun x2 M1 => /- Model_isPupil -/
  if x2 = 0 then
    am_rt 1 (-1) M1
  else
    am_rc g a0 12 <|
    am_ci (F 115 0 [.ref a0, .int v2] [] M1) fun x4 M3 => /- Model_isDoor -/
    if x4 = 0 then
      am_rt 1 (-1) M3
    else
      am_rc g a0 12 <|
      am_ci (F 115 0 [.ref a0, .int v3] [] M3) fun x6 M5 => /- Model_isDoor -/
      if x6 = 0 then
        am_rt 1 (-1) M5
      else
        if v2 = v3 then
          am_rt 1 (-2) M5
        else
          am_ci (F 116 0 [.int v4] [] M5) fun x8 M7 => /- Model_isHour -/
          if x8 = 0 then
            am_rt 1 (-2) M7
          else
            am_gI g M7 a0 12 49 fun x9 =>
            if x9 = 24 then
              am_rt 1 (-4) M7
            else
              am_rc g a0 12 <|
              am_cv (F 42 0 [.ref a0, .int v1, .int v4] [] M7) fun M10 => /- Model_asPupil -/
              am_rc g a0 12 <|
              am_cv (F 260 0 [.ref a0, .int v2, .int v3] [] M10) fun M11 => /- Model_search -/
              am_gI g M11 a0 12 49 fun x12 =>
              am_gR g a0 12 50 fun q13 =>
              am_is g M11 q13 (8 * x12) v1 fun M14 =>
              am_gR g a0 12 50 fun q15 =>
              am_is g M14 q15 ((8 * x12) + 1) v2 fun M16 =>
              am_gR g a0 12 50 fun q17 =>
              am_is g M16 q17 ((8 * x12) + 2) v3 fun M18 =>
              am_gR g a0 12 50 fun q19 =>
              am_gI g M18 a0 12 14 fun x20 =>
              am_is g M18 q19 ((8 * x12) + 3) x20 fun M21 =>
              am_gR g a0 12 50 fun q22 =>
              am_is g M21 q22 ((8 * x12) + 4) v4 fun M23 =>
              am_gR g a0 12 50 fun q24 =>
              am_gI g M23 a0 12 64 fun x25 =>
              am_is g M23 q24 ((8 * x12) + 6) x25 fun M26 =>
              F 271 145 [.ref a0, .int 0] [] M26) = some r) : F 271 0 [.ref a0, .int v1, .int v2, .int v3, .int v4] [] M = some r := am_inF hF t_Model_ask h
set_option maxRecDepth 20000 in
set_option maxHeartbeats 2000000 in
theorem e_Model_ask_145 {g : am_G} {F : am_FT} (hF : F = am_F T0 g) {M : am_M} {a0 : Nat} {v6 : Int32} {r : am_R} (h : (
  am_gI g M a0 12 64 fun x1 =>
  if x1 ≤ v6 then
    am_gR g a0 12 52 fun q2 =>
    am_gI g M a0 12 49 fun x3 =>
    am_gJ g M a0 12 66 fun l4 =>
    am_ls g M q2 x3 l4 fun M5 =>
    am_gI g M5 a0 12 49 fun x6 =>
    am_rc g a0 12 <|
    am_cv (F 266 0 [.ref a0, .int x6] [] M5) fun M7 => /- Model_marks -/
    am_gI g M7 a0 12 49 fun x8 =>
    am_pI g M7 a0 12 49 (x8 + 1) fun M9 =>
    am_gI g M9 a0 12 49 fun x10 =>
    am_rt 1 (x10 - 1) M9
  else
    am_gR g a0 12 51 fun q11 =>
    am_gI g M a0 12 49 fun x12 =>
    am_gR g a0 12 63 fun q13 =>
    am_ia g M q13 v6 fun x14 =>
    am_is g M q11 ((80 * x12) + v6) x14 fun M15 =>
    F 271 145 [.ref a0, .int (v6 + 1)] [] M15) = some r) : F 271 145 [.ref a0, .int v6] [] M = some r := am_inF hF t_Model_ask h
theorem e_Model_parting {g : am_G} {F : am_FT} (hF : F = am_F T0 g) {M : am_M} {a0 : Nat} {v1 : Int32} {v2 : Int32} {r : am_R} (h : (
  if v1 ≤ 0 then
    am_rt 1 (-1) M
  else
    am_gI g M a0 12 41 fun x1 =>
    if v1 < ((1 : Int32) <<< (x1 &&& 31)) then
      am_ci (F 116 0 [.int v2] [] M) fun x3 M2 => /- Model_isHour -/
      if x3 = 0 then
        am_rt 1 (-2) M2
      else
        F 272 31 [.ref a0, .int v1, .int v2, .int 0, .int 0] [] M2
    else
      am_rt 1 (-1) M) = some r) : F 272 0 [.ref a0, .int v1, .int v2] [] M = some r := am_inF hF t_Model_parting h
theorem e_Model_parting_31 {g : am_G} {F : am_FT} (hF : F = am_F T0 g) {M : am_M} {a0 : Nat} {v1 : Int32} {v2 : Int32} {v3 : Int32} {v4 : Int32} {r : am_R} (h : (
  am_gI g M a0 12 41 fun x1 =>
  if x1 ≤ v4 then
    F 272 62 [.ref a0, .int v1, .int v2, .int v3, .int (-3), .int 0] [] M
  else
    F 272 31 [.ref a0, .int v1, .int v2, .int (v3 + ((v1 >>> (v4 &&& 31)) &&& 1)), .int (v4 + 1)] [] M) = some r) : F 272 31 [.ref a0, .int v1, .int v2, .int v3, .int v4] [] M = some r := am_inF hF t_Model_parting h
theorem e_Model_parting_62 {g : am_G} {F : am_FT} (hF : F = am_F T0 g) {M : am_M} {a0 : Nat} {v1 : Int32} {v2 : Int32} {v3 : Int32} {v4 : Int32} {v5 : Int32} {r : am_R} (h : (
  am_gI g M a0 12 10 fun x1 =>
  if x1 ≤ v5 then
    am_rt 1 v4 M
  else
    F 272 74 [.ref a0, .int v1, .int v2, .int v3, .int v4, .int v5, .int 0] [] M) = some r) : F 272 62 [.ref a0, .int v1, .int v2, .int v3, .int v4, .int v5] [] M = some r := am_inF hF t_Model_parting h
theorem e_Model_parting_74 {g : am_G} {F : am_FT} (hF : F = am_F T0 g) {M : am_M} {a0 : Nat} {v1 : Int32} {v2 : Int32} {v3 : Int32} {v4 : Int32} {v5 : Int32} {v6 : Int32} {r : am_R} (h : (
  am_gI g M a0 12 10 fun x1 =>
  if x1 ≤ v6 then
    F 272 62 [.ref a0, .int v1, .int v2, .int v3, .int v4, .int (v5 + 1)] [] M
  else
    if v5 = v6 then
      if v3 ≤ 9 then
        F 272 74 [.ref a0, .int v1, .int v2, .int v3, .int v4, .int v5, .int (v6 + 1)] [] M
      else
        F 272 74 [.ref a0, .int v1, .int v2, .int 9, .int ((10 * v5) + v6), .int v5, .int (v6 + 1)] [] M
    else
      am_rc g a0 12 <|
      am_ci (F 267 0 [.ref a0, .int v1, .int v5, .int v6, .int v2] [] M) fun x3 M2 => /- Model_mostAlike -/
      if v3 ≤ x3 then
        F 272 74 [.ref a0, .int v1, .int v2, .int v3, .int v4, .int v5, .int (v6 + 1)] [] M2
      else
        F 272 74 [.ref a0, .int v1, .int v2, .int x3, .int ((10 * v5) + v6), .int v5, .int (v6 + 1)] [] M2) = some r) : F 272 74 [.ref a0, .int v1, .int v2, .int v3, .int v4, .int v5, .int v6] [] M = some r := am_inF hF t_Model_parting h
