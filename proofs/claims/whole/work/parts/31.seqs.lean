/-! THE ROWS of the methods, the graph being known (by program) -/
theorem s_City_addLeg {g : am_G} {F : am_FT} (hF : F = am_F T0 g) (hg : GG g) {v1 : Int32} {v2 : Int32} {v3 : Int32} {M : am_M} {r : am_R} (h : (
  am_ok 80 v1 <|
  am_lt (wI M 8 v1.toNatClampNeg v2) fun M1 =>
  am_ok 24 v3 <|
  am_ok 24 v2 <|
  am_ok 80 v1 <|
  am_lt (wI M1 9 v1.toNatClampNeg (((rI M1 2 v3.toNatClampNeg) - (rI M1 2 v2.toNatClampNeg)))) fun M2 =>
  am_ok 24 v3 <|
  am_ok 24 v2 <|
  am_ok 80 v1 <|
  am_lt (wI M2 10 v1.toNatClampNeg (((rI M2 3 v3.toNatClampNeg) - (rI M2 3 v2.toNatClampNeg)))) fun M3 =>
  am_ok 24 v2 <|
  am_ok 960 (((v2 * 40) + (rI M3 17 v2.toNatClampNeg))) <|
  am_lt (wI M3 16 (((v2 * 40) + (rI M3 17 v2.toNatClampNeg))).toNatClampNeg v1) fun M4 =>
  am_ok 24 v2 <|
  am_ok 24 v2 <|
  am_lt (wI M4 17 v2.toNatClampNeg (((rI M4 17 v2.toNatClampNeg) + 1))) fun M5 =>
  some (none, M5)) = some r) : F 0 0 [.ref 1, .int v1, .int v2, .int v3] [] M = some r := by
  refine e_City_addLeg hF ?_
  refine (cl_gR (gk_1 hg) (gr_1_8 hg)).trans ?_
  obtain ⟨k1, h⟩ := iv_ok h; refine (cl_is (gk_8 hg) k1).trans ?_
  replace h := iv_lt h
  refine (cl_gR (gk_1 hg) (gr_1_9 hg)).trans ?_
  refine (cl_gR (gk_1 hg) (gr_1_0 hg)).trans ?_
  obtain ⟨k2, h⟩ := iv_ok h; refine (cl_ia (gk_2 hg) k2).trans ?_
  refine (cl_gR (gk_1 hg) (gr_1_0 hg)).trans ?_
  obtain ⟨k3, h⟩ := iv_ok h; refine (cl_ia (gk_2 hg) k3).trans ?_
  obtain ⟨k4, h⟩ := iv_ok h; refine (cl_is (gk_9 hg) k4).trans ?_
  replace h := iv_lt h
  refine (cl_gR (gk_1 hg) (gr_1_10 hg)).trans ?_
  refine (cl_gR (gk_1 hg) (gr_1_1 hg)).trans ?_
  obtain ⟨k5, h⟩ := iv_ok h; refine (cl_ia (gk_3 hg) k5).trans ?_
  refine (cl_gR (gk_1 hg) (gr_1_1 hg)).trans ?_
  obtain ⟨k6, h⟩ := iv_ok h; refine (cl_ia (gk_3 hg) k6).trans ?_
  obtain ⟨k7, h⟩ := iv_ok h; refine (cl_is (gk_10 hg) k7).trans ?_
  replace h := iv_lt h
  refine (cl_gR (gk_1 hg) (gr_1_18 hg)).trans ?_
  refine (cl_gR (gk_1 hg) (gr_1_19 hg)).trans ?_
  obtain ⟨k8, h⟩ := iv_ok h; refine (cl_ia (gk_17 hg) k8).trans ?_
  obtain ⟨k9, h⟩ := iv_ok h; refine (cl_is (gk_16 hg) k9).trans ?_
  replace h := iv_lt h
  refine (cl_gR (gk_1 hg) (gr_1_19 hg)).trans ?_
  obtain ⟨k10, h⟩ := iv_ok h; refine (cl_ia (gk_17 hg) k10).trans ?_
  obtain ⟨k11, h⟩ := iv_ok h; refine (cl_is (gk_17 hg) k11).trans ?_
  replace h := iv_lt h
  exact h
theorem s_City_addThing {g : am_G} {F : am_FT} (hF : F = am_F T0 g) (hg : GG g) {v1 : Int32} {v2 : Int32} {M : am_M} {r : am_R} (h : (
  am_ok 72 ((fI M 1 17)) <|
  am_lt (wI M 14 ((fI M 1 17)).toNatClampNeg v1) fun M1 =>
  am_ok 72 ((fI M1 1 17)) <|
  am_lt (wI M1 15 ((fI M1 1 17)).toNatClampNeg v2) fun M2 =>
  am_lt (fW M2 1 17 (((fI M2 1 17) + 1))) fun M3 =>
  some (none, M3)) = some r) : F 1 0 [.ref 1, .int v1, .int v2] [] M = some r := by
  refine e_City_addThing hF ?_
  refine (cl_gR (gk_1 hg) (gr_1_15 hg)).trans ?_
  refine (cl_gI (gk_1 hg)).trans ?_
  obtain ⟨k1, h⟩ := iv_ok h; refine (cl_is (gk_14 hg) k1).trans ?_
  replace h := iv_lt h
  refine (cl_gR (gk_1 hg) (gr_1_16 hg)).trans ?_
  refine (cl_gI (gk_1 hg)).trans ?_
  obtain ⟨k2, h⟩ := iv_ok h; refine (cl_is (gk_15 hg) k2).trans ?_
  replace h := iv_lt h
  refine (cl_gI (gk_1 hg)).trans ?_
  refine (cl_pI (gk_1 hg)).trans ?_
  replace h := iv_lt h
  exact h
theorem s_City_cross {g : am_G} {F : am_FT} (hF : F = am_F T0 g) (hg : GG g) {v1 : Int32} {v2 : Int32} {M : am_M} {r : am_R} (h : (
  am_ok 80 v1 <|
  am_ok 80 v2 <|
  am_ok 80 v1 <|
  am_ok 80 v2 <|
  am_rt 1 ((((rI M 9 v1.toNatClampNeg) * (rI M 10 v2.toNatClampNeg)) - ((rI M 10 v1.toNatClampNeg) * (rI M 9 v2.toNatClampNeg)))) M) = some r) : F 2 0 [.ref 1, .int v1, .int v2] [] M = some r := by
  refine e_City_cross hF ?_
  refine (cl_gR (gk_1 hg) (gr_1_9 hg)).trans ?_
  obtain ⟨k1, h⟩ := iv_ok h; refine (cl_ia (gk_9 hg) k1).trans ?_
  refine (cl_gR (gk_1 hg) (gr_1_10 hg)).trans ?_
  obtain ⟨k2, h⟩ := iv_ok h; refine (cl_ia (gk_10 hg) k2).trans ?_
  refine (cl_gR (gk_1 hg) (gr_1_10 hg)).trans ?_
  obtain ⟨k3, h⟩ := iv_ok h; refine (cl_ia (gk_10 hg) k3).trans ?_
  refine (cl_gR (gk_1 hg) (gr_1_9 hg)).trans ?_
  obtain ⟨k4, h⟩ := iv_ok h; refine (cl_ia (gk_9 hg) k4).trans ?_
  exact h
theorem s_City_dot {g : am_G} {F : am_FT} (hF : F = am_F T0 g) (hg : GG g) {v1 : Int32} {v2 : Int32} {M : am_M} {r : am_R} (h : (
  am_ok 80 v1 <|
  am_ok 80 v2 <|
  am_ok 80 v1 <|
  am_ok 80 v2 <|
  am_rt 1 ((((rI M 9 v1.toNatClampNeg) * (rI M 9 v2.toNatClampNeg)) + ((rI M 10 v1.toNatClampNeg) * (rI M 10 v2.toNatClampNeg)))) M) = some r) : F 3 0 [.ref 1, .int v1, .int v2] [] M = some r := by
  refine e_City_dot hF ?_
  refine (cl_gR (gk_1 hg) (gr_1_9 hg)).trans ?_
  obtain ⟨k1, h⟩ := iv_ok h; refine (cl_ia (gk_9 hg) k1).trans ?_
  refine (cl_gR (gk_1 hg) (gr_1_9 hg)).trans ?_
  obtain ⟨k2, h⟩ := iv_ok h; refine (cl_ia (gk_9 hg) k2).trans ?_
  refine (cl_gR (gk_1 hg) (gr_1_10 hg)).trans ?_
  obtain ⟨k3, h⟩ := iv_ok h; refine (cl_ia (gk_10 hg) k3).trans ?_
  refine (cl_gR (gk_1 hg) (gr_1_10 hg)).trans ?_
  obtain ⟨k4, h⟩ := iv_ok h; refine (cl_ia (gk_10 hg) k4).trans ?_
  exact h
theorem s_City_endOf {g : am_G} {F : am_FT} (hF : F = am_F T0 g) (hg : GG g) {v1 : Int32} {M : am_M} {r : am_R} (h : (
  am_ok 80 ((v1 ^^^ 1)) <|
  am_rt 1 ((rI M 8 ((v1 ^^^ 1)).toNatClampNeg)) M) = some r) : F 4 0 [.ref 1, .int v1] [] M = some r := by
  refine e_City_endOf hF ?_
  refine (cl_gR (gk_1 hg) (gr_1_8 hg)).trans ?_
  obtain ⟨k1, h⟩ := iv_ok h; refine (cl_ia (gk_8 hg) k1).trans ?_
  exact h
theorem s_City_feetAhead {g : am_G} {F : am_FT} (hF : F = am_F T0 g) (hg : GG g) {v1 : Int32} {v2 : Int32} {v3 : Int32} {M : am_M} {r : am_R} (h : (
  am_ok 8 v3 <|
  am_ok 8 v2 <|
  if (v1 &&& 1) = 0 then
    am_rt 1 (((rI M 12 v3.toNatClampNeg) - (rI M 12 v2.toNatClampNeg))) M
  else
    am_rt 1 ((-((rI M 12 v3.toNatClampNeg) - (rI M 12 v2.toNatClampNeg)))) M) = some r) : F 5 0 [.ref 1, .int v1, .int v2, .int v3] [] M = some r := by
  refine e_City_feetAhead hF ?_
  refine (cl_gR (gk_1 hg) (gr_1_12 hg)).trans ?_
  obtain ⟨k1, h⟩ := iv_ok h; refine (cl_ia (gk_12 hg) k1).trans ?_
  refine (cl_gR (gk_1 hg) (gr_1_12 hg)).trans ?_
  obtain ⟨k2, h⟩ := iv_ok h; refine (cl_ia (gk_12 hg) k2).trans ?_
  rcases iv_ite h with ⟨hc, h⟩ | ⟨hc, h⟩
  · refine (if_pos hc).trans ?_
    exact h
  · refine (if_neg hc).trans ?_
    exact h
theorem s_City_feetFromStart {g : am_G} {F : am_FT} (hF : F = am_F T0 g) (hg : GG g) {v1 : Int32} {v2 : Int32} {M : am_M} {r : am_R} (h : (
  if (v1 &&& 1) = 0 then
    am_ok 8 v2 <|
    am_rt 1 ((rI M 12 v2.toNatClampNeg)) M
  else
    am_ok 40 ((v1 >>> ((1 : Int32) &&& 31))) <|
    am_ok 8 v2 <|
    am_rt 1 (((rI M 6 ((v1 >>> ((1 : Int32) &&& 31))).toNatClampNeg) - (rI M 12 v2.toNatClampNeg))) M) = some r) : F 6 0 [.ref 1, .int v1, .int v2] [] M = some r := by
  refine e_City_feetFromStart hF ?_
  rcases iv_ite h with ⟨hc, h⟩ | ⟨hc, h⟩
  · refine (if_pos hc).trans ?_
    refine (cl_gR (gk_1 hg) (gr_1_12 hg)).trans ?_
    obtain ⟨k3, h⟩ := iv_ok h; refine (cl_ia (gk_12 hg) k3).trans ?_
    exact h
  · refine (if_neg hc).trans ?_
    refine (cl_gR (gk_1 hg) (gr_1_5 hg)).trans ?_
    obtain ⟨k1, h⟩ := iv_ok h; refine (cl_ia (gk_6 hg) k1).trans ?_
    refine (cl_gR (gk_1 hg) (gr_1_12 hg)).trans ?_
    obtain ⟨k2, h⟩ := iv_ok h; refine (cl_ia (gk_12 hg) k2).trans ?_
    exact h
theorem s_City_feetToEnd {g : am_G} {F : am_FT} (hF : F = am_F T0 g) (hg : GG g) {v1 : Int32} {v2 : Int32} {M : am_M} {r : am_R} (h : (
  if (v1 &&& 1) = 0 then
    am_ok 40 ((v1 >>> ((1 : Int32) &&& 31))) <|
    am_ok 8 v2 <|
    am_rt 1 (((rI M 6 ((v1 >>> ((1 : Int32) &&& 31))).toNatClampNeg) - (rI M 12 v2.toNatClampNeg))) M
  else
    am_ok 8 v2 <|
    am_rt 1 ((rI M 12 v2.toNatClampNeg)) M) = some r) : F 7 0 [.ref 1, .int v1, .int v2] [] M = some r := by
  refine e_City_feetToEnd hF ?_
  rcases iv_ite h with ⟨hc, h⟩ | ⟨hc, h⟩
  · refine (if_pos hc).trans ?_
    refine (cl_gR (gk_1 hg) (gr_1_5 hg)).trans ?_
    obtain ⟨k2, h⟩ := iv_ok h; refine (cl_ia (gk_6 hg) k2).trans ?_
    refine (cl_gR (gk_1 hg) (gr_1_12 hg)).trans ?_
    obtain ⟨k3, h⟩ := iv_ok h; refine (cl_ia (gk_12 hg) k3).trans ?_
    exact h
  · refine (if_neg hc).trans ?_
    refine (cl_gR (gk_1 hg) (gr_1_12 hg)).trans ?_
    obtain ⟨k1, h⟩ := iv_ok h; refine (cl_ia (gk_12 hg) k1).trans ?_
    exact h
theorem s_City_isOfKind {g : am_G} {F : am_FT} (hF : F = am_F T0 g) (hg : GG g) {v0 : Int32} {v1 : Int32} {M : am_M} {r : am_R} (h : (
  F 8 4 [.int v1, .int v0, .int 0] [] M) = some r) : F 8 0 [.int v0, .int v1] [] M = some r := by
  refine e_City_isOfKind hF ?_
  exact h
theorem s_City_isOfKind_4 {g : am_G} {F : am_FT} (hF : F = am_F T0 g) (hg : GG g) {v1 : Int32} {v2 : Int32} {v3 : Int32} {M : am_M} {r : am_R} (h : (
  if 6 ≤ v3 then
    if v2 = v1 then
      am_rt 2 1 M
    else
      am_rt 2 0 M
  else
    if v2 < 0 then
      if v2 = v1 then
        am_rt 2 1 M
      else
        am_rt 2 0 M
    else
      if v2 = v1 then
        if v2 = v1 then
          am_rt 2 1 M
        else
          am_rt 2 0 M
      else
        am_ok 6 v2 <|
        F 8 4 [.int v1, .int (am_bro v2.toNatClampNeg), .int (v3 + 1)] [] M) = some r) : F 8 4 [.int v1, .int v2, .int v3] [] M = some r := by
  refine e_City_isOfKind_4 hF ?_
  refine (cl_ln hg.2.2.1 (Or.inr (Or.inl rfl))).trans ?_
  rcases iv_ite h with ⟨hc, h⟩ | ⟨hc, h⟩
  · refine (if_pos hc).trans ?_
    rcases iv_ite h with ⟨hc, h⟩ | ⟨hc, h⟩
    · refine (if_pos hc).trans ?_
      exact h
    · refine (if_neg hc).trans ?_
      exact h
  · refine (if_neg hc).trans ?_
    rcases iv_ite h with ⟨hc, h⟩ | ⟨hc, h⟩
    · refine (if_pos hc).trans ?_
      rcases iv_ite h with ⟨hc, h⟩ | ⟨hc, h⟩
      · refine (if_pos hc).trans ?_
        exact h
      · refine (if_neg hc).trans ?_
        exact h
    · refine (if_neg hc).trans ?_
      rcases iv_ite h with ⟨hc, h⟩ | ⟨hc, h⟩
      · refine (if_pos hc).trans ?_
        rcases iv_ite h with ⟨hc, h⟩ | ⟨hc, h⟩
        · refine (if_pos hc).trans ?_
          exact h
        · refine (if_neg hc).trans ?_
          exact h
      · refine (if_neg hc).trans ?_
        obtain ⟨k1, h⟩ := iv_ok h; refine (cl_ia51b hg.2.2.1 k1 (hg.2.2.2.1 _)).trans ?_
        exact h
theorem s_City_isOpen {g : am_G} {F : am_FT} (hF : F = am_F T0 g) (hg : GG g) {v1 : Int32} {v2 : Int32} {M : am_M} {r : am_R} (h : (
  am_ok 40 v1 <|
  if (rI M 5 v1.toNatClampNeg) = 3 then
    if v2 < 5 then
      am_rt 2 0 M
    else
      if 21 < v2 then
        am_rt 2 0 M
      else
        am_rt 2 1 M
  else
  if (rI M 5 v1.toNatClampNeg) = 5 then
    if v2 = 3 then
      am_rt 2 0 M
    else
      am_rt 2 1 M
  else
    am_rt 2 1 M) = some r) : F 9 0 [.ref 1, .int v1, .int v2] [] M = some r := by
  refine e_City_isOpen hF ?_
  refine (cl_gR (gk_1 hg) (gr_1_4 hg)).trans ?_
  obtain ⟨k1, h⟩ := iv_ok h; refine (cl_ia (gk_5 hg) k1).trans ?_
  rcases iv_ite h with ⟨hc, h⟩ | ⟨hc, h⟩
  · refine (if_pos hc).trans ?_
    rcases iv_ite h with ⟨hc, h⟩ | ⟨hc, h⟩
    · refine (if_pos hc).trans ?_
      exact h
    · refine (if_neg hc).trans ?_
      rcases iv_ite h with ⟨hc, h⟩ | ⟨hc, h⟩
      · refine (if_pos hc).trans ?_
        exact h
      · refine (if_neg hc).trans ?_
        exact h
  · refine (if_neg hc).trans ?_
    rcases iv_ite h with ⟨hc, h⟩ | ⟨hc, h⟩
    · refine (if_pos hc).trans ?_
      rcases iv_ite h with ⟨hc, h⟩ | ⟨hc, h⟩
      · refine (if_pos hc).trans ?_
        exact h
      · refine (if_neg hc).trans ?_
        exact h
    · refine (if_neg hc).trans ?_
      exact h
theorem s_City_legCount {g : am_G} {F : am_FT} (hF : F = am_F T0 g) (hg : GG g) {M : am_M} {r : am_R} (h : (
  am_rt 1 ((2 * (fI M 1 7))) M) = some r) : F 10 0 [.ref 1] [] M = some r := by
  refine e_City_legCount hF ?_
  refine (cl_gI (gk_1 hg)).trans ?_
  exact h
theorem s_City_outLeg {g : am_G} {F : am_FT} (hF : F = am_F T0 g) (hg : GG g) {v1 : Int32} {v2 : Int32} {M : am_M} {r : am_R} (h : (
  am_ok 960 (((v1 * 40) + v2)) <|
  am_rt 1 ((rI M 16 (((v1 * 40) + v2)).toNatClampNeg)) M) = some r) : F 11 0 [.ref 1, .int v1, .int v2] [] M = some r := by
  refine e_City_outLeg hF ?_
  refine (cl_gR (gk_1 hg) (gr_1_18 hg)).trans ?_
  obtain ⟨k1, h⟩ := iv_ok h; refine (cl_ia (gk_16 hg) k1).trans ?_
  exact h
theorem s_City_priceOf {g : am_G} {F : am_FT} (hF : F = am_F T0 g) (hg : GG g) {v1 : Int32} {v2 : Int32} {M : am_M} {r : am_R} (h : (
  am_ok 40 v1 <|
  am_dv 10 <|
  if v2 < 7 then
    am_ok 40 v1 <|
    if (rI M 5 v1.toNatClampNeg) = 1 then
      am_rt 1 (((rI M 6 v1.toNatClampNeg) + 20)) M
    else
    if (rI M 5 v1.toNatClampNeg) = 2 then
      am_rt 1 (((rI M 6 v1.toNatClampNeg) + ((rI M 6 v1.toNatClampNeg) / 10))) M
    else
    if (rI M 5 v1.toNatClampNeg) = 3 then
      if v2 < 8 then
        am_rt 1 (((rI M 6 v1.toNatClampNeg) + 20)) M
      else
        if 16 < v2 then
          am_rt 1 (((rI M 6 v1.toNatClampNeg) + 20)) M
        else
          am_rt 1 ((((rI M 6 v1.toNatClampNeg) + 20) + 10)) M
    else
    if (rI M 5 v1.toNatClampNeg) = 4 then
      am_rt 1 (((rI M 6 v1.toNatClampNeg) + ((rI M 6 v1.toNatClampNeg) / 10))) M
    else
    if (rI M 5 v1.toNatClampNeg) = 5 then
      am_rt 1 ((((rI M 6 v1.toNatClampNeg) + ((rI M 6 v1.toNatClampNeg) / 10)) + 100)) M
    else
      am_rt 1 ((rI M 6 v1.toNatClampNeg)) M
  else
    if 9 < v2 then
      am_ok 40 v1 <|
      if (rI M 5 v1.toNatClampNeg) = 1 then
        am_rt 1 (((rI M 6 v1.toNatClampNeg) + 20)) M
      else
      if (rI M 5 v1.toNatClampNeg) = 2 then
        am_rt 1 (((rI M 6 v1.toNatClampNeg) + ((rI M 6 v1.toNatClampNeg) / 10))) M
      else
      if (rI M 5 v1.toNatClampNeg) = 3 then
        if v2 < 8 then
          am_rt 1 (((rI M 6 v1.toNatClampNeg) + 20)) M
        else
          if 16 < v2 then
            am_rt 1 (((rI M 6 v1.toNatClampNeg) + 20)) M
          else
            am_rt 1 ((((rI M 6 v1.toNatClampNeg) + 20) + 10)) M
      else
      if (rI M 5 v1.toNatClampNeg) = 4 then
        am_rt 1 (((rI M 6 v1.toNatClampNeg) + ((rI M 6 v1.toNatClampNeg) / 10))) M
      else
      if (rI M 5 v1.toNatClampNeg) = 5 then
        am_rt 1 ((((rI M 6 v1.toNatClampNeg) + ((rI M 6 v1.toNatClampNeg) / 10)) + 100)) M
      else
        am_rt 1 ((rI M 6 v1.toNatClampNeg)) M
    else
      am_ok 40 v1 <|
      if (rI M 5 v1.toNatClampNeg) = 1 then
        am_rt 1 (((rI M 6 v1.toNatClampNeg) + 20)) M
      else
      if (rI M 5 v1.toNatClampNeg) = 2 then
        am_rt 1 (((rI M 6 v1.toNatClampNeg) + ((rI M 6 v1.toNatClampNeg) / 10))) M
      else
      if (rI M 5 v1.toNatClampNeg) = 3 then
        if v2 < 8 then
          am_rt 1 (((rI M 6 v1.toNatClampNeg) + 20)) M
        else
          if 16 < v2 then
            am_rt 1 (((rI M 6 v1.toNatClampNeg) + 20)) M
          else
            am_rt 1 ((((rI M 6 v1.toNatClampNeg) + 20) + 10)) M
      else
      if (rI M 5 v1.toNatClampNeg) = 4 then
        am_rt 1 ((2 * ((rI M 6 v1.toNatClampNeg) + ((rI M 6 v1.toNatClampNeg) / 10)))) M
      else
      if (rI M 5 v1.toNatClampNeg) = 5 then
        am_rt 1 (((2 * ((rI M 6 v1.toNatClampNeg) + ((rI M 6 v1.toNatClampNeg) / 10))) + 100)) M
      else
        am_rt 1 ((rI M 6 v1.toNatClampNeg)) M) = some r) : F 12 0 [.ref 1, .int v1, .int v2] [] M = some r := by
  refine e_City_priceOf hF ?_
  refine (cl_gR (gk_1 hg) (gr_1_5 hg)).trans ?_
  obtain ⟨k1, h⟩ := iv_ok h; refine (cl_ia (gk_6 hg) k1).trans ?_
  obtain ⟨k2, h⟩ := iv_dv h; refine (cl_dv k2).trans ?_
  rcases iv_ite h with ⟨hc, h⟩ | ⟨hc, h⟩
  · refine (if_pos hc).trans ?_
    refine (cl_gR (gk_1 hg) (gr_1_4 hg)).trans ?_
    obtain ⟨k3, h⟩ := iv_ok h; refine (cl_ia (gk_5 hg) k3).trans ?_
    rcases iv_ite h with ⟨hc, h⟩ | ⟨hc, h⟩
    · refine (if_pos hc).trans ?_
      exact h
    · refine (if_neg hc).trans ?_
      rcases iv_ite h with ⟨hc, h⟩ | ⟨hc, h⟩
      · refine (if_pos hc).trans ?_
        exact h
      · refine (if_neg hc).trans ?_
        rcases iv_ite h with ⟨hc, h⟩ | ⟨hc, h⟩
        · refine (if_pos hc).trans ?_
          rcases iv_ite h with ⟨hc, h⟩ | ⟨hc, h⟩
          · refine (if_pos hc).trans ?_
            exact h
          · refine (if_neg hc).trans ?_
            rcases iv_ite h with ⟨hc, h⟩ | ⟨hc, h⟩
            · refine (if_pos hc).trans ?_
              exact h
            · refine (if_neg hc).trans ?_
              exact h
        · refine (if_neg hc).trans ?_
          rcases iv_ite h with ⟨hc, h⟩ | ⟨hc, h⟩
          · refine (if_pos hc).trans ?_
            exact h
          · refine (if_neg hc).trans ?_
            rcases iv_ite h with ⟨hc, h⟩ | ⟨hc, h⟩
            · refine (if_pos hc).trans ?_
              exact h
            · refine (if_neg hc).trans ?_
              exact h
  · refine (if_neg hc).trans ?_
    rcases iv_ite h with ⟨hc, h⟩ | ⟨hc, h⟩
    · refine (if_pos hc).trans ?_
      refine (cl_gR (gk_1 hg) (gr_1_4 hg)).trans ?_
      obtain ⟨k4, h⟩ := iv_ok h; refine (cl_ia (gk_5 hg) k4).trans ?_
      rcases iv_ite h with ⟨hc, h⟩ | ⟨hc, h⟩
      · refine (if_pos hc).trans ?_
        exact h
      · refine (if_neg hc).trans ?_
        rcases iv_ite h with ⟨hc, h⟩ | ⟨hc, h⟩
        · refine (if_pos hc).trans ?_
          exact h
        · refine (if_neg hc).trans ?_
          rcases iv_ite h with ⟨hc, h⟩ | ⟨hc, h⟩
          · refine (if_pos hc).trans ?_
            rcases iv_ite h with ⟨hc, h⟩ | ⟨hc, h⟩
            · refine (if_pos hc).trans ?_
              exact h
            · refine (if_neg hc).trans ?_
              rcases iv_ite h with ⟨hc, h⟩ | ⟨hc, h⟩
              · refine (if_pos hc).trans ?_
                exact h
              · refine (if_neg hc).trans ?_
                exact h
          · refine (if_neg hc).trans ?_
            rcases iv_ite h with ⟨hc, h⟩ | ⟨hc, h⟩
            · refine (if_pos hc).trans ?_
              exact h
            · refine (if_neg hc).trans ?_
              rcases iv_ite h with ⟨hc, h⟩ | ⟨hc, h⟩
              · refine (if_pos hc).trans ?_
                exact h
              · refine (if_neg hc).trans ?_
                exact h
    · refine (if_neg hc).trans ?_
      refine (cl_gR (gk_1 hg) (gr_1_4 hg)).trans ?_
      obtain ⟨k5, h⟩ := iv_ok h; refine (cl_ia (gk_5 hg) k5).trans ?_
      rcases iv_ite h with ⟨hc, h⟩ | ⟨hc, h⟩
      · refine (if_pos hc).trans ?_
        exact h
      · refine (if_neg hc).trans ?_
        rcases iv_ite h with ⟨hc, h⟩ | ⟨hc, h⟩
        · refine (if_pos hc).trans ?_
          exact h
        · refine (if_neg hc).trans ?_
          rcases iv_ite h with ⟨hc, h⟩ | ⟨hc, h⟩
          · refine (if_pos hc).trans ?_
            rcases iv_ite h with ⟨hc, h⟩ | ⟨hc, h⟩
            · refine (if_pos hc).trans ?_
              exact h
            · refine (if_neg hc).trans ?_
              rcases iv_ite h with ⟨hc, h⟩ | ⟨hc, h⟩
              · refine (if_pos hc).trans ?_
                exact h
              · refine (if_neg hc).trans ?_
                exact h
          · refine (if_neg hc).trans ?_
            rcases iv_ite h with ⟨hc, h⟩ | ⟨hc, h⟩
            · refine (if_pos hc).trans ?_
              exact h
            · refine (if_neg hc).trans ?_
              rcases iv_ite h with ⟨hc, h⟩ | ⟨hc, h⟩
              · refine (if_pos hc).trans ?_
                exact h
              · refine (if_neg hc).trans ?_
                exact h
theorem s_City_startOf {g : am_G} {F : am_FT} (hF : F = am_F T0 g) (hg : GG g) {v1 : Int32} {M : am_M} {r : am_R} (h : (
  am_ok 80 v1 <|
  am_rt 1 ((rI M 8 v1.toNatClampNeg)) M) = some r) : F 13 0 [.ref 1, .int v1] [] M = some r := by
  refine e_City_startOf hF ?_
  refine (cl_gR (gk_1 hg) (gr_1_8 hg)).trans ?_
  obtain ⟨k1, h⟩ := iv_ok h; refine (cl_ia (gk_8 hg) k1).trans ?_
  exact h
theorem s_Exam_compare {g : am_G} {F : am_FT} (hF : F = am_F T0 g) (hg : GG g) {a0 : Nat} {a1 : Nat} {M : am_M} (h0 : isEx g a0) (h1 : isRt g a1) {r : am_R} (h : (
  am_lt (fW M a0 4 0) fun M1 =>
  if (fI M1 (a0 + 1) 5) ≤ 0 then
    some (none, M1)
  else
    if (fI M1 a1 5) ≤ 0 then
      some (none, M1)
    else
      if (fI M1 a1 7) ≤ 0 then
        some (none, M1)
      else
        if (fI M1 (a0 + 1) 7) ≤ (fI M1 a1 7) then
          some (none, M1)
        else
          am_dv (fI M1 a1 7) <|
          am_lt (fW M1 a0 4 (((100 * ((fI M1 (a0 + 1) 7) - (fI M1 a1 7))) / (fI M1 a1 7)))) fun M2 =>
          some (none, M2)) = some r) : F 14 0 [.ref a0, .ref a1] [] M = some r := by
  refine e_Exam_compare hF ?_
  refine (cl_pI h0.1).trans ?_
  replace h := iv_lt h
  refine (cl_gR h0.1 h0.2.1).trans ?_
  refine (cl_gI h0.2.2.1).trans ?_
  rcases iv_ite h with ⟨hc, h⟩ | ⟨hc, h⟩
  · refine (if_pos hc).trans ?_
    exact h
  · refine (if_neg hc).trans ?_
    refine (cl_gI h1.1).trans ?_
    rcases iv_ite h with ⟨hc, h⟩ | ⟨hc, h⟩
    · refine (if_pos hc).trans ?_
      exact h
    · refine (if_neg hc).trans ?_
      refine (cl_gI h1.1).trans ?_
      rcases iv_ite h with ⟨hc, h⟩ | ⟨hc, h⟩
      · refine (if_pos hc).trans ?_
        exact h
      · refine (if_neg hc).trans ?_
        refine (cl_gR h0.1 h0.2.1).trans ?_
        refine (cl_gI h0.2.2.1).trans ?_
        refine (cl_gI h1.1).trans ?_
        rcases iv_ite h with ⟨hc, h⟩ | ⟨hc, h⟩
        · refine (if_pos hc).trans ?_
          exact h
        · refine (if_neg hc).trans ?_
          refine (cl_gR h0.1 h0.2.1).trans ?_
          refine (cl_gI h0.2.2.1).trans ?_
          refine (cl_gI h1.1).trans ?_
          refine (cl_gI h1.1).trans ?_
          obtain ⟨k1, h⟩ := iv_dv h; refine (cl_dv k1).trans ?_
          refine (cl_pI h0.1).trans ?_
          replace h := iv_lt h
          exact h
theorem s_Finder_costThrough {g : am_G} {F : am_FT} (hF : F = am_F T0 g) (hg : GG g) {v1 : Int32} {M : am_M} {r : am_R} (h : (
  am_ok 80 v1 <|
  if (lg_cmp ((rJ M 40 v1.toNatClampNeg)) 9223372036854775807) = 0 then
    some (some (.long 9223372036854775807), M)
  else
    am_ok 80 v1 <|
    am_ok 80 v1 <|
    some (some (.long (((rJ M 40 v1.toNatClampNeg) + (rJ M 38 v1.toNatClampNeg)))), M)) = some r) : F 16 0 [.ref 32, .int v1] [] M = some r := by
  refine e_Finder_costThrough hF ?_
  refine (cl_gR (gk_32 hg) (gr_32_11 hg)).trans ?_
  obtain ⟨k1, h⟩ := iv_ok h; refine (cl_la (gk_40 hg) k1).trans ?_
  rcases iv_ite h with ⟨hc, h⟩ | ⟨hc, h⟩
  · refine (if_pos hc).trans ?_
    exact h
  · refine (if_neg hc).trans ?_
    refine (cl_gR (gk_32 hg) (gr_32_11 hg)).trans ?_
    obtain ⟨k2, h⟩ := iv_ok h; refine (cl_la (gk_40 hg) k2).trans ?_
    refine (cl_gR (gk_32 hg) (gr_32_9 hg)).trans ?_
    obtain ⟨k3, h⟩ := iv_ok h; refine (cl_la (gk_38 hg) k3).trans ?_
    exact h
theorem s_Finder_key {g : am_G} {F : am_FT} (hF : F = am_F T0 g) (hg : GG g) {v1 : Int32} {v2 : Int32} {M : am_M} {r : am_R} (h : (
  if (fI M 32 13) = 0 then
    some (some (.long (((v1.toInt64 <<< ((32 : Int32).toInt64 &&& 63)) + v2.toInt64))), M)
  else
    some (some (.long (((v2.toInt64 <<< ((32 : Int32).toInt64 &&& 63)) + v1.toInt64))), M)) = some r) : F 17 0 [.ref 32, .int v1, .int v2] [] M = some r := by
  refine e_Finder_key hF ?_
  refine (cl_gI (gk_32 hg)).trans ?_
  rcases iv_ite h with ⟨hc, h⟩ | ⟨hc, h⟩
  · refine (if_pos hc).trans ?_
    exact h
  · refine (if_neg hc).trans ?_
    exact h
theorem s_Finder_mark {g : am_G} {F : am_FT} (hF : F = am_F T0 g) (hg : GG g) {v1 : Int32} {v2 : Int32} {M : am_M} {r : am_R} (h : (
  am_ok 6400 (((v1 * 80) + v2)) <|
  if (rI M 35 (((v1 * 80) + v2)).toNatClampNeg) = 0 then
    if 200 ≤ (fI M 32 6) then
      some (none, M)
    else
      am_ok 6400 (((v1 * 80) + v2)) <|
      am_lt (wI M 35 (((v1 * 80) + v2)).toNatClampNeg (vp_nar .boolean 1)) fun M1 =>
      am_ok 200 ((fI M1 32 6)) <|
      am_lt (wI M1 36 ((fI M1 32 6)).toNatClampNeg (((v1 * 80) + v2))) fun M2 =>
      am_lt (fW M2 32 6 (((fI M2 32 6) + 1))) fun M3 =>
      some (none, M3)
  else
    some (none, M)) = some r) : F 18 0 [.ref 32, .int v1, .int v2] [] M = some r := by
  refine e_Finder_mark hF ?_
  refine (cl_gR (gk_32 hg) (gr_32_4 hg)).trans ?_
  obtain ⟨k1, h⟩ := iv_ok h; refine (cl_za (gk_35 hg) k1).trans ?_
  rcases iv_ite h with ⟨hc, h⟩ | ⟨hc, h⟩
  · refine (if_pos hc).trans ?_
    refine (cl_gI (gk_32 hg)).trans ?_
    refine (cl_gR (gk_32 hg) (gr_32_5 hg)).trans ?_
    refine (cl_ln (gk_36 hg) (Or.inl ⟨by decide, by decide⟩)).trans ?_
    rcases iv_ite h with ⟨hc, h⟩ | ⟨hc, h⟩
    · refine (if_pos hc).trans ?_
      exact h
    · refine (if_neg hc).trans ?_
      refine (cl_gR (gk_32 hg) (gr_32_4 hg)).trans ?_
      obtain ⟨k2, h⟩ := iv_ok h; refine (cl_zs (gk_35 hg) k2).trans ?_
      replace h := iv_lt h
      refine (cl_gR (gk_32 hg) (gr_32_5 hg)).trans ?_
      refine (cl_gI (gk_32 hg)).trans ?_
      obtain ⟨k3, h⟩ := iv_ok h; refine (cl_is (gk_36 hg) k3).trans ?_
      replace h := iv_lt h
      refine (cl_gI (gk_32 hg)).trans ?_
      refine (cl_pI (gk_32 hg)).trans ?_
      replace h := iv_lt h
      exact h
  · refine (if_neg hc).trans ?_
    exact h
theorem s_Finder_mayTurn {g : am_G} {F : am_FT} (hF : F = am_F T0 g) (hg : GG g) {v1 : Int32} {v2 : Int32} {M : am_M} {r : am_R} (h : (
  am_ok 80 v2 <|
  if (rI M 33 v2.toNatClampNeg) = 0 then
    am_rt 2 0 M
  else
    if (v1 >>> ((1 : Int32) &&& 31)) = (v2 >>> ((1 : Int32) &&& 31)) then
      am_rt 2 0 M
    else
      am_ok 6400 (((v1 * 80) + v2)) <|
      if (rI M 35 (((v1 * 80) + v2)).toNatClampNeg) = (fI M 32 7) then
        am_rt 2 1 M
      else
        am_rt 2 0 M) = some r) : F 19 0 [.ref 32, .int v1, .int v2] [] M = some r := by
  refine e_Finder_mayTurn hF ?_
  refine (cl_gR (gk_32 hg) (gr_32_2 hg)).trans ?_
  obtain ⟨k1, h⟩ := iv_ok h; refine (cl_za (gk_33 hg) k1).trans ?_
  rcases iv_ite h with ⟨hc, h⟩ | ⟨hc, h⟩
  · refine (if_pos hc).trans ?_
    exact h
  · refine (if_neg hc).trans ?_
    rcases iv_ite h with ⟨hc, h⟩ | ⟨hc, h⟩
    · refine (if_pos hc).trans ?_
      exact h
    · refine (if_neg hc).trans ?_
      refine (cl_gR (gk_32 hg) (gr_32_4 hg)).trans ?_
      obtain ⟨k2, h⟩ := iv_ok h; refine (cl_za (gk_35 hg) k2).trans ?_
      refine (cl_gI (gk_32 hg)).trans ?_
      rcases iv_ite h with ⟨hc, h⟩ | ⟨hc, h⟩
      · refine (if_pos hc).trans ?_
        exact h
      · refine (if_neg hc).trans ?_
        exact h
theorem s_Finder_nearest {g : am_G} {F : am_FT} (hF : F = am_F T0 g) (hg : GG g) {v1 : Int32} {M : am_M} {r : am_R} (h : (
  F 20 9 [.ref 32, .int v1, .int (-1), .long 9223372036854775807, .int 0] [] M) = some r) : F 20 0 [.ref 32, .int v1] [] M = some r := by
  refine e_Finder_nearest hF ?_
  exact h
theorem s_Finder_nearest_9 {g : am_G} {F : am_FT} (hF : F = am_F T0 g) (hg : GG g) {v1 : Int32} {v2 : Int32} {w3 : Int64} {v5 : Int32} {M : am_M} {r : am_R} (h : (
  if v1 ≤ v5 then
    am_rt 1 v2 M
  else
    am_ok 80 v5 <|
    if (rI M 41 v5.toNatClampNeg) = 0 then
      am_ok 80 v5 <|
      if 0 ≤ (lg_cmp ((rJ M 40 v5.toNatClampNeg)) w3) then
        F 20 9 [.ref 32, .int v1, .int v2, .long w3, .int (v5 + 1)] [] M
      else
        am_ok 80 v5 <|
        F 20 9 [.ref 32, .int v1, .int v5, .long (rJ M 40 v5.toNatClampNeg), .int (v5 + 1)] [] M
    else
      F 20 9 [.ref 32, .int v1, .int v2, .long w3, .int (v5 + 1)] [] M) = some r) : F 20 9 [.ref 32, .int v1, .int v2, .long w3, .int v5] [] M = some r := by
  refine e_Finder_nearest_9 hF ?_
  rcases iv_ite h with ⟨hc, h⟩ | ⟨hc, h⟩
  · refine (if_pos hc).trans ?_
    exact h
  · refine (if_neg hc).trans ?_
    refine (cl_gR (gk_32 hg) (gr_32_12 hg)).trans ?_
    obtain ⟨k1, h⟩ := iv_ok h; refine (cl_za (gk_41 hg) k1).trans ?_
    rcases iv_ite h with ⟨hc, h⟩ | ⟨hc, h⟩
    · refine (if_pos hc).trans ?_
      refine (cl_gR (gk_32 hg) (gr_32_11 hg)).trans ?_
      obtain ⟨k2, h⟩ := iv_ok h; refine (cl_la (gk_40 hg) k2).trans ?_
      rcases iv_ite h with ⟨hc, h⟩ | ⟨hc, h⟩
      · refine (if_pos hc).trans ?_
        exact h
      · refine (if_neg hc).trans ?_
        refine (cl_gR (gk_32 hg) (gr_32_11 hg)).trans ?_
        obtain ⟨k3, h⟩ := iv_ok h; refine (cl_la (gk_40 hg) k3).trans ?_
        exact h
    · refine (if_neg hc).trans ?_
      exact h
theorem s_Finder_unmark {g : am_G} {F : am_FT} (hF : F = am_F T0 g) (hg : GG g) {M : am_M} {r : am_R} (h : (
  F 21 2 [.ref 32, .int 0] [] M) = some r) : F 21 0 [.ref 32] [] M = some r := by
  refine e_Finder_unmark hF ?_
  exact h
theorem s_Finder_unmark_2 {g : am_G} {F : am_FT} (hF : F = am_F T0 g) (hg : GG g) {v1 : Int32} {M : am_M} {r : am_R} (h : (
  if (fI M 32 6) ≤ v1 then
    am_lt (fW M 32 6 0) fun M1 =>
    some (none, M1)
  else
    am_ok 200 v1 <|
    am_ok 6400 ((rI M 36 v1.toNatClampNeg)) <|
    am_lt (wI M 35 ((rI M 36 v1.toNatClampNeg)).toNatClampNeg (vp_nar .boolean 0)) fun M2 =>
    F 21 2 [.ref 32, .int (v1 + 1)] [] M2) = some r) : F 21 2 [.ref 32, .int v1] [] M = some r := by
  refine e_Finder_unmark_2 hF ?_
  refine (cl_gI (gk_32 hg)).trans ?_
  rcases iv_ite h with ⟨hc, h⟩ | ⟨hc, h⟩
  · refine (if_pos hc).trans ?_
    refine (cl_pI (gk_32 hg)).trans ?_
    replace h := iv_lt h
    exact h
  · refine (if_neg hc).trans ?_
    refine (cl_gR (gk_32 hg) (gr_32_4 hg)).trans ?_
    refine (cl_gR (gk_32 hg) (gr_32_5 hg)).trans ?_
    obtain ⟨k1, h⟩ := iv_ok h; refine (cl_ia (gk_36 hg) k1).trans ?_
    obtain ⟨k2, h⟩ := iv_ok h; refine (cl_zs (gk_35 hg) k2).trans ?_
    replace h := iv_lt h
    exact h
theorem s_JInteger_bitCount {g : am_G} {F : am_FT} (hF : F = am_F T0 g) (hg : GG g) {v0 : Int32} {M : am_M} {r : am_R} (h : (
  am_rt 1 (((((((((v0 - ((v0.toUInt32 >>> ((1 : Int32).toUInt32 &&& Int32.toUInt32 31)).toInt32 &&& 1431655765)) &&& 858993459) + (((v0 - ((v0.toUInt32 >>> ((1 : Int32).toUInt32 &&& Int32.toUInt32 31)).toInt32 &&& 1431655765)).toUInt32 >>> ((2 : Int32).toUInt32 &&& Int32.toUInt32 31)).toInt32 &&& 858993459)) + ((((v0 - ((v0.toUInt32 >>> ((1 : Int32).toUInt32 &&& Int32.toUInt32 31)).toInt32 &&& 1431655765)) &&& 858993459) + (((v0 - ((v0.toUInt32 >>> ((1 : Int32).toUInt32 &&& Int32.toUInt32 31)).toInt32 &&& 1431655765)).toUInt32 >>> ((2 : Int32).toUInt32 &&& Int32.toUInt32 31)).toInt32 &&& 858993459)).toUInt32 >>> ((4 : Int32).toUInt32 &&& Int32.toUInt32 31)).toInt32) &&& 252645135) + ((((((v0 - ((v0.toUInt32 >>> ((1 : Int32).toUInt32 &&& Int32.toUInt32 31)).toInt32 &&& 1431655765)) &&& 858993459) + (((v0 - ((v0.toUInt32 >>> ((1 : Int32).toUInt32 &&& Int32.toUInt32 31)).toInt32 &&& 1431655765)).toUInt32 >>> ((2 : Int32).toUInt32 &&& Int32.toUInt32 31)).toInt32 &&& 858993459)) + ((((v0 - ((v0.toUInt32 >>> ((1 : Int32).toUInt32 &&& Int32.toUInt32 31)).toInt32 &&& 1431655765)) &&& 858993459) + (((v0 - ((v0.toUInt32 >>> ((1 : Int32).toUInt32 &&& Int32.toUInt32 31)).toInt32 &&& 1431655765)).toUInt32 >>> ((2 : Int32).toUInt32 &&& Int32.toUInt32 31)).toInt32 &&& 858993459)).toUInt32 >>> ((4 : Int32).toUInt32 &&& Int32.toUInt32 31)).toInt32) &&& 252645135).toUInt32 >>> ((8 : Int32).toUInt32 &&& Int32.toUInt32 31)).toInt32) + (((((((v0 - ((v0.toUInt32 >>> ((1 : Int32).toUInt32 &&& Int32.toUInt32 31)).toInt32 &&& 1431655765)) &&& 858993459) + (((v0 - ((v0.toUInt32 >>> ((1 : Int32).toUInt32 &&& Int32.toUInt32 31)).toInt32 &&& 1431655765)).toUInt32 >>> ((2 : Int32).toUInt32 &&& Int32.toUInt32 31)).toInt32 &&& 858993459)) + ((((v0 - ((v0.toUInt32 >>> ((1 : Int32).toUInt32 &&& Int32.toUInt32 31)).toInt32 &&& 1431655765)) &&& 858993459) + (((v0 - ((v0.toUInt32 >>> ((1 : Int32).toUInt32 &&& Int32.toUInt32 31)).toInt32 &&& 1431655765)).toUInt32 >>> ((2 : Int32).toUInt32 &&& Int32.toUInt32 31)).toInt32 &&& 858993459)).toUInt32 >>> ((4 : Int32).toUInt32 &&& Int32.toUInt32 31)).toInt32) &&& 252645135) + ((((((v0 - ((v0.toUInt32 >>> ((1 : Int32).toUInt32 &&& Int32.toUInt32 31)).toInt32 &&& 1431655765)) &&& 858993459) + (((v0 - ((v0.toUInt32 >>> ((1 : Int32).toUInt32 &&& Int32.toUInt32 31)).toInt32 &&& 1431655765)).toUInt32 >>> ((2 : Int32).toUInt32 &&& Int32.toUInt32 31)).toInt32 &&& 858993459)) + ((((v0 - ((v0.toUInt32 >>> ((1 : Int32).toUInt32 &&& Int32.toUInt32 31)).toInt32 &&& 1431655765)) &&& 858993459) + (((v0 - ((v0.toUInt32 >>> ((1 : Int32).toUInt32 &&& Int32.toUInt32 31)).toInt32 &&& 1431655765)).toUInt32 >>> ((2 : Int32).toUInt32 &&& Int32.toUInt32 31)).toInt32 &&& 858993459)).toUInt32 >>> ((4 : Int32).toUInt32 &&& Int32.toUInt32 31)).toInt32) &&& 252645135).toUInt32 >>> ((8 : Int32).toUInt32 &&& Int32.toUInt32 31)).toInt32).toUInt32 >>> ((16 : Int32).toUInt32 &&& Int32.toUInt32 31)).toInt32) &&& 63)) M) = some r) : F 22 0 [.int v0] [] M = some r := by
  refine e_JInteger_bitCount hF ?_
  exact h
theorem s_JMath_abs {g : am_G} {F : am_FT} (hF : F = am_F T0 g) (hg : GG g) {v0 : Int32} {M : am_M} {r : am_R} (h : (
  if 0 ≤ v0 then
    am_rt 1 v0 M
  else
    am_rt 1 ((-v0)) M) = some r) : F 23 0 [.int v0] [] M = some r := by
  refine e_JMath_abs hF ?_
  rcases iv_ite h with ⟨hc, h⟩ | ⟨hc, h⟩
  · refine (if_pos hc).trans ?_
    exact h
  · refine (if_neg hc).trans ?_
    exact h
theorem s_JMath_max {g : am_G} {F : am_FT} (hF : F = am_F T0 g) (hg : GG g) {v0 : Int32} {v1 : Int32} {M : am_M} {r : am_R} (h : (
  if v0 < v1 then
    am_rt 1 v1 M
  else
    am_rt 1 v0 M) = some r) : F 24 0 [.int v0, .int v1] [] M = some r := by
  refine e_JMath_max hF ?_
  rcases iv_ite h with ⟨hc, h⟩ | ⟨hc, h⟩
  · refine (if_pos hc).trans ?_
    exact h
  · refine (if_neg hc).trans ?_
    exact h
theorem s_JMath_min_III {g : am_G} {F : am_FT} (hF : F = am_F T0 g) (hg : GG g) {v0 : Int32} {v1 : Int32} {M : am_M} {r : am_R} (h : (
  if v1 < v0 then
    am_rt 1 v1 M
  else
    am_rt 1 v0 M) = some r) : F 25 0 [.int v0, .int v1] [] M = some r := by
  refine e_JMath_min_III hF ?_
  rcases iv_ite h with ⟨hc, h⟩ | ⟨hc, h⟩
  · refine (if_pos hc).trans ?_
    exact h
  · refine (if_neg hc).trans ?_
    exact h
theorem s_JMath_min_JJJ {g : am_G} {F : am_FT} (hF : F = am_F T0 g) (hg : GG g) {w0 : Int64} {w2 : Int64} {M : am_M} {r : am_R} (h : (
  if 0 < (lg_cmp w0 w2) then
    some (some (.long w2), M)
  else
    some (some (.long w0), M)) = some r) : F 26 0 [.long w0, .long w2] [] M = some r := by
  refine e_JMath_min_JJJ hF ?_
  rcases iv_ite h with ⟨hc, h⟩ | ⟨hc, h⟩
  · refine (if_pos hc).trans ?_
    exact h
  · refine (if_neg hc).trans ?_
    exact h
theorem s_Ledger_addBan {g : am_G} {F : am_FT} (hF : F = am_F T0 g) (hg : GG g) {v1 : Int32} {v2 : Int32} {v3 : Int32} {v4 : Int32} {v5 : Int32} {M : am_M} {r : am_R} (h : (
  if (fI M 18 16) < 40 then
    am_ok 40 ((fI M 18 16)) <|
    am_lt (wI M 26 ((fI M 18 16)).toNatClampNeg v1) fun M1 =>
    am_ok 40 ((fI M1 18 16)) <|
    am_lt (wI M1 27 ((fI M1 18 16)).toNatClampNeg v2) fun M2 =>
    am_ok 40 ((fI M2 18 16)) <|
    am_lt (wI M2 28 ((fI M2 18 16)).toNatClampNeg v3) fun M3 =>
    am_ok 40 ((fI M3 18 16)) <|
    am_lt (wI M3 29 ((fI M3 18 16)).toNatClampNeg v4) fun M4 =>
    am_ok 40 ((fI M4 18 16)) <|
    am_lt (wI M4 30 ((fI M4 18 16)).toNatClampNeg v5) fun M5 =>
    am_ok 40 ((fI M5 18 16)) <|
    am_lt (wI M5 31 ((fI M5 18 16)).toNatClampNeg ((fI M5 18 0))) fun M6 =>
    am_lt (fW M6 18 16 (((fI M6 18 16) + 1))) fun M7 =>
    am_rt 1 (((fI M7 18 16) - 1)) M7
  else
    am_rt 1 ((-4)) M) = some r) : F 30 0 [.ref 18, .int v1, .int v2, .int v3, .int v4, .int v5] [] M = some r := by
  refine e_Ledger_addBan hF ?_
  refine (cl_gI (gk_18 hg)).trans ?_
  rcases iv_ite h with ⟨hc, h⟩ | ⟨hc, h⟩
  · refine (if_pos hc).trans ?_
    refine (cl_gR (gk_18 hg) (gr_18_10 hg)).trans ?_
    refine (cl_gI (gk_18 hg)).trans ?_
    obtain ⟨k1, h⟩ := iv_ok h; refine (cl_is (gk_26 hg) k1).trans ?_
    replace h := iv_lt h
    refine (cl_gR (gk_18 hg) (gr_18_11 hg)).trans ?_
    refine (cl_gI (gk_18 hg)).trans ?_
    obtain ⟨k2, h⟩ := iv_ok h; refine (cl_is (gk_27 hg) k2).trans ?_
    replace h := iv_lt h
    refine (cl_gR (gk_18 hg) (gr_18_12 hg)).trans ?_
    refine (cl_gI (gk_18 hg)).trans ?_
    obtain ⟨k3, h⟩ := iv_ok h; refine (cl_is (gk_28 hg) k3).trans ?_
    replace h := iv_lt h
    refine (cl_gR (gk_18 hg) (gr_18_13 hg)).trans ?_
    refine (cl_gI (gk_18 hg)).trans ?_
    obtain ⟨k4, h⟩ := iv_ok h; refine (cl_is (gk_29 hg) k4).trans ?_
    replace h := iv_lt h
    refine (cl_gR (gk_18 hg) (gr_18_14 hg)).trans ?_
    refine (cl_gI (gk_18 hg)).trans ?_
    obtain ⟨k5, h⟩ := iv_ok h; refine (cl_is (gk_30 hg) k5).trans ?_
    replace h := iv_lt h
    refine (cl_gR (gk_18 hg) (gr_18_15 hg)).trans ?_
    refine (cl_gI (gk_18 hg)).trans ?_
    refine (cl_gI (gk_18 hg)).trans ?_
    obtain ⟨k6, h⟩ := iv_ok h; refine (cl_is (gk_31 hg) k6).trans ?_
    replace h := iv_lt h
    refine (cl_gI (gk_18 hg)).trans ?_
    refine (cl_pI (gk_18 hg)).trans ?_
    replace h := iv_lt h
    refine (cl_gI (gk_18 hg)).trans ?_
    exact h
  · refine (if_neg hc).trans ?_
    exact h
theorem s_Ledger_addName {g : am_G} {F : am_FT} (hF : F = am_F T0 g) (hg : GG g) {v1 : Int32} {w2 : Int64} {M : am_M} {r : am_R} (h : (
  if (fI M 18 4) < 60 then
    am_ok 60 ((fI M 18 4)) <|
    am_lt (wI M 19 ((fI M 18 4)).toNatClampNeg v1) fun M1 =>
    am_ok 60 ((fI M1 18 4)) <|
    am_lt (wJ M1 21 ((fI M1 18 4)).toNatClampNeg w2) fun M2 =>
    am_ok 60 ((fI M2 18 4)) <|
    am_lt (wI M2 20 ((fI M2 18 4)).toNatClampNeg ((fI M2 18 0))) fun M3 =>
    am_lt (fW M3 18 4 (((fI M3 18 4) + 1))) fun M4 =>
    am_rt 1 (((fI M4 18 4) - 1)) M4
  else
    am_rt 1 ((-4)) M) = some r) : F 31 0 [.ref 18, .int v1, .long w2] [] M = some r := by
  refine e_Ledger_addName hF ?_
  refine (cl_gI (gk_18 hg)).trans ?_
  rcases iv_ite h with ⟨hc, h⟩ | ⟨hc, h⟩
  · refine (if_pos hc).trans ?_
    refine (cl_gR (gk_18 hg) (gr_18_1 hg)).trans ?_
    refine (cl_gI (gk_18 hg)).trans ?_
    obtain ⟨k1, h⟩ := iv_ok h; refine (cl_is (gk_19 hg) k1).trans ?_
    replace h := iv_lt h
    refine (cl_gR (gk_18 hg) (gr_18_3 hg)).trans ?_
    refine (cl_gI (gk_18 hg)).trans ?_
    obtain ⟨k2, h⟩ := iv_ok h; refine (cl_ls (gk_21 hg) k2).trans ?_
    replace h := iv_lt h
    refine (cl_gR (gk_18 hg) (gr_18_2 hg)).trans ?_
    refine (cl_gI (gk_18 hg)).trans ?_
    refine (cl_gI (gk_18 hg)).trans ?_
    obtain ⟨k3, h⟩ := iv_ok h; refine (cl_is (gk_20 hg) k3).trans ?_
    replace h := iv_lt h
    refine (cl_gI (gk_18 hg)).trans ?_
    refine (cl_pI (gk_18 hg)).trans ?_
    replace h := iv_lt h
    refine (cl_gI (gk_18 hg)).trans ?_
    exact h
  · refine (if_neg hc).trans ?_
    exact h
theorem s_Ledger_addShut {g : am_G} {F : am_FT} (hF : F = am_F T0 g) (hg : GG g) {v1 : Int32} {v2 : Int32} {v3 : Int32} {M : am_M} {r : am_R} (h : (
  if (fI M 18 9) < 40 then
    am_ok 40 ((fI M 18 9)) <|
    am_lt (wI M 22 ((fI M 18 9)).toNatClampNeg v1) fun M1 =>
    am_ok 40 ((fI M1 18 9)) <|
    am_lt (wI M1 23 ((fI M1 18 9)).toNatClampNeg v2) fun M2 =>
    am_ok 40 ((fI M2 18 9)) <|
    am_lt (wI M2 24 ((fI M2 18 9)).toNatClampNeg v3) fun M3 =>
    am_ok 40 ((fI M3 18 9)) <|
    am_lt (wI M3 25 ((fI M3 18 9)).toNatClampNeg ((fI M3 18 0))) fun M4 =>
    am_lt (fW M4 18 9 (((fI M4 18 9) + 1))) fun M5 =>
    am_rt 1 (((fI M5 18 9) - 1)) M5
  else
    am_rt 1 ((-4)) M) = some r) : F 32 0 [.ref 18, .int v1, .int v2, .int v3] [] M = some r := by
  refine e_Ledger_addShut hF ?_
  refine (cl_gI (gk_18 hg)).trans ?_
  rcases iv_ite h with ⟨hc, h⟩ | ⟨hc, h⟩
  · refine (if_pos hc).trans ?_
    refine (cl_gR (gk_18 hg) (gr_18_5 hg)).trans ?_
    refine (cl_gI (gk_18 hg)).trans ?_
    obtain ⟨k1, h⟩ := iv_ok h; refine (cl_is (gk_22 hg) k1).trans ?_
    replace h := iv_lt h
    refine (cl_gR (gk_18 hg) (gr_18_6 hg)).trans ?_
    refine (cl_gI (gk_18 hg)).trans ?_
    obtain ⟨k2, h⟩ := iv_ok h; refine (cl_is (gk_23 hg) k2).trans ?_
    replace h := iv_lt h
    refine (cl_gR (gk_18 hg) (gr_18_7 hg)).trans ?_
    refine (cl_gI (gk_18 hg)).trans ?_
    obtain ⟨k3, h⟩ := iv_ok h; refine (cl_is (gk_24 hg) k3).trans ?_
    replace h := iv_lt h
    refine (cl_gR (gk_18 hg) (gr_18_8 hg)).trans ?_
    refine (cl_gI (gk_18 hg)).trans ?_
    refine (cl_gI (gk_18 hg)).trans ?_
    obtain ⟨k4, h⟩ := iv_ok h; refine (cl_is (gk_25 hg) k4).trans ?_
    replace h := iv_lt h
    refine (cl_gI (gk_18 hg)).trans ?_
    refine (cl_pI (gk_18 hg)).trans ?_
    replace h := iv_lt h
    refine (cl_gI (gk_18 hg)).trans ?_
    exact h
  · refine (if_neg hc).trans ?_
    exact h
theorem s_Ledger_answersTo {g : am_G} {F : am_FT} (hF : F = am_F T0 g) (hg : GG g) {v1 : Int32} {w2 : Int64} {v4 : Int32} {M : am_M} {r : am_R} (h : (
  F 33 3 [.ref 18, .int v1, .long w2, .int v4, .int 0] [] M) = some r) : F 33 0 [.ref 18, .int v1, .long w2, .int v4] [] M = some r := by
  refine e_Ledger_answersTo hF ?_
  exact h
theorem s_Ledger_answersTo_3 {g : am_G} {F : am_FT} (hF : F = am_F T0 g) (hg : GG g) {v1 : Int32} {w2 : Int64} {v4 : Int32} {v5 : Int32} {M : am_M} {r : am_R} (h : (
  if (fI M 18 4) ≤ v5 then
    am_rt 2 0 M
  else
    am_ok 60 v5 <|
    if (rI M 19 v5.toNatClampNeg) = v1 then
      am_ok 60 v5 <|
      if (lg_cmp ((rJ M 21 v5.toNatClampNeg)) w2) = 0 then
        am_ok 60 v5 <|
        if v4 < (rI M 20 v5.toNatClampNeg) then
          F 33 3 [.ref 18, .int v1, .long w2, .int v4, .int (v5 + 1)] [] M
        else
          am_rt 2 1 M
      else
        F 33 3 [.ref 18, .int v1, .long w2, .int v4, .int (v5 + 1)] [] M
    else
      F 33 3 [.ref 18, .int v1, .long w2, .int v4, .int (v5 + 1)] [] M) = some r) : F 33 3 [.ref 18, .int v1, .long w2, .int v4, .int v5] [] M = some r := by
  refine e_Ledger_answersTo_3 hF ?_
  refine (cl_gI (gk_18 hg)).trans ?_
  rcases iv_ite h with ⟨hc, h⟩ | ⟨hc, h⟩
  · refine (if_pos hc).trans ?_
    exact h
  · refine (if_neg hc).trans ?_
    refine (cl_gR (gk_18 hg) (gr_18_1 hg)).trans ?_
    obtain ⟨k1, h⟩ := iv_ok h; refine (cl_ia (gk_19 hg) k1).trans ?_
    rcases iv_ite h with ⟨hc, h⟩ | ⟨hc, h⟩
    · refine (if_pos hc).trans ?_
      refine (cl_gR (gk_18 hg) (gr_18_3 hg)).trans ?_
      obtain ⟨k2, h⟩ := iv_ok h; refine (cl_la (gk_21 hg) k2).trans ?_
      rcases iv_ite h with ⟨hc, h⟩ | ⟨hc, h⟩
      · refine (if_pos hc).trans ?_
        refine (cl_gR (gk_18 hg) (gr_18_2 hg)).trans ?_
        obtain ⟨k3, h⟩ := iv_ok h; refine (cl_ia (gk_20 hg) k3).trans ?_
        rcases iv_ite h with ⟨hc, h⟩ | ⟨hc, h⟩
        · refine (if_pos hc).trans ?_
          exact h
        · refine (if_neg hc).trans ?_
          exact h
      · refine (if_neg hc).trans ?_
        exact h
    · refine (if_neg hc).trans ?_
      exact h
theorem s_Ledger_isBanOn {g : am_G} {F : am_FT} (hF : F = am_F T0 g) (hg : GG g) {v1 : Int32} {v2 : Int32} {v3 : Int32} {M : am_M} {r : am_R} (h : (
  am_ok 40 v1 <|
  if v2 < (rI M 31 v1.toNatClampNeg) then
    am_rt 2 0 M
  else
    am_ok 40 v1 <|
    am_dv 7 <|
    if (((rI M 30 v1.toNatClampNeg) >>> ((v2 - v2 / 7 * 7) &&& 31)) &&& 1) = 1 then
      am_ok 40 v1 <|
      if v3 < (rI M 28 v1.toNatClampNeg) then
        am_rt 2 0 M
      else
        am_ok 40 v1 <|
        if (rI M 29 v1.toNatClampNeg) ≤ v3 then
          am_rt 2 0 M
        else
          am_rt 2 1 M
    else
      am_rt 2 0 M) = some r) : F 34 0 [.ref 18, .int v1, .int v2, .int v3] [] M = some r := by
  refine e_Ledger_isBanOn hF ?_
  refine (cl_gR (gk_18 hg) (gr_18_15 hg)).trans ?_
  obtain ⟨k1, h⟩ := iv_ok h; refine (cl_ia (gk_31 hg) k1).trans ?_
  rcases iv_ite h with ⟨hc, h⟩ | ⟨hc, h⟩
  · refine (if_pos hc).trans ?_
    exact h
  · refine (if_neg hc).trans ?_
    refine (cl_gR (gk_18 hg) (gr_18_14 hg)).trans ?_
    obtain ⟨k2, h⟩ := iv_ok h; refine (cl_ia (gk_30 hg) k2).trans ?_
    obtain ⟨k3, h⟩ := iv_dv h; refine (cl_dv k3).trans ?_
    rcases iv_ite h with ⟨hc, h⟩ | ⟨hc, h⟩
    · refine (if_pos hc).trans ?_
      refine (cl_gR (gk_18 hg) (gr_18_12 hg)).trans ?_
      obtain ⟨k4, h⟩ := iv_ok h; refine (cl_ia (gk_28 hg) k4).trans ?_
      rcases iv_ite h with ⟨hc, h⟩ | ⟨hc, h⟩
      · refine (if_pos hc).trans ?_
        exact h
      · refine (if_neg hc).trans ?_
        refine (cl_gR (gk_18 hg) (gr_18_13 hg)).trans ?_
        obtain ⟨k5, h⟩ := iv_ok h; refine (cl_ia (gk_29 hg) k5).trans ?_
        rcases iv_ite h with ⟨hc, h⟩ | ⟨hc, h⟩
        · refine (if_pos hc).trans ?_
          exact h
        · refine (if_neg hc).trans ?_
          exact h
    · refine (if_neg hc).trans ?_
      exact h
theorem s_Ledger_isShut {g : am_G} {F : am_FT} (hF : F = am_F T0 g) (hg : GG g) {v1 : Int32} {v2 : Int32} {v3 : Int32} {M : am_M} {r : am_R} (h : (
  F 35 3 [.ref 18, .int v1, .int v2, .int v3, .int 0] [] M) = some r) : F 35 0 [.ref 18, .int v1, .int v2, .int v3] [] M = some r := by
  refine e_Ledger_isShut hF ?_
  exact h
theorem s_Ledger_isShut_3 {g : am_G} {F : am_FT} (hF : F = am_F T0 g) (hg : GG g) {v1 : Int32} {v2 : Int32} {v3 : Int32} {v4 : Int32} {M : am_M} {r : am_R} (h : (
  if (fI M 18 9) ≤ v4 then
    am_rt 2 0 M
  else
    am_ok 40 v4 <|
    if (rI M 22 v4.toNatClampNeg) = v1 then
      am_ok 40 v4 <|
      if v3 < (rI M 25 v4.toNatClampNeg) then
        F 35 3 [.ref 18, .int v1, .int v2, .int v3, .int (v4 + 1)] [] M
      else
        am_ok 40 v4 <|
        if v2 < (rI M 23 v4.toNatClampNeg) then
          F 35 3 [.ref 18, .int v1, .int v2, .int v3, .int (v4 + 1)] [] M
        else
          am_ok 40 v4 <|
          if (rI M 24 v4.toNatClampNeg) ≤ v2 then
            F 35 3 [.ref 18, .int v1, .int v2, .int v3, .int (v4 + 1)] [] M
          else
            am_rt 2 1 M
    else
      F 35 3 [.ref 18, .int v1, .int v2, .int v3, .int (v4 + 1)] [] M) = some r) : F 35 3 [.ref 18, .int v1, .int v2, .int v3, .int v4] [] M = some r := by
  refine e_Ledger_isShut_3 hF ?_
  refine (cl_gI (gk_18 hg)).trans ?_
  rcases iv_ite h with ⟨hc, h⟩ | ⟨hc, h⟩
  · refine (if_pos hc).trans ?_
    exact h
  · refine (if_neg hc).trans ?_
    refine (cl_gR (gk_18 hg) (gr_18_5 hg)).trans ?_
    obtain ⟨k1, h⟩ := iv_ok h; refine (cl_ia (gk_22 hg) k1).trans ?_
    rcases iv_ite h with ⟨hc, h⟩ | ⟨hc, h⟩
    · refine (if_pos hc).trans ?_
      refine (cl_gR (gk_18 hg) (gr_18_8 hg)).trans ?_
      obtain ⟨k2, h⟩ := iv_ok h; refine (cl_ia (gk_25 hg) k2).trans ?_
      rcases iv_ite h with ⟨hc, h⟩ | ⟨hc, h⟩
      · refine (if_pos hc).trans ?_
        exact h
      · refine (if_neg hc).trans ?_
        refine (cl_gR (gk_18 hg) (gr_18_6 hg)).trans ?_
        obtain ⟨k3, h⟩ := iv_ok h; refine (cl_ia (gk_23 hg) k3).trans ?_
        rcases iv_ite h with ⟨hc, h⟩ | ⟨hc, h⟩
        · refine (if_pos hc).trans ?_
          exact h
        · refine (if_neg hc).trans ?_
          refine (cl_gR (gk_18 hg) (gr_18_7 hg)).trans ?_
          obtain ⟨k4, h⟩ := iv_ok h; refine (cl_ia (gk_24 hg) k4).trans ?_
          rcases iv_ite h with ⟨hc, h⟩ | ⟨hc, h⟩
          · refine (if_pos hc).trans ?_
            exact h
          · refine (if_neg hc).trans ?_
            exact h
    · refine (if_neg hc).trans ?_
      exact h
theorem s_Links_chooseRow {g : am_G} {F : am_FT} (hF : F = am_F T0 g) (hg : GG g) {v1 : Int32} {v2 : Int32} {M : am_M} {r : am_R} (h : (
  F 36 7 [.ref 42, .int v1, .int (v2 - 1)] [] M) = some r) : F 36 0 [.ref 42, .int v1, .int v2] [] M = some r := by
  refine e_Links_chooseRow hF ?_
  exact h
theorem s_Links_chooseRow_7 {g : am_G} {F : am_FT} (hF : F = am_F T0 g) (hg : GG g) {v3 : Int32} {v4 : Int32} {M : am_M} {r : am_R} (h : (
  if v4 < 0 then
    some (none, M)
  else
    if (fI M 42 7) ≤ 0 then
      some (none, M)
    else
      am_dv (fI M 42 7) <|
      am_ok 4 v4 <|
      am_lt (wI M 60 v4.toNatClampNeg ((v3 - v3 / (fI M 42 7) * (fI M 42 7)))) fun M1 =>
      am_dv (fI M1 42 7) <|
      F 36 7 [.ref 42, .int (v3 / (fI M1 42 7)), .int (v4 + (-1))] [] M1) = some r) : F 36 7 [.ref 42, .int v3, .int v4] [] M = some r := by
  refine e_Links_chooseRow_7 hF ?_
  rcases iv_ite h with ⟨hc, h⟩ | ⟨hc, h⟩
  · refine (if_pos hc).trans ?_
    exact h
  · refine (if_neg hc).trans ?_
    refine (cl_gI (gk_42 hg)).trans ?_
    rcases iv_ite h with ⟨hc, h⟩ | ⟨hc, h⟩
    · refine (if_pos hc).trans ?_
      exact h
    · refine (if_neg hc).trans ?_
      refine (cl_gR (gk_42 hg) (gr_42_9 hg)).trans ?_
      refine (cl_gI (gk_42 hg)).trans ?_
      obtain ⟨k1, h⟩ := iv_dv h; refine (cl_dv k1).trans ?_
      obtain ⟨k2, h⟩ := iv_ok h; refine (cl_is (gk_60 hg) k2).trans ?_
      replace h := iv_lt h
      refine (cl_gI (gk_42 hg)).trans ?_
      obtain ⟨k3, h⟩ := iv_dv h; refine (cl_dv k3).trans ?_
      exact h
theorem s_Links_gather {g : am_G} {F : am_FT} (hF : F = am_F T0 g) (hg : GG g) {v1 : Int32} {M : am_M} {r : am_R} (h : (
  am_lt (fW M 42 7 0) fun M1 =>
  F 37 7 [.ref 42, .int v1, .int 0] [] M1) = some r) : F 37 0 [.ref 42, .int v1] [] M = some r := by
  refine e_Links_gather hF ?_
  refine (cl_pI (gk_42 hg)).trans ?_
  replace h := iv_lt h
  exact h
theorem s_Links_gather_7 {g : am_G} {F : am_FT} (hF : F = am_F T0 g) (hg : GG g) {v1 : Int32} {v2 : Int32} {M : am_M} {r : am_R} (h : (
  if (fI M 42 2) ≤ v2 then
    F 37 30 [.ref 42, .int v1, .int 0] [] M
  else
    am_ok 200 v2 <|
    am_lt (wI M 59 v2.toNatClampNeg 0) fun M1 =>
    F 37 7 [.ref 42, .int v1, .int (v2 + 1)] [] M1) = some r) : F 37 7 [.ref 42, .int v1, .int v2] [] M = some r := by
  refine e_Links_gather_7 hF ?_
  refine (cl_gI (gk_42 hg)).trans ?_
  rcases iv_ite h with ⟨hc, h⟩ | ⟨hc, h⟩
  · refine (if_pos hc).trans ?_
    exact h
  · refine (if_neg hc).trans ?_
    refine (cl_gR (gk_42 hg) (gr_42_8 hg)).trans ?_
    obtain ⟨k1, h⟩ := iv_ok h; refine (cl_is (gk_59 hg) k1).trans ?_
    replace h := iv_lt h
    exact h
theorem s_Links_gather_30 {g : am_G} {F : am_FT} (hF : F = am_F T0 g) (hg : GG g) {v1 : Int32} {v2 : Int32} {M : am_M} {r : am_R} (h : (
  if 10 ≤ v2 then
    some (none, M)
  else
    if 4 ≤ (fI M 42 7) then
      some (none, M)
    else
      if ((v1 >>> (v2 &&& 31)) &&& 1) = 0 then
        F 37 30 [.ref 42, .int v1, .int (v2 + 1)] [] M
      else
        F 37 57 [.ref 42, .int v1, .int v2, .int 0] [] M) = some r) : F 37 30 [.ref 42, .int v1, .int v2] [] M = some r := by
  refine e_Links_gather_30 hF ?_
  rcases iv_ite h with ⟨hc, h⟩ | ⟨hc, h⟩
  · refine (if_pos hc).trans ?_
    exact h
  · refine (if_neg hc).trans ?_
    refine (cl_gI (gk_42 hg)).trans ?_
    rcases iv_ite h with ⟨hc, h⟩ | ⟨hc, h⟩
    · refine (if_pos hc).trans ?_
      exact h
    · refine (if_neg hc).trans ?_
      rcases iv_ite h with ⟨hc, h⟩ | ⟨hc, h⟩
      · refine (if_pos hc).trans ?_
        exact h
      · refine (if_neg hc).trans ?_
        exact h
theorem s_Links_gather_57 {g : am_G} {F : am_FT} (hF : F = am_F T0 g) (hg : GG g) {v1 : Int32} {v2 : Int32} {v3 : Int32} {M : am_M} {r : am_R} (h : (
  am_ok 10 v2 <|
  if (rI M 57 v2.toNatClampNeg) ≤ v3 then
    am_ok 4 ((fI M 42 7)) <|
    am_lt (wI M 58 ((fI M 42 7)).toNatClampNeg v2) fun M1 =>
    am_lt (fW M1 42 7 (((fI M1 42 7) + 1))) fun M2 =>
    F 37 30 [.ref 42, .int v1, .int (v2 + 1)] [] M2
  else
    am_ok 10 v2 <|
    am_ok 20 v3 <|
    am_ok 200 ((rI M (47 + 1 * v2.toNatClampNeg) v3.toNatClampNeg)) <|
    am_ok 200 ((rI M (47 + 1 * v2.toNatClampNeg) v3.toNatClampNeg)) <|
    am_lt (wI M 59 ((rI M (47 + 1 * v2.toNatClampNeg) v3.toNatClampNeg)).toNatClampNeg (((rI M 59 ((rI M (47 + 1 * v2.toNatClampNeg) v3.toNatClampNeg)).toNatClampNeg) ||| ((1 : Int32) <<< ((fI M 42 7) &&& 31))))) fun M3 =>
    F 37 57 [.ref 42, .int v1, .int v2, .int (v3 + 1)] [] M3) = some r) : F 37 57 [.ref 42, .int v1, .int v2, .int v3] [] M = some r := by
  refine e_Links_gather_57 hF ?_
  refine (cl_gR (gk_42 hg) (gr_42_5 hg)).trans ?_
  obtain ⟨k1, h⟩ := iv_ok h; refine (cl_ia (gk_57 hg) k1).trans ?_
  rcases iv_ite h with ⟨hc, h⟩ | ⟨hc, h⟩
  · refine (if_pos hc).trans ?_
    refine (cl_gR (gk_42 hg) (gr_42_6 hg)).trans ?_
    refine (cl_gI (gk_42 hg)).trans ?_
    obtain ⟨k2, h⟩ := iv_ok h; refine (cl_is (gk_58 hg) k2).trans ?_
    replace h := iv_lt h
    refine (cl_gI (gk_42 hg)).trans ?_
    refine (cl_pI (gk_42 hg)).trans ?_
    replace h := iv_lt h
    exact h
  · refine (if_neg hc).trans ?_
    refine (cl_gR (gk_42 hg) (gr_42_8 hg)).trans ?_
    refine (cl_gR (gk_42 hg) (gr_42_4 hg)).trans ?_
    obtain ⟨k3, h⟩ := iv_ok h; refine (cl_qa (gk_46 hg) (by decide) (by decide) k3 (gq_46 hg k3)).trans ?_
    have k4 := go_46 hg k3
    obtain ⟨k5, h⟩ := iv_ok h; refine (cl_ia k4 k5).trans ?_
    obtain ⟨k6, h⟩ := iv_ok h; refine (cl_ia (gk_59 hg) k6).trans ?_
    refine (cl_gI (gk_42 hg)).trans ?_
    obtain ⟨k7, h⟩ := iv_ok h; refine (cl_is (gk_59 hg) k7).trans ?_
    replace h := iv_lt h
    exact h
theorem s_Links_isInRun {g : am_G} {F : am_FT} (hF : F = am_F T0 g) (hg : GG g) {v1 : Int32} {v2 : Int32} {M : am_M} {r : am_R} (h : (
  F 38 2 [.ref 42, .int v1, .int v2, .int 0] [] M) = some r) : F 38 0 [.ref 42, .int v1, .int v2] [] M = some r := by
  refine e_Links_isInRun hF ?_
  exact h
theorem s_Links_isInRun_2 {g : am_G} {F : am_FT} (hF : F = am_F T0 g) (hg : GG g) {v1 : Int32} {v2 : Int32} {v3 : Int32} {M : am_M} {r : am_R} (h : (
  am_ok 10 v1 <|
  if (rI M 57 v1.toNatClampNeg) ≤ v3 then
    am_rt 2 0 M
  else
    am_ok 10 v1 <|
    am_ok 20 v3 <|
    if (rI M (47 + 1 * v1.toNatClampNeg) v3.toNatClampNeg) = v2 then
      am_rt 2 1 M
    else
      F 38 2 [.ref 42, .int v1, .int v2, .int (v3 + 1)] [] M) = some r) : F 38 2 [.ref 42, .int v1, .int v2, .int v3] [] M = some r := by
  refine e_Links_isInRun_2 hF ?_
  refine (cl_gR (gk_42 hg) (gr_42_5 hg)).trans ?_
  obtain ⟨k1, h⟩ := iv_ok h; refine (cl_ia (gk_57 hg) k1).trans ?_
  rcases iv_ite h with ⟨hc, h⟩ | ⟨hc, h⟩
  · refine (if_pos hc).trans ?_
    exact h
  · refine (if_neg hc).trans ?_
    refine (cl_gR (gk_42 hg) (gr_42_4 hg)).trans ?_
    obtain ⟨k2, h⟩ := iv_ok h; refine (cl_qa (gk_46 hg) (by decide) (by decide) k2 (gq_46 hg k2)).trans ?_
    have k3 := go_46 hg k2
    obtain ⟨k4, h⟩ := iv_ok h; refine (cl_ia k3 k4).trans ?_
    rcases iv_ite h with ⟨hc, h⟩ | ⟨hc, h⟩
    · refine (if_pos hc).trans ?_
      exact h
    · refine (if_neg hc).trans ?_
      exact h
theorem s_Links_numberOf {g : am_G} {F : am_FT} (hF : F = am_F T0 g) (hg : GG g) {v1 : Int32} {v2 : Int32} {M : am_M} {r : am_R} (h : (
  am_ok 6400 (((v1 * 80) + v2)) <|
  am_rt 1 (((rI M 45 (((v1 * 80) + v2)).toNatClampNeg) - 1)) M) = some r) : F 39 0 [.ref 42, .int v1, .int v2] [] M = some r := by
  refine e_Links_numberOf hF ?_
  refine (cl_gR (gk_42 hg) (gr_42_3 hg)).trans ?_
  obtain ⟨k1, h⟩ := iv_ok h; refine (cl_ia (gk_45 hg) k1).trans ?_
  exact h
theorem s_Route_add {g : am_G} {F : am_FT} (hF : F = am_F T0 g) (hg : GG g) {a0 : Nat} {v1 : Int32} {M : am_M} (h0 : isRt g a0) {r : am_R} (h : (
  if 81 ≤ (fI M a0 5) then
    some (none, M)
  else
    am_ok 81 ((fI M a0 5)) <|
    am_lt (wI M (a0 + 1) ((fI M a0 5)).toNatClampNeg v1) fun M1 =>
    am_lt (fW M1 a0 5 (((fI M1 a0 5) + 1))) fun M2 =>
    some (none, M2)) = some r) : F 66 0 [.ref a0, .int v1] [] M = some r := by
  refine e_Route_add hF ?_
  refine (cl_gI h0.1).trans ?_
  rcases iv_ite h with ⟨hc, h⟩ | ⟨hc, h⟩
  · refine (if_pos hc).trans ?_
    exact h
  · refine (if_neg hc).trans ?_
    refine (cl_gR h0.1 h0.2.1).trans ?_
    refine (cl_gI h0.1).trans ?_
    obtain ⟨k1, h⟩ := iv_ok h; refine (cl_is h0.2.2 k1).trans ?_
    replace h := iv_lt h
    refine (cl_gI h0.1).trans ?_
    refine (cl_pI h0.1).trans ?_
    replace h := iv_lt h
    exact h
theorem s_Route_begin {g : am_G} {F : am_FT} (hF : F = am_F T0 g) (hg : GG g) {a0 : Nat} {v1 : Int32} {v2 : Int32} {M : am_M} (h0 : isRt g a0) {r : am_R} (h : (
  am_lt (fW M a0 0 v1) fun M1 =>
  am_lt (fW M1 a0 1 v2) fun M2 =>
  am_lt (fW M2 a0 5 0) fun M3 =>
  some (none, M3)) = some r) : F 67 0 [.ref a0, .int v1, .int v2] [] M = some r := by
  refine e_Route_begin hF ?_
  refine (cl_pI h0.1).trans ?_
  replace h := iv_lt h
  refine (cl_pI h0.1).trans ?_
  replace h := iv_lt h
  refine (cl_pI h0.1).trans ?_
  replace h := iv_lt h
  exact h
theorem s_Route_isLike {g : am_G} {F : am_FT} (hF : F = am_F T0 g) (hg : GG g) {a0 : Nat} {a1 : Nat} {M : am_M} (h0 : isRt g a0) (h1 : isRt g a1) {r : am_R} (h : (
  if (fI M a0 5) = (fI M a1 5) then
    F 68 15 [.ref a0, .ref a1, .int 0] [] M
  else
    am_rt 2 0 M) = some r) : F 68 0 [.ref a0, .ref a1] [] M = some r := by
  refine e_Route_isLike hF ?_
  refine (cl_gI h0.1).trans ?_
  refine (cl_gI h1.1).trans ?_
  rcases iv_ite h with ⟨hc, h⟩ | ⟨hc, h⟩
  · refine (if_pos hc).trans ?_
    exact h
  · refine (if_neg hc).trans ?_
    exact h
theorem s_Route_isLike_15 {g : am_G} {F : am_FT} (hF : F = am_F T0 g) (hg : GG g) {a0 : Nat} {a1 : Nat} {v2 : Int32} {M : am_M} (h0 : isRt g a0) (h1 : isRt g a1) {r : am_R} (h : (
  if (fI M a0 5) ≤ v2 then
    am_rt 2 1 M
  else
    am_ok 81 v2 <|
    am_ok 81 v2 <|
    if (rI M (a0 + 1) v2.toNatClampNeg) = (rI M (a1 + 1) v2.toNatClampNeg) then
      F 68 15 [.ref a0, .ref a1, .int (v2 + 1)] [] M
    else
      am_rt 2 0 M) = some r) : F 68 15 [.ref a0, .ref a1, .int v2] [] M = some r := by
  refine e_Route_isLike_15 hF ?_
  refine (cl_gI h0.1).trans ?_
  rcases iv_ite h with ⟨hc, h⟩ | ⟨hc, h⟩
  · refine (if_pos hc).trans ?_
    exact h
  · refine (if_neg hc).trans ?_
    refine (cl_gR h0.1 h0.2.1).trans ?_
    obtain ⟨k1, h⟩ := iv_ok h; refine (cl_ia h0.2.2 k1).trans ?_
    refine (cl_gR h1.1 h1.2.1).trans ?_
    obtain ⟨k2, h⟩ := iv_ok h; refine (cl_ia h1.2.2 k2).trans ?_
    rcases iv_ite h with ⟨hc, h⟩ | ⟨hc, h⟩
    · refine (if_pos hc).trans ?_
      exact h
    · refine (if_neg hc).trans ?_
      exact h
theorem s_Route_setTime {g : am_G} {F : am_FT} (hF : F = am_F T0 g) (hg : GG g) {a0 : Nat} {v1 : Int32} {v2 : Int32} {M : am_M} (h0 : isRt g a0) {r : am_R} (h : (
  am_lt (fW M a0 2 v1) fun M1 =>
  am_lt (fW M1 a0 3 v2) fun M2 =>
  some (none, M2)) = some r) : F 69 0 [.ref a0, .int v1, .int v2] [] M = some r := by
  refine e_Route_setTime hF ?_
  refine (cl_pI h0.1).trans ?_
  replace h := iv_lt h
  refine (cl_pI h0.1).trans ?_
  replace h := iv_lt h
  exact h
theorem s_Rule_signOf {g : am_G} {F : am_FT} (hF : F = am_F T0 g) (hg : GG g) {v0 : Int32} {M : am_M} {r : am_R} (h : (
  if v0 = 0 then
    am_rt 1 0 M
  else
    if 0 ≤ v0 then
      am_rt 1 1 M
    else
      am_rt 1 ((-1)) M) = some r) : F 70 0 [.int v0] [] M = some r := by
  refine e_Rule_signOf hF ?_
  rcases iv_ite h with ⟨hc, h⟩ | ⟨hc, h⟩
  · refine (if_pos hc).trans ?_
    exact h
  · refine (if_neg hc).trans ?_
    rcases iv_ite h with ⟨hc, h⟩ | ⟨hc, h⟩
    · refine (if_pos hc).trans ?_
      exact h
    · refine (if_neg hc).trans ?_
      exact h
theorem s_RunSayer_count {g : am_G} {F : am_FT} (hF : F = am_F T0 g) (hg : GG g) {v1 : Int32} {M : am_M} {r : am_R} (h : (
  if v1 = 0 then
    am_rt 1 ((fI M 1 3)) M
  else
  if v1 = 1 then
    am_rt 1 ((fI M 1 7)) M
  else
  if v1 = 2 then
    am_rt 1 ((fI M 1 14)) M
  else
  if v1 = 3 then
    am_rt 1 ((fI M 18 0)) M
  else
  if v1 = 4 then
    am_rt 1 ((fI M 18 4)) M
  else
  if v1 = 5 then
    am_rt 1 ((fI M 18 9)) M
  else
  if v1 = 6 then
    am_rt 1 ((fI M 18 16)) M
  else
  if v1 = 7 then
    am_rt 1 ((fI M 0 9)) M
  else
  if v1 = 8 then
    am_rt 1 ((fI M 0 11)) M
  else
  if v1 = 9 then
    am_rt 1 ((fI M 0 15)) M
  else
  if v1 = 10 then
    am_rt 1 ((fI M 0 13)) M
  else
  if v1 = 11 then
    am_rt 1 ((fI M 61 1)) M
  else
  if v1 = 12 then
    am_rt 1 ((fI M 0 19)) M
  else
  if v1 = 13 then
    am_rt 1 ((fI M 1 17)) M
  else
    am_rt 1 ((-2)) M) = some r) : F 71 0 [.ref 0, .int v1] [] M = some r := by
  refine e_RunSayer_count hF ?_
  rcases iv_ite h with ⟨hc, h⟩ | ⟨hc, h⟩
  · refine (if_pos hc).trans ?_
    refine (cl_gR (gk_0 hg) (gr_0_0 hg)).trans ?_
    refine (cl_gI (gk_1 hg)).trans ?_
    exact h
  · refine (if_neg hc).trans ?_
    rcases iv_ite h with ⟨hc, h⟩ | ⟨hc, h⟩
    · refine (if_pos hc).trans ?_
      refine (cl_gR (gk_0 hg) (gr_0_0 hg)).trans ?_
      refine (cl_gI (gk_1 hg)).trans ?_
      exact h
    · refine (if_neg hc).trans ?_
      rcases iv_ite h with ⟨hc, h⟩ | ⟨hc, h⟩
      · refine (if_pos hc).trans ?_
        refine (cl_gR (gk_0 hg) (gr_0_0 hg)).trans ?_
        refine (cl_gI (gk_1 hg)).trans ?_
        exact h
      · refine (if_neg hc).trans ?_
        rcases iv_ite h with ⟨hc, h⟩ | ⟨hc, h⟩
        · refine (if_pos hc).trans ?_
          refine (cl_gR (gk_0 hg) (gr_0_1 hg)).trans ?_
          refine (cl_gI (gk_18 hg)).trans ?_
          exact h
        · refine (if_neg hc).trans ?_
          rcases iv_ite h with ⟨hc, h⟩ | ⟨hc, h⟩
          · refine (if_pos hc).trans ?_
            refine (cl_gR (gk_0 hg) (gr_0_1 hg)).trans ?_
            refine (cl_gI (gk_18 hg)).trans ?_
            exact h
          · refine (if_neg hc).trans ?_
            rcases iv_ite h with ⟨hc, h⟩ | ⟨hc, h⟩
            · refine (if_pos hc).trans ?_
              refine (cl_gR (gk_0 hg) (gr_0_1 hg)).trans ?_
              refine (cl_gI (gk_18 hg)).trans ?_
              exact h
            · refine (if_neg hc).trans ?_
              rcases iv_ite h with ⟨hc, h⟩ | ⟨hc, h⟩
              · refine (if_pos hc).trans ?_
                refine (cl_gR (gk_0 hg) (gr_0_1 hg)).trans ?_
                refine (cl_gI (gk_18 hg)).trans ?_
                exact h
              · refine (if_neg hc).trans ?_
                rcases iv_ite h with ⟨hc, h⟩ | ⟨hc, h⟩
                · refine (if_pos hc).trans ?_
                  refine (cl_gI (gk_0 hg)).trans ?_
                  exact h
                · refine (if_neg hc).trans ?_
                  rcases iv_ite h with ⟨hc, h⟩ | ⟨hc, h⟩
                  · refine (if_pos hc).trans ?_
                    refine (cl_gI (gk_0 hg)).trans ?_
                    exact h
                  · refine (if_neg hc).trans ?_
                    rcases iv_ite h with ⟨hc, h⟩ | ⟨hc, h⟩
                    · refine (if_pos hc).trans ?_
                      refine (cl_gI (gk_0 hg)).trans ?_
                      exact h
                    · refine (if_neg hc).trans ?_
                      rcases iv_ite h with ⟨hc, h⟩ | ⟨hc, h⟩
                      · refine (if_pos hc).trans ?_
                        refine (cl_gI (gk_0 hg)).trans ?_
                        exact h
                      · refine (if_neg hc).trans ?_
                        rcases iv_ite h with ⟨hc, h⟩ | ⟨hc, h⟩
                        · refine (if_pos hc).trans ?_
                          refine (cl_gR (gk_0 hg) (gr_0_4 hg)).trans ?_
                          refine (cl_gI (gk_61 hg)).trans ?_
                          exact h
                        · refine (if_neg hc).trans ?_
                          rcases iv_ite h with ⟨hc, h⟩ | ⟨hc, h⟩
                          · refine (if_pos hc).trans ?_
                            refine (cl_gI (gk_0 hg)).trans ?_
                            exact h
                          · refine (if_neg hc).trans ?_
                            rcases iv_ite h with ⟨hc, h⟩ | ⟨hc, h⟩
                            · refine (if_pos hc).trans ?_
                              refine (cl_gR (gk_0 hg) (gr_0_0 hg)).trans ?_
                              refine (cl_gI (gk_1 hg)).trans ?_
                              exact h
                            · refine (if_neg hc).trans ?_
                              exact h
theorem s_RunSayer_outside {g : am_G} {F : am_FT} (hF : F = am_F T0 g) (hg : GG g) {v0 : Int32} {v1 : Int32} {v2 : Int32} {M : am_M} {r : am_R} (h : (
  if v0 < v1 then
    am_rt 2 1 M
  else
    if v0 ≤ v2 then
      am_rt 2 0 M
    else
      am_rt 2 1 M) = some r) : F 72 0 [.int v0, .int v1, .int v2] [] M = some r := by
  refine e_RunSayer_outside hF ?_
  rcases iv_ite h with ⟨hc, h⟩ | ⟨hc, h⟩
  · refine (if_pos hc).trans ?_
    exact h
  · refine (if_neg hc).trans ?_
    rcases iv_ite h with ⟨hc, h⟩ | ⟨hc, h⟩
    · refine (if_pos hc).trans ?_
      exact h
    · refine (if_neg hc).trans ?_
      exact h
theorem s_Sheet_become {g : am_G} {F : am_FT} (hF : F = am_F T0 g) (hg : GG g) {a0 : Nat} {v1 : Int32} {v2 : Int32} {M : am_M} (h0 : isSh g a0) {r : am_R} (h : (
  am_lt (fW M a0 0 v1) fun M1 =>
  am_lt (fW M1 a0 1 v2) fun M2 =>
  F 73 12 [.ref a0, .int 0] [] M2) = some r) : F 73 0 [.ref a0, .int v1, .int v2] [] M = some r := by
  refine e_Sheet_become hF ?_
  refine (cl_pI h0.1).trans ?_
  replace h := iv_lt h
  refine (cl_pI h0.1).trans ?_
  replace h := iv_lt h
  exact h
theorem s_Sheet_become_12 {g : am_G} {F : am_FT} (hF : F = am_F T0 g) (hg : GG g) {a0 : Nat} {v3 : Int32} {M : am_M} (h0 : isSh g a0) {r : am_R} (h : (
  if 100 ≤ v3 then
    some (none, M)
  else
    am_ok 100 v3 <|
    am_lt (wI M (a0 + 1) v3.toNatClampNeg 0) fun M1 =>
    F 73 12 [.ref a0, .int (v3 + 1)] [] M1) = some r) : F 73 12 [.ref a0, .int v3] [] M = some r := by
  refine e_Sheet_become_12 hF ?_
  rcases iv_ite h with ⟨hc, h⟩ | ⟨hc, h⟩
  · refine (if_pos hc).trans ?_
    exact h
  · refine (if_neg hc).trans ?_
    refine (cl_gR h0.1 h0.2.1).trans ?_
    obtain ⟨k1, h⟩ := iv_ok h; refine (cl_is h0.2.2 k1).trans ?_
    replace h := iv_lt h
    exact h
theorem s_Sheet_hasRow {g : am_G} {F : am_FT} (hF : F = am_F T0 g) (hg : GG g) {a0 : Nat} {v1 : Int32} {v2 : Int32} {M : am_M} (h0 : isSh g a0) {r : am_R} (h : (
  if v1 < 0 then
    am_rt 2 0 M
  else
    if v2 < 0 then
      am_rt 2 0 M
    else
      if (fI M a0 1) < v2 then
        am_rt 2 0 M
      else
        if ((fI M a0 1) - v2) < v1 then
          am_rt 2 0 M
        else
          am_rt 2 1 M) = some r) : F 74 0 [.ref a0, .int v1, .int v2] [] M = some r := by
  refine e_Sheet_hasRow hF ?_
  rcases iv_ite h with ⟨hc, h⟩ | ⟨hc, h⟩
  · refine (if_pos hc).trans ?_
    exact h
  · refine (if_neg hc).trans ?_
    rcases iv_ite h with ⟨hc, h⟩ | ⟨hc, h⟩
    · refine (if_pos hc).trans ?_
      exact h
    · refine (if_neg hc).trans ?_
      refine (cl_gI h0.1).trans ?_
      rcases iv_ite h with ⟨hc, h⟩ | ⟨hc, h⟩
      · refine (if_pos hc).trans ?_
        exact h
      · refine (if_neg hc).trans ?_
        refine (cl_gI h0.1).trans ?_
        rcases iv_ite h with ⟨hc, h⟩ | ⟨hc, h⟩
        · refine (if_pos hc).trans ?_
          exact h
        · refine (if_neg hc).trans ?_
          exact h
theorem s_Sheet_put {g : am_G} {F : am_FT} (hF : F = am_F T0 g) (hg : GG g) {a0 : Nat} {v1 : Int32} {v2 : Int32} {M : am_M} (h0 : isSh g a0) {r : am_R} (h : (
  if (fI M a0 0) = 0 then
    am_ok 100 v1 <|
    am_lt (wI M (a0 + 1) v1.toNatClampNeg v2.toInt8.toInt32) fun M1 =>
    some (none, M1)
  else
  if (fI M a0 0) = 1 then
    am_ok 100 v1 <|
    am_lt (wI M (a0 + 1) v1.toNatClampNeg v2.toInt16.toInt32) fun M2 =>
    some (none, M2)
  else
    am_ok 100 v1 <|
    am_lt (wI M (a0 + 1) v1.toNatClampNeg v2) fun M3 =>
    some (none, M3)) = some r) : F 75 0 [.ref a0, .int v1, .int v2] [] M = some r := by
  refine e_Sheet_put hF ?_
  refine (cl_gI h0.1).trans ?_
  rcases iv_ite h with ⟨hc, h⟩ | ⟨hc, h⟩
  · refine (if_pos hc).trans ?_
    refine (cl_gR h0.1 h0.2.1).trans ?_
    obtain ⟨k1, h⟩ := iv_ok h; refine (cl_is h0.2.2 k1).trans ?_
    replace h := iv_lt h
    exact h
  · refine (if_neg hc).trans ?_
    rcases iv_ite h with ⟨hc, h⟩ | ⟨hc, h⟩
    · refine (if_pos hc).trans ?_
      refine (cl_gR h0.1 h0.2.1).trans ?_
      obtain ⟨k2, h⟩ := iv_ok h; refine (cl_is h0.2.2 k2).trans ?_
      replace h := iv_lt h
      exact h
    · refine (if_neg hc).trans ?_
      refine (cl_gR h0.1 h0.2.1).trans ?_
      obtain ⟨k3, h⟩ := iv_ok h; refine (cl_is h0.2.2 k3).trans ?_
      replace h := iv_lt h
      exact h
theorem s_Speech_turnOf {g : am_G} {F : am_FT} (hF : F = am_F T0 g) (hg : GG g) {w0 : Int64} {M : am_M} {r : am_R} (h : (
  if (lg_cmp w0 1818584692) = 0 then
    am_rt 1 0 M
  else
    if (lg_cmp w0 491394656372) = 0 then
      am_rt 1 1 M
    else
      if (lg_cmp w0 418363302244) = 0 then
        am_rt 1 2 M
      else
        if (lg_cmp w0 109330228604025) = 0 then
          am_rt 1 ((-1)) M
        else
          am_rt 1 ((-2)) M) = some r) : F 76 0 [.long w0] [] M = some r := by
  refine e_Speech_turnOf hF ?_
  rcases iv_ite h with ⟨hc, h⟩ | ⟨hc, h⟩
  · refine (if_pos hc).trans ?_
    exact h
  · refine (if_neg hc).trans ?_
    rcases iv_ite h with ⟨hc, h⟩ | ⟨hc, h⟩
    · refine (if_pos hc).trans ?_
      exact h
    · refine (if_neg hc).trans ?_
      rcases iv_ite h with ⟨hc, h⟩ | ⟨hc, h⟩
      · refine (if_pos hc).trans ?_
        exact h
      · refine (if_neg hc).trans ?_
        rcases iv_ite h with ⟨hc, h⟩ | ⟨hc, h⟩
        · refine (if_pos hc).trans ?_
          exact h
        · refine (if_neg hc).trans ?_
          exact h
theorem s_Tape_append {g : am_G} {F : am_FT} (hF : F = am_F T0 g) (hg : GG g) {w1 : Int64} {v3 : Int32} {M : am_M} {r : am_R} (h : (
  F 77 8 [.ref 61, .long w1, .int (8 * (v3 - 1))] [] M) = some r) : F 77 0 [.ref 61, .long w1, .int v3] [] M = some r := by
  refine e_Tape_append hF ?_
  exact h
theorem s_Tape_append_8 {g : am_G} {F : am_FT} (hF : F = am_F T0 g) (hg : GG g) {w1 : Int64} {v4 : Int32} {M : am_M} {r : am_R} (h : (
  if v4 < 0 then
    some (none, M)
  else
    if 160 ≤ (fI M 61 1) then
      some (none, M)
    else
      am_ok 160 ((fI M 61 1)) <|
      am_lt (wI M 62 ((fI M 61 1)).toNatClampNeg ((((w1.toUInt64 >>> (v4.toInt64.toUInt64 &&& Int64.toUInt64 63)).toInt64).toInt32 &&& 255))) fun M1 =>
      am_lt (fW M1 61 1 (((fI M1 61 1) + 1))) fun M2 =>
      F 77 8 [.ref 61, .long w1, .int (v4 + (-8))] [] M2) = some r) : F 77 8 [.ref 61, .long w1, .int v4] [] M = some r := by
  refine e_Tape_append_8 hF ?_
  rcases iv_ite h with ⟨hc, h⟩ | ⟨hc, h⟩
  · refine (if_pos hc).trans ?_
    exact h
  · refine (if_neg hc).trans ?_
    refine (cl_gI (gk_61 hg)).trans ?_
    rcases iv_ite h with ⟨hc, h⟩ | ⟨hc, h⟩
    · refine (if_pos hc).trans ?_
      exact h
    · refine (if_neg hc).trans ?_
      refine (cl_gR (gk_61 hg) (gr_61_0 hg)).trans ?_
      refine (cl_gI (gk_61 hg)).trans ?_
      obtain ⟨k1, h⟩ := iv_ok h; refine (cl_is (gk_62 hg) k1).trans ?_
      replace h := iv_lt h
      refine (cl_gI (gk_61 hg)).trans ?_
      refine (cl_pI (gk_61 hg)).trans ?_
      replace h := iv_lt h
      exact h
theorem s_Tape_clear {g : am_G} {F : am_FT} (hF : F = am_F T0 g) (hg : GG g) {M : am_M} {r : am_R} (h : (
  am_lt (fW M 61 1 0) fun M1 =>
  some (none, M1)) = some r) : F 78 0 [.ref 61] [] M = some r := by
  refine e_Tape_clear hF ?_
  refine (cl_pI (gk_61 hg)).trans ?_
  replace h := iv_lt h
  exact h
theorem s_Tape_isAtEnd {g : am_G} {F : am_FT} (hF : F = am_F T0 g) (hg : GG g) {M : am_M} {r : am_R} (h : (
  if (fI M 61 2) < (fI M 61 1) then
    am_rt 2 0 M
  else
    am_rt 2 1 M) = some r) : F 79 0 [.ref 61] [] M = some r := by
  refine e_Tape_isAtEnd hF ?_
  refine (cl_gI (gk_61 hg)).trans ?_
  refine (cl_gI (gk_61 hg)).trans ?_
  rcases iv_ite h with ⟨hc, h⟩ | ⟨hc, h⟩
  · refine (if_pos hc).trans ?_
    exact h
  · refine (if_neg hc).trans ?_
    exact h
theorem s_Tape_isDigit {g : am_G} {F : am_FT} (hF : F = am_F T0 g) (hg : GG g) {v0 : Int32} {M : am_M} {r : am_R} (h : (
  if v0 < 48 then
    am_rt 2 0 M
  else
    if 57 < v0 then
      am_rt 2 0 M
    else
      am_rt 2 1 M) = some r) : F 80 0 [.int v0] [] M = some r := by
  refine e_Tape_isDigit hF ?_
  rcases iv_ite h with ⟨hc, h⟩ | ⟨hc, h⟩
  · refine (if_pos hc).trans ?_
    exact h
  · refine (if_neg hc).trans ?_
    rcases iv_ite h with ⟨hc, h⟩ | ⟨hc, h⟩
    · refine (if_pos hc).trans ?_
      exact h
    · refine (if_neg hc).trans ?_
      exact h
theorem s_Tape_isLetter {g : am_G} {F : am_FT} (hF : F = am_F T0 g) (hg : GG g) {v0 : Int32} {M : am_M} {r : am_R} (h : (
  if v0 < 97 then
    am_rt 2 0 M
  else
    if 122 < v0 then
      am_rt 2 0 M
    else
      am_rt 2 1 M) = some r) : F 81 0 [.int v0] [] M = some r := by
  refine e_Tape_isLetter hF ?_
  rcases iv_ite h with ⟨hc, h⟩ | ⟨hc, h⟩
  · refine (if_pos hc).trans ?_
    exact h
  · refine (if_neg hc).trans ?_
    rcases iv_ite h with ⟨hc, h⟩ | ⟨hc, h⟩
    · refine (if_pos hc).trans ?_
      exact h
    · refine (if_neg hc).trans ?_
      exact h
theorem s_Tape_signAt {g : am_G} {F : am_FT} (hF : F = am_F T0 g) (hg : GG g) {v1 : Int32} {M : am_M} {r : am_R} (h : (
  if v1 < 0 then
    am_rt 1 ((-1)) M
  else
    if (fI M 61 1) ≤ v1 then
      am_rt 1 ((-1)) M
    else
      am_ok 160 v1 <|
      am_rt 1 ((rI M 62 v1.toNatClampNeg)) M) = some r) : F 82 0 [.ref 61, .int v1] [] M = some r := by
  refine e_Tape_signAt hF ?_
  rcases iv_ite h with ⟨hc, h⟩ | ⟨hc, h⟩
  · refine (if_pos hc).trans ?_
    exact h
  · refine (if_neg hc).trans ?_
    refine (cl_gI (gk_61 hg)).trans ?_
    rcases iv_ite h with ⟨hc, h⟩ | ⟨hc, h⟩
    · refine (if_pos hc).trans ?_
      exact h
    · refine (if_neg hc).trans ?_
      refine (cl_gR (gk_61 hg) (gr_61_0 hg)).trans ?_
      obtain ⟨k1, h⟩ := iv_ok h; refine (cl_ia (gk_62 hg) k1).trans ?_
      exact h
theorem s_City_addDoor {g : am_G} {F : am_FT} (hF : F = am_F T0 g) (hg : GG g) {v1 : Int32} {v2 : Int32} {v3 : Int32} {M : am_M} {r : am_R} (h : (
  if (fI M 1 14) < 8 then
    am_ok 8 ((fI M 1 14)) <|
    am_lt (wI M 11 ((fI M 1 14)).toNatClampNeg v1) fun M1 =>
    am_ok 8 ((fI M 1 14)) <|
    am_lt (wI M1 12 ((fI M 1 14)).toNatClampNeg v2) fun M2 =>
    am_ok 8 ((fI M 1 14)) <|
    am_lt (wI M2 13 ((fI M 1 14)).toNatClampNeg v3) fun M3 =>
    am_lt (fW M3 1 14 (((fI M3 1 14) + 1))) fun M4 =>
    am_cv (F 1 0 [.ref 1, .int 2, .int (fI M 1 14)] [] M4) fun M5 => /- City_addThing -/
    am_rt 1 ((fI M 1 14)) M5
  else
    am_rt 1 ((-4)) M) = some r) : F 83 0 [.ref 1, .int v1, .int v2, .int v3] [] M = some r := by
  refine e_City_addDoor hF ?_
  refine (cl_gI (gk_1 hg)).trans ?_
  rcases iv_ite h with ⟨hc, h⟩ | ⟨hc, h⟩
  · refine (if_pos hc).trans ?_
    refine (cl_gI (gk_1 hg)).trans ?_
    refine (cl_gR (gk_1 hg) (gr_1_11 hg)).trans ?_
    obtain ⟨k1, h⟩ := iv_ok h; refine (cl_is (gk_11 hg) k1).trans ?_
    replace h := iv_lt h
    refine (cl_gR (gk_1 hg) (gr_1_12 hg)).trans ?_
    obtain ⟨k2, h⟩ := iv_ok h; refine (cl_is (gk_12 hg) k2).trans ?_
    replace h := iv_lt h
    refine (cl_gR (gk_1 hg) (gr_1_13 hg)).trans ?_
    obtain ⟨k3, h⟩ := iv_ok h; refine (cl_is (gk_13 hg) k3).trans ?_
    replace h := iv_lt h
    refine (cl_gI (gk_1 hg)).trans ?_
    refine (cl_pI (gk_1 hg)).trans ?_
    replace h := iv_lt h
    refine (cl_rc (gk_1 hg)).trans ?_
    obtain ⟨M5, k4, h⟩ := iv_cv h; refine (cl_cv k4).trans ?_
    exact h
  · refine (if_neg hc).trans ?_
    exact h
theorem s_City_addJunction {g : am_G} {F : am_FT} (hF : F = am_F T0 g) (hg : GG g) {v1 : Int32} {v2 : Int32} {v3 : Int32} {M : am_M} {r : am_R} (h : (
  F 84 3 [.ref 1, .int v1, .int v2, .int v3, .int 0] [] M) = some r) : F 84 0 [.ref 1, .int v1, .int v2, .int v3] [] M = some r := by
  refine e_City_addJunction hF ?_
  exact h
theorem s_City_addJunction_3 {g : am_G} {F : am_FT} (hF : F = am_F T0 g) (hg : GG g) {v1 : Int32} {v2 : Int32} {v3 : Int32} {v4 : Int32} {M : am_M} {r : am_R} (h : (
  if (fI M 1 3) ≤ v4 then
    if (fI M 1 3) < 24 then
      am_ok 24 ((fI M 1 3)) <|
      am_lt (wI M 2 ((fI M 1 3)).toNatClampNeg v1) fun M1 =>
      am_ok 24 ((fI M 1 3)) <|
      am_lt (wI M1 3 ((fI M 1 3)).toNatClampNeg v2) fun M2 =>
      am_ok 24 ((fI M 1 3)) <|
      am_lt (wI M2 4 ((fI M 1 3)).toNatClampNeg v3) fun M3 =>
      am_lt (fW M3 1 3 (((fI M3 1 3) + 1))) fun M4 =>
      am_cv (F 1 0 [.ref 1, .int 0, .int (fI M 1 3)] [] M4) fun M5 => /- City_addThing -/
      am_rt 1 ((fI M 1 3)) M5
    else
      am_rt 1 ((-4)) M
  else
    am_ok 24 v4 <|
    if (rI M 2 v4.toNatClampNeg) = v1 then
      am_ok 24 v4 <|
      if (rI M 3 v4.toNatClampNeg) = v2 then
        am_rt 1 ((-3)) M
      else
        F 84 3 [.ref 1, .int v1, .int v2, .int v3, .int (v4 + 1)] [] M
    else
      F 84 3 [.ref 1, .int v1, .int v2, .int v3, .int (v4 + 1)] [] M) = some r) : F 84 3 [.ref 1, .int v1, .int v2, .int v3, .int v4] [] M = some r := by
  refine e_City_addJunction_3 hF ?_
  refine (cl_gI (gk_1 hg)).trans ?_
  rcases iv_ite h with ⟨hc, h⟩ | ⟨hc, h⟩
  · refine (if_pos hc).trans ?_
    refine (cl_gI (gk_1 hg)).trans ?_
    rcases iv_ite h with ⟨hc, h⟩ | ⟨hc, h⟩
    · refine (if_pos hc).trans ?_
      refine (cl_gI (gk_1 hg)).trans ?_
      refine (cl_gR (gk_1 hg) (gr_1_0 hg)).trans ?_
      obtain ⟨k1, h⟩ := iv_ok h; refine (cl_is (gk_2 hg) k1).trans ?_
      replace h := iv_lt h
      refine (cl_gR (gk_1 hg) (gr_1_1 hg)).trans ?_
      obtain ⟨k2, h⟩ := iv_ok h; refine (cl_is (gk_3 hg) k2).trans ?_
      replace h := iv_lt h
      refine (cl_gR (gk_1 hg) (gr_1_2 hg)).trans ?_
      obtain ⟨k3, h⟩ := iv_ok h; refine (cl_is (gk_4 hg) k3).trans ?_
      replace h := iv_lt h
      refine (cl_gI (gk_1 hg)).trans ?_
      refine (cl_pI (gk_1 hg)).trans ?_
      replace h := iv_lt h
      refine (cl_rc (gk_1 hg)).trans ?_
      obtain ⟨M5, k4, h⟩ := iv_cv h; refine (cl_cv k4).trans ?_
      exact h
    · refine (if_neg hc).trans ?_
      exact h
  · refine (if_neg hc).trans ?_
    refine (cl_gR (gk_1 hg) (gr_1_0 hg)).trans ?_
    obtain ⟨k5, h⟩ := iv_ok h; refine (cl_ia (gk_2 hg) k5).trans ?_
    rcases iv_ite h with ⟨hc, h⟩ | ⟨hc, h⟩
    · refine (if_pos hc).trans ?_
      refine (cl_gR (gk_1 hg) (gr_1_1 hg)).trans ?_
      obtain ⟨k6, h⟩ := iv_ok h; refine (cl_ia (gk_3 hg) k6).trans ?_
      rcases iv_ite h with ⟨hc, h⟩ | ⟨hc, h⟩
      · refine (if_pos hc).trans ?_
        exact h
      · refine (if_neg hc).trans ?_
        exact h
    · refine (if_neg hc).trans ?_
      exact h
theorem s_City_addWay {g : am_G} {F : am_FT} (hF : F = am_F T0 g) (hg : GG g) {v1 : Int32} {v2 : Int32} {v3 : Int32} {v4 : Int32} {v5 : Int32} {M : am_M} {r : am_R} (h : (
  if (fI M 1 7) < 40 then
    am_ok 40 ((fI M 1 7)) <|
    am_lt (wI M 5 ((fI M 1 7)).toNatClampNeg v1) fun M1 =>
    am_ok 40 ((fI M 1 7)) <|
    am_lt (wI M1 6 ((fI M 1 7)).toNatClampNeg v4) fun M2 =>
    am_ok 40 ((fI M 1 7)) <|
    am_lt (wI M2 7 ((fI M 1 7)).toNatClampNeg v5) fun M3 =>
    am_lt (fW M3 1 7 (((fI M3 1 7) + 1))) fun M4 =>
    am_cv (F 0 0 [.ref 1, .int (2 * (fI M 1 7)), .int v2, .int v3] [] M4) fun M5 => /- City_addLeg -/
    am_cv (F 0 0 [.ref 1, .int ((2 * (fI M 1 7)) + 1), .int v3, .int v2] [] M5) fun M6 => /- City_addLeg -/
    am_cv (F 1 0 [.ref 1, .int 1, .int (fI M 1 7)] [] M6) fun M7 => /- City_addThing -/
    am_rt 1 ((fI M 1 7)) M7
  else
    am_rt 1 ((-4)) M) = some r) : F 85 0 [.ref 1, .int v1, .int v2, .int v3, .int v4, .int v5] [] M = some r := by
  refine e_City_addWay hF ?_
  refine (cl_gI (gk_1 hg)).trans ?_
  rcases iv_ite h with ⟨hc, h⟩ | ⟨hc, h⟩
  · refine (if_pos hc).trans ?_
    refine (cl_gI (gk_1 hg)).trans ?_
    refine (cl_gR (gk_1 hg) (gr_1_4 hg)).trans ?_
    obtain ⟨k1, h⟩ := iv_ok h; refine (cl_is (gk_5 hg) k1).trans ?_
    replace h := iv_lt h
    refine (cl_gR (gk_1 hg) (gr_1_5 hg)).trans ?_
    obtain ⟨k2, h⟩ := iv_ok h; refine (cl_is (gk_6 hg) k2).trans ?_
    replace h := iv_lt h
    refine (cl_gR (gk_1 hg) (gr_1_6 hg)).trans ?_
    obtain ⟨k3, h⟩ := iv_ok h; refine (cl_is (gk_7 hg) k3).trans ?_
    replace h := iv_lt h
    refine (cl_gI (gk_1 hg)).trans ?_
    refine (cl_pI (gk_1 hg)).trans ?_
    replace h := iv_lt h
    refine (cl_rc (gk_1 hg)).trans ?_
    obtain ⟨M5, k4, h⟩ := iv_cv h; refine (cl_cv k4).trans ?_
    refine (cl_rc (gk_1 hg)).trans ?_
    obtain ⟨M6, k5, h⟩ := iv_cv h; refine (cl_cv k5).trans ?_
    refine (cl_rc (gk_1 hg)).trans ?_
    obtain ⟨M7, k6, h⟩ := iv_cv h; refine (cl_cv k6).trans ?_
    exact h
  · refine (if_neg hc).trans ?_
    exact h
theorem s_City_follows {g : am_G} {F : am_FT} (hF : F = am_F T0 g) (hg : GG g) {v1 : Int32} {v2 : Int32} {M : am_M} {r : am_R} (h : (
  am_ci (F 4 0 [.ref 1, .int v1] [] M) fun x2 M1 => /- City_endOf -/
  am_ci (F 13 0 [.ref 1, .int v2] [] M1) fun x4 M3 => /- City_startOf -/
  if x2 = x4 then
    if (v1 >>> ((1 : Int32) &&& 31)) = (v2 >>> ((1 : Int32) &&& 31)) then
      am_rt 2 0 M3
    else
      am_rt 2 1 M3
  else
    am_rt 2 0 M3) = some r) : F 86 0 [.ref 1, .int v1, .int v2] [] M = some r := by
  refine e_City_follows hF ?_
  refine (cl_rc (gk_1 hg)).trans ?_
  obtain ⟨x2, M1, k1, h⟩ := iv_ci h; refine (cl_ci k1).trans ?_
  refine (cl_rc (gk_1 hg)).trans ?_
  obtain ⟨x4, M3, k2, h⟩ := iv_ci h; refine (cl_ci k2).trans ?_
  rcases iv_ite h with ⟨hc, h⟩ | ⟨hc, h⟩
  · refine (if_pos hc).trans ?_
    rcases iv_ite h with ⟨hc, h⟩ | ⟨hc, h⟩
    · refine (if_pos hc).trans ?_
      exact h
    · refine (if_neg hc).trans ?_
      exact h
  · refine (if_neg hc).trans ?_
    exact h
theorem s_City_isInFirstHalf {g : am_G} {F : am_FT} (hF : F = am_F T0 g) (hg : GG g) {v1 : Int32} {v2 : Int32} {M : am_M} {r : am_R} (h : (
  am_ci (F 2 0 [.ref 1, .int v1, .int v2] [] M) fun x2 M1 => /- City_cross -/
  if x2 < 0 then
    am_rt 2 1 M1
  else
    if x2 = 0 then
      am_ci (F 3 0 [.ref 1, .int v1, .int v2] [] M1) fun x4 M3 => /- City_dot -/
      if x4 ≤ 0 then
        am_rt 2 0 M3
      else
        am_rt 2 1 M3
    else
      am_rt 2 0 M1) = some r) : F 87 0 [.ref 1, .int v1, .int v2] [] M = some r := by
  refine e_City_isInFirstHalf hF ?_
  refine (cl_rc (gk_1 hg)).trans ?_
  obtain ⟨x2, M1, k1, h⟩ := iv_ci h; refine (cl_ci k1).trans ?_
  rcases iv_ite h with ⟨hc, h⟩ | ⟨hc, h⟩
  · refine (if_pos hc).trans ?_
    exact h
  · refine (if_neg hc).trans ?_
    rcases iv_ite h with ⟨hc, h⟩ | ⟨hc, h⟩
    · refine (if_pos hc).trans ?_
      refine (cl_rc (gk_1 hg)).trans ?_
      obtain ⟨x4, M3, k2, h⟩ := iv_ci h; refine (cl_ci k2).trans ?_
      rcases iv_ite h with ⟨hc, h⟩ | ⟨hc, h⟩
      · refine (if_pos hc).trans ?_
        exact h
      · refine (if_neg hc).trans ?_
        exact h
    · refine (if_neg hc).trans ?_
      exact h
theorem s_City_isPassable {g : am_G} {F : am_FT} (hF : F = am_F T0 g) (hg : GG g) {v1 : Int32} {v2 : Int32} {M : am_M} {r : am_R} (h : (
  if (v1 &&& 1) = 1 then
    am_ok 40 ((v1 >>> ((1 : Int32) &&& 31))) <|
    if (rI M 7 ((v1 >>> ((1 : Int32) &&& 31))).toNatClampNeg) = 1 then
      if (1 : Int32) = 0 then
        am_ci (F 9 0 [.ref 1, .int (v1 >>> ((1 : Int32) &&& 31)), .int v2] [] M) fun x6 M5 => /- City_isOpen -/
        if x6 = 0 then
          am_rt 2 0 M5
        else
          am_rt 2 1 M5
      else
        am_rt 2 0 M
    else
      if (0 : Int32) = 0 then
        am_ci (F 9 0 [.ref 1, .int (v1 >>> ((1 : Int32) &&& 31)), .int v2] [] M) fun x4 M3 => /- City_isOpen -/
        if x4 = 0 then
          am_rt 2 0 M3
        else
          am_rt 2 1 M3
      else
        am_rt 2 0 M
  else
    if (0 : Int32) = 0 then
      am_ci (F 9 0 [.ref 1, .int (v1 >>> ((1 : Int32) &&& 31)), .int v2] [] M) fun x2 M1 => /- City_isOpen -/
      if x2 = 0 then
        am_rt 2 0 M1
      else
        am_rt 2 1 M1
    else
      am_rt 2 0 M) = some r) : F 88 0 [.ref 1, .int v1, .int v2] [] M = some r := by
  refine e_City_isPassable hF ?_
  rcases iv_ite h with ⟨hc, h⟩ | ⟨hc, h⟩
  · refine (if_pos hc).trans ?_
    refine (cl_gR (gk_1 hg) (gr_1_6 hg)).trans ?_
    obtain ⟨k2, h⟩ := iv_ok h; refine (cl_ia (gk_7 hg) k2).trans ?_
    rcases iv_ite h with ⟨hc, h⟩ | ⟨hc, h⟩
    · refine (if_pos hc).trans ?_
      rcases iv_ite h with ⟨hc, h⟩ | ⟨hc, h⟩
      · refine (if_pos hc).trans ?_
        refine (cl_rc (gk_1 hg)).trans ?_
        obtain ⟨x6, M5, k4, h⟩ := iv_ci h; refine (cl_ci k4).trans ?_
        rcases iv_ite h with ⟨hc, h⟩ | ⟨hc, h⟩
        · refine (if_pos hc).trans ?_
          exact h
        · refine (if_neg hc).trans ?_
          exact h
      · refine (if_neg hc).trans ?_
        exact h
    · refine (if_neg hc).trans ?_
      rcases iv_ite h with ⟨hc, h⟩ | ⟨hc, h⟩
      · refine (if_pos hc).trans ?_
        refine (cl_rc (gk_1 hg)).trans ?_
        obtain ⟨x4, M3, k3, h⟩ := iv_ci h; refine (cl_ci k3).trans ?_
        rcases iv_ite h with ⟨hc, h⟩ | ⟨hc, h⟩
        · refine (if_pos hc).trans ?_
          exact h
        · refine (if_neg hc).trans ?_
          exact h
      · refine (if_neg hc).trans ?_
        exact h
  · refine (if_neg hc).trans ?_
    rcases iv_ite h with ⟨hc, h⟩ | ⟨hc, h⟩
    · refine (if_pos hc).trans ?_
      refine (cl_rc (gk_1 hg)).trans ?_
      obtain ⟨x2, M1, k1, h⟩ := iv_ci h; refine (cl_ci k1).trans ?_
      rcases iv_ite h with ⟨hc, h⟩ | ⟨hc, h⟩
      · refine (if_pos hc).trans ?_
        exact h
      · refine (if_neg hc).trans ?_
        exact h
    · refine (if_neg hc).trans ?_
      exact h
theorem s_City_takeThing {g : am_G} {F : am_FT} (hF : F = am_F T0 g) (hg : GG g) {v1 : Int32} {v2 : Int32} {M : am_M} {r : am_R} (h : (
  am_ok 72 v1 <|
  am_ok 72 v1 <|
  if v2 = 6 then
    if (rI M 14 v1.toNatClampNeg) = 0 then
      am_ok 24 ((rI M 15 v1.toNatClampNeg)) <|
      am_rt 1 ((rI M 2 ((rI M 15 v1.toNatClampNeg)).toNatClampNeg)) M
    else
      am_rt 1 ((-13)) M
  else
  if v2 = 7 then
    if (rI M 14 v1.toNatClampNeg) = 2 then
      am_ok 8 ((rI M 15 v1.toNatClampNeg)) <|
      am_rt 1 ((rI M 12 ((rI M 15 v1.toNatClampNeg)).toNatClampNeg)) M
    else
      am_rt 1 ((-13)) M
  else
  if v2 = 8 then
    am_rt 1 ((rI M 14 v1.toNatClampNeg)) M
  else
    if (rI M 14 v1.toNatClampNeg) = 1 then
      am_ok 40 ((rI M 15 v1.toNatClampNeg)) <|
      am_ci (F 8 0 [.int (rI M 5 ((rI M 15 v1.toNatClampNeg)).toNatClampNeg), .int v2] [] M) fun x2 M1 => /- City_isOfKind -/
      if x2 = 0 then
        am_rt 1 ((-13)) M1
      else
        am_ok 40 ((rI M 15 v1.toNatClampNeg)) <|
        am_rt 1 ((rI M1 6 ((rI M 15 v1.toNatClampNeg)).toNatClampNeg)) M1
    else
      am_rt 1 ((-13)) M) = some r) : F 89 0 [.ref 1, .int v1, .int v2] [] M = some r := by
  refine e_City_takeThing hF ?_
  refine (cl_gR (gk_1 hg) (gr_1_15 hg)).trans ?_
  obtain ⟨k1, h⟩ := iv_ok h; refine (cl_ia (gk_14 hg) k1).trans ?_
  refine (cl_gR (gk_1 hg) (gr_1_16 hg)).trans ?_
  obtain ⟨k2, h⟩ := iv_ok h; refine (cl_ia (gk_15 hg) k2).trans ?_
  rcases iv_ite h with ⟨hc, h⟩ | ⟨hc, h⟩
  · refine (if_pos hc).trans ?_
    rcases iv_ite h with ⟨hc, h⟩ | ⟨hc, h⟩
    · refine (if_pos hc).trans ?_
      refine (cl_gR (gk_1 hg) (gr_1_0 hg)).trans ?_
      obtain ⟨k3, h⟩ := iv_ok h; refine (cl_ia (gk_2 hg) k3).trans ?_
      exact h
    · refine (if_neg hc).trans ?_
      exact h
  · refine (if_neg hc).trans ?_
    rcases iv_ite h with ⟨hc, h⟩ | ⟨hc, h⟩
    · refine (if_pos hc).trans ?_
      rcases iv_ite h with ⟨hc, h⟩ | ⟨hc, h⟩
      · refine (if_pos hc).trans ?_
        refine (cl_gR (gk_1 hg) (gr_1_12 hg)).trans ?_
        obtain ⟨k4, h⟩ := iv_ok h; refine (cl_ia (gk_12 hg) k4).trans ?_
        exact h
      · refine (if_neg hc).trans ?_
        exact h
    · refine (if_neg hc).trans ?_
      rcases iv_ite h with ⟨hc, h⟩ | ⟨hc, h⟩
      · refine (if_pos hc).trans ?_
        exact h
      · refine (if_neg hc).trans ?_
        rcases iv_ite h with ⟨hc, h⟩ | ⟨hc, h⟩
        · refine (if_pos hc).trans ?_
          refine (cl_gR (gk_1 hg) (gr_1_4 hg)).trans ?_
          obtain ⟨k5, h⟩ := iv_ok h; refine (cl_ia (gk_5 hg) k5).trans ?_
          obtain ⟨x2, M1, k6, h⟩ := iv_ci h; refine (cl_ci k6).trans ?_
          rcases iv_ite h with ⟨hc, h⟩ | ⟨hc, h⟩
          · refine (if_pos hc).trans ?_
            exact h
          · refine (if_neg hc).trans ?_
            refine (cl_gR (gk_1 hg) (gr_1_5 hg)).trans ?_
            obtain ⟨k7, h⟩ := iv_ok h; refine (cl_ia (gk_6 hg) k7).trans ?_
            exact h
        · refine (if_neg hc).trans ?_
          exact h
theorem s_City_tellWay {g : am_G} {F : am_FT} (hF : F = am_F T0 g) (hg : GG g) {v1 : Int32} {v2 : Int32} {v3 : Int32} {M : am_M} {r : am_R} (h : (
  if v2 = 0 then
    am_ok 40 v1 <|
    am_rt 1 ((rI M 5 v1.toNatClampNeg)) M
  else
  if v2 = 1 then
    am_ci (F 13 0 [.ref 1, .int (2 * v1)] [] M) fun x2 M1 => /- City_startOf -/
    am_rt 1 x2 M1
  else
  if v2 = 2 then
    am_ci (F 4 0 [.ref 1, .int (2 * v1)] [] M) fun x4 M3 => /- City_endOf -/
    am_rt 1 x4 M3
  else
  if v2 = 3 then
    am_ok 40 v1 <|
    am_rt 1 ((rI M 6 v1.toNatClampNeg)) M
  else
  if v2 = 4 then
    am_ok 40 v1 <|
    am_rt 1 ((rI M 7 v1.toNatClampNeg)) M
  else
  if v2 = 5 then
    am_ci (F 12 0 [.ref 1, .int v1, .int v3] [] M) fun x6 M5 => /- City_priceOf -/
    am_rt 1 x6 M5
  else
    am_ci (F 9 0 [.ref 1, .int v1, .int v3] [] M) fun x8 M7 => /- City_isOpen -/
    if x8 = 0 then
      am_rt 1 0 M7
    else
      am_rt 1 1 M7) = some r) : F 90 0 [.ref 1, .int v1, .int v2, .int v3] [] M = some r := by
  refine e_City_tellWay hF ?_
  rcases iv_ite h with ⟨hc, h⟩ | ⟨hc, h⟩
  · refine (if_pos hc).trans ?_
    refine (cl_gR (gk_1 hg) (gr_1_4 hg)).trans ?_
    obtain ⟨k1, h⟩ := iv_ok h; refine (cl_ia (gk_5 hg) k1).trans ?_
    exact h
  · refine (if_neg hc).trans ?_
    rcases iv_ite h with ⟨hc, h⟩ | ⟨hc, h⟩
    · refine (if_pos hc).trans ?_
      refine (cl_rc (gk_1 hg)).trans ?_
      obtain ⟨x2, M1, k2, h⟩ := iv_ci h; refine (cl_ci k2).trans ?_
      exact h
    · refine (if_neg hc).trans ?_
      rcases iv_ite h with ⟨hc, h⟩ | ⟨hc, h⟩
      · refine (if_pos hc).trans ?_
        refine (cl_rc (gk_1 hg)).trans ?_
        obtain ⟨x4, M3, k3, h⟩ := iv_ci h; refine (cl_ci k3).trans ?_
        exact h
      · refine (if_neg hc).trans ?_
        rcases iv_ite h with ⟨hc, h⟩ | ⟨hc, h⟩
        · refine (if_pos hc).trans ?_
          refine (cl_gR (gk_1 hg) (gr_1_5 hg)).trans ?_
          obtain ⟨k4, h⟩ := iv_ok h; refine (cl_ia (gk_6 hg) k4).trans ?_
          exact h
        · refine (if_neg hc).trans ?_
          rcases iv_ite h with ⟨hc, h⟩ | ⟨hc, h⟩
          · refine (if_pos hc).trans ?_
            refine (cl_gR (gk_1 hg) (gr_1_6 hg)).trans ?_
            obtain ⟨k5, h⟩ := iv_ok h; refine (cl_ia (gk_7 hg) k5).trans ?_
            exact h
          · refine (if_neg hc).trans ?_
            rcases iv_ite h with ⟨hc, h⟩ | ⟨hc, h⟩
            · refine (if_pos hc).trans ?_
              refine (cl_rc (gk_1 hg)).trans ?_
              obtain ⟨x6, M5, k6, h⟩ := iv_ci h; refine (cl_ci k6).trans ?_
              exact h
            · refine (if_neg hc).trans ?_
              refine (cl_rc (gk_1 hg)).trans ?_
              obtain ⟨x8, M7, k7, h⟩ := iv_ci h; refine (cl_ci k7).trans ?_
              rcases iv_ite h with ⟨hc, h⟩ | ⟨hc, h⟩
              · refine (if_pos hc).trans ?_
                exact h
              · refine (if_neg hc).trans ?_
                exact h
theorem s_Exam_valueOf {g : am_G} {F : am_FT} (hF : F = am_F T0 g) (hg : GG g) {a0 : Nat} {v1 : Int32} {M : am_M} (h0 : isEx g a0) {r : am_R} (h : (
  if v1 = 0 then
    am_ci (F 25 0 [.int (fI M (a0 + 1) 5), .int 1] [] M) fun x2 M1 => /- JMath_min_III -/
    am_rt 1 x2 M1
  else
  if v1 = 1 then
    am_rt 1 ((fI M a0 3)) M
  else
  if v1 = 2 then
    am_rt 1 ((fI M a0 4)) M
  else
  if v1 = 3 then
    am_ci (F 24 0 [.int ((fI M (a0 + 1) 5) - 1), .int 0] [] M) fun x4 M3 => /- JMath_max -/
    am_rt 1 x4 M3
  else
  if v1 = 4 then
    am_ci (F 24 0 [.int (fI M (a0 + 1) 7), .int 0] [] M) fun x6 M5 => /- JMath_max -/
    am_rt 1 x6 M5
  else
    am_rt 1 ((fI M (a0 + 1) 2)) M) = some r) : F 91 0 [.ref a0, .int v1] [] M = some r := by
  refine e_Exam_valueOf hF ?_
  rcases iv_ite h with ⟨hc, h⟩ | ⟨hc, h⟩
  · refine (if_pos hc).trans ?_
    refine (cl_gR h0.1 h0.2.1).trans ?_
    refine (cl_gI h0.2.2.1).trans ?_
    obtain ⟨x2, M1, k1, h⟩ := iv_ci h; refine (cl_ci k1).trans ?_
    exact h
  · refine (if_neg hc).trans ?_
    rcases iv_ite h with ⟨hc, h⟩ | ⟨hc, h⟩
    · refine (if_pos hc).trans ?_
      refine (cl_gI h0.1).trans ?_
      exact h
    · refine (if_neg hc).trans ?_
      rcases iv_ite h with ⟨hc, h⟩ | ⟨hc, h⟩
      · refine (if_pos hc).trans ?_
        refine (cl_gI h0.1).trans ?_
        exact h
      · refine (if_neg hc).trans ?_
        rcases iv_ite h with ⟨hc, h⟩ | ⟨hc, h⟩
        · refine (if_pos hc).trans ?_
          refine (cl_gR h0.1 h0.2.1).trans ?_
          refine (cl_gI h0.2.2.1).trans ?_
          obtain ⟨x4, M3, k2, h⟩ := iv_ci h; refine (cl_ci k2).trans ?_
          exact h
        · refine (if_neg hc).trans ?_
          rcases iv_ite h with ⟨hc, h⟩ | ⟨hc, h⟩
          · refine (if_pos hc).trans ?_
            refine (cl_gR h0.1 h0.2.1).trans ?_
            refine (cl_gI h0.2.2.1).trans ?_
            obtain ⟨x6, M5, k3, h⟩ := iv_ci h; refine (cl_ci k3).trans ?_
            exact h
          · refine (if_neg hc).trans ?_
            refine (cl_gR h0.1 h0.2.1).trans ?_
            refine (cl_gI h0.2.2.1).trans ?_
            exact h
theorem s_Finder_allows {g : am_G} {F : am_FT} (hF : F = am_F T0 g) (hg : GG g) {a1 : Nat} {M : am_M} (h1 : isRt g a1) {r : am_R} (h : (
  F 92 2 [.ref 32, .ref a1, .int 0] [] M) = some r) : F 92 0 [.ref 32, .ref a1] [] M = some r := by
  refine e_Finder_allows hF ?_
  exact h
theorem s_Finder_allows_2 {g : am_G} {F : am_FT} (hF : F = am_F T0 g) (hg : GG g) {a1 : Nat} {v2 : Int32} {M : am_M} (h1 : isRt g a1) {r : am_R} (h : (
  if (fI M a1 5) ≤ v2 then
    am_rt 2 1 M
  else
    am_ok 81 v2 <|
    am_ok 80 ((rI M (a1 + 1) v2.toNatClampNeg)) <|
    if (rI M 33 ((rI M (a1 + 1) v2.toNatClampNeg)).toNatClampNeg) = 0 then
      am_rt 2 0 M
    else
      if v2 ≤ 0 then
        F 92 2 [.ref 32, .ref a1, .int (v2 + 1)] [] M
      else
        am_ok 81 ((v2 - 1)) <|
        am_ok 81 v2 <|
        am_ci (F 19 0 [.ref 32, .int (rI M (a1 + 1) ((v2 - 1)).toNatClampNeg), .int (rI M (a1 + 1) v2.toNatClampNeg)] [] M) fun x2 M1 => /- Finder_mayTurn -/
        if x2 = 0 then
          am_rt 2 0 M1
        else
          F 92 2 [.ref 32, .ref a1, .int (v2 + 1)] [] M1) = some r) : F 92 2 [.ref 32, .ref a1, .int v2] [] M = some r := by
  refine e_Finder_allows_2 hF ?_
  refine (cl_gI h1.1).trans ?_
  rcases iv_ite h with ⟨hc, h⟩ | ⟨hc, h⟩
  · refine (if_pos hc).trans ?_
    exact h
  · refine (if_neg hc).trans ?_
    refine (cl_gR (gk_32 hg) (gr_32_2 hg)).trans ?_
    refine (cl_gR h1.1 h1.2.1).trans ?_
    obtain ⟨k1, h⟩ := iv_ok h; refine (cl_ia h1.2.2 k1).trans ?_
    obtain ⟨k2, h⟩ := iv_ok h; refine (cl_za (gk_33 hg) k2).trans ?_
    rcases iv_ite h with ⟨hc, h⟩ | ⟨hc, h⟩
    · refine (if_pos hc).trans ?_
      exact h
    · refine (if_neg hc).trans ?_
      rcases iv_ite h with ⟨hc, h⟩ | ⟨hc, h⟩
      · refine (if_pos hc).trans ?_
        exact h
      · refine (if_neg hc).trans ?_
        refine (cl_gR h1.1 h1.2.1).trans ?_
        obtain ⟨k3, h⟩ := iv_ok h; refine (cl_ia h1.2.2 k3).trans ?_
        refine (cl_gR h1.1 h1.2.1).trans ?_
        obtain ⟨k4, h⟩ := iv_ok h; refine (cl_ia h1.2.2 k4).trans ?_
        refine (cl_rc (gk_32 hg)).trans ?_
        obtain ⟨x2, M1, k5, h⟩ := iv_ci h; refine (cl_ci k5).trans ?_
        rcases iv_ite h with ⟨hc, h⟩ | ⟨hc, h⟩
        · refine (if_pos hc).trans ?_
          exact h
        · refine (if_neg hc).trans ?_
          exact h
theorem s_Finder_costAlone {g : am_G} {F : am_FT} (hF : F = am_F T0 g) (hg : GG g) {v1 : Int32} {v2 : Int32} {v3 : Int32} {M : am_M} {r : am_R} (h : (
  am_ok 8 v2 <|
  am_ok 8 v3 <|
  if (rI M 11 v2.toNatClampNeg) = (rI M 11 v3.toNatClampNeg) then
    am_ci (F 5 0 [.ref 1, .int v1, .int v2, .int v3] [] M) fun x4 M3 => /- City_feetAhead -/
    if x4 ≤ 0 then
      some (some (.long 9223372036854775807), M3)
    else
      am_cj (F 17 0 [.ref 32, .int 0, .int x4] [] M3) fun l6 M5 => /- Finder_key -/
      some (some (.long l6), M5)
  else
    if (0 : Int32) ≤ 0 then
      some (some (.long 9223372036854775807), M)
    else
      am_cj (F 17 0 [.ref 32, .int 0, .int 0] [] M) fun l2 M1 => /- Finder_key -/
      some (some (.long l2), M1)) = some r) : F 93 0 [.ref 32, .int v1, .int v2, .int v3] [] M = some r := by
  refine e_Finder_costAlone hF ?_
  refine (cl_gR (gk_32 hg) (gr_32_0 hg)).trans ?_
  refine (cl_gR (gk_1 hg) (gr_1_11 hg)).trans ?_
  obtain ⟨k1, h⟩ := iv_ok h; refine (cl_ia (gk_11 hg) k1).trans ?_
  refine (cl_gR (gk_32 hg) (gr_32_0 hg)).trans ?_
  refine (cl_gR (gk_1 hg) (gr_1_11 hg)).trans ?_
  obtain ⟨k2, h⟩ := iv_ok h; refine (cl_ia (gk_11 hg) k2).trans ?_
  rcases iv_ite h with ⟨hc, h⟩ | ⟨hc, h⟩
  · refine (if_pos hc).trans ?_
    refine (cl_gR (gk_32 hg) (gr_32_0 hg)).trans ?_
    refine (cl_rc (gk_1 hg)).trans ?_
    obtain ⟨x4, M3, k4, h⟩ := iv_ci h; refine (cl_ci k4).trans ?_
    rcases iv_ite h with ⟨hc, h⟩ | ⟨hc, h⟩
    · refine (if_pos hc).trans ?_
      exact h
    · refine (if_neg hc).trans ?_
      refine (cl_rc (gk_32 hg)).trans ?_
      obtain ⟨l6, M5, k5, h⟩ := iv_cj h; refine (cl_cj k5).trans ?_
      exact h
  · refine (if_neg hc).trans ?_
    rcases iv_ite h with ⟨hc, h⟩ | ⟨hc, h⟩
    · refine (if_pos hc).trans ?_
      exact h
    · refine (if_neg hc).trans ?_
      refine (cl_rc (gk_32 hg)).trans ?_
      obtain ⟨l2, M1, k3, h⟩ := iv_cj h; refine (cl_cj k3).trans ?_
      exact h
theorem s_Finder_isRightAt {g : am_G} {F : am_FT} (hF : F = am_F T0 g) (hg : GG g) {v1 : Int32} {a2 : Nat} {v3 : Int32} {M : am_M} (h2 : gK g a2 = (1, 100)) {r : am_R} (h : (
  am_ci (F 4 0 [.ref 1, .int v1] [] M) fun x2 M1 => /- City_endOf -/
  F 94 13 [.ref 32, .int v1, .ref a2, .int v3, .int x2, .int 0] [] M1) = some r) : F 94 0 [.ref 32, .int v1, .ref a2, .int v3] [] M = some r := by
  refine e_Finder_isRightAt hF ?_
  refine (cl_gR (gk_32 hg) (gr_32_0 hg)).trans ?_
  refine (cl_rc (gk_1 hg)).trans ?_
  obtain ⟨x2, M1, k1, h⟩ := iv_ci h; refine (cl_ci k1).trans ?_
  exact h
theorem s_Finder_isRightAt_13 {g : am_G} {F : am_FT} (hF : F = am_F T0 g) (hg : GG g) {v1 : Int32} {a2 : Nat} {v3 : Int32} {v4 : Int32} {v5 : Int32} {M : am_M} (h2 : gK g a2 = (1, 100)) {r : am_R} (h : (
  am_ok 24 v4 <|
  if (rI M 17 v4.toNatClampNeg) ≤ v5 then
    am_rt 2 1 M
  else
    am_ci (F 11 0 [.ref 1, .int v4, .int v5] [] M) fun x2 M1 => /- City_outLeg -/
    am_ci (F 19 0 [.ref 32, .int v1, .int x2] [] M1) fun x4 M3 => /- Finder_mayTurn -/
    if x4 = 0 then
      F 94 13 [.ref 32, .int v1, .ref a2, .int v3, .int v4, .int (v5 + 1)] [] M3
    else
      am_ok 8 v3 <|
      if (x2 >>> ((1 : Int32) &&& 31)) = (rI M3 11 v3.toNatClampNeg) then
        am_ok 100 x2 <|
        if (rI M3 a2 x2.toNatClampNeg) < 0 then
          am_ok 100 v1 <|
          if 0 ≤ (rI M3 a2 v1.toNatClampNeg) then
            F 94 109 [.ref 32, .int v1, .ref a2, .int v3, .int v4, .int v5, .int x2, .int 1, .int 0] [] M3
          else
            if (1 : Int32) = 0 then
              if (0 : Int32) = 0 then
                F 94 109 [.ref 32, .int v1, .ref a2, .int v3, .int v4, .int v5, .int x2, .int 1, .int 0] [] M3
              else
                am_rt 2 0 M3
            else
              am_rt 2 0 M3
        else
          am_ok 100 v1 <|
          if 0 ≤ (rI M3 a2 v1.toNatClampNeg) then
            F 94 109 [.ref 32, .int v1, .ref a2, .int v3, .int v4, .int v5, .int x2, .int 1, .int 1] [] M3
          else
            if (1 : Int32) = 0 then
              if (1 : Int32) = 0 then
                F 94 109 [.ref 32, .int v1, .ref a2, .int v3, .int v4, .int v5, .int x2, .int 1, .int 1] [] M3
              else
                am_rt 2 0 M3
            else
              am_rt 2 0 M3
      else
        am_ok 100 x2 <|
        if (rI M3 a2 x2.toNatClampNeg) < 0 then
          am_ok 100 v1 <|
          if 0 ≤ (rI M3 a2 v1.toNatClampNeg) then
            F 94 109 [.ref 32, .int v1, .ref a2, .int v3, .int v4, .int v5, .int x2, .int 0, .int 0] [] M3
          else
            if (0 : Int32) = 0 then
              if (0 : Int32) = 0 then
                F 94 109 [.ref 32, .int v1, .ref a2, .int v3, .int v4, .int v5, .int x2, .int 0, .int 0] [] M3
              else
                am_rt 2 0 M3
            else
              am_rt 2 0 M3
        else
          am_ok 100 v1 <|
          if 0 ≤ (rI M3 a2 v1.toNatClampNeg) then
            F 94 109 [.ref 32, .int v1, .ref a2, .int v3, .int v4, .int v5, .int x2, .int 0, .int 1] [] M3
          else
            if (0 : Int32) = 0 then
              if (1 : Int32) = 0 then
                F 94 109 [.ref 32, .int v1, .ref a2, .int v3, .int v4, .int v5, .int x2, .int 0, .int 1] [] M3
              else
                am_rt 2 0 M3
            else
              am_rt 2 0 M3) = some r) : F 94 13 [.ref 32, .int v1, .ref a2, .int v3, .int v4, .int v5] [] M = some r := by
  refine e_Finder_isRightAt_13 hF ?_
  refine (cl_gR (gk_32 hg) (gr_32_0 hg)).trans ?_
  refine (cl_gR (gk_1 hg) (gr_1_19 hg)).trans ?_
  obtain ⟨k1, h⟩ := iv_ok h; refine (cl_ia (gk_17 hg) k1).trans ?_
  rcases iv_ite h with ⟨hc, h⟩ | ⟨hc, h⟩
  · refine (if_pos hc).trans ?_
    exact h
  · refine (if_neg hc).trans ?_
    refine (cl_gR (gk_32 hg) (gr_32_0 hg)).trans ?_
    refine (cl_rc (gk_1 hg)).trans ?_
    obtain ⟨x2, M1, k2, h⟩ := iv_ci h; refine (cl_ci k2).trans ?_
    refine (cl_rc (gk_32 hg)).trans ?_
    obtain ⟨x4, M3, k3, h⟩ := iv_ci h; refine (cl_ci k3).trans ?_
    rcases iv_ite h with ⟨hc, h⟩ | ⟨hc, h⟩
    · refine (if_pos hc).trans ?_
      exact h
    · refine (if_neg hc).trans ?_
      refine (cl_gR (gk_32 hg) (gr_32_0 hg)).trans ?_
      refine (cl_gR (gk_1 hg) (gr_1_11 hg)).trans ?_
      obtain ⟨k4, h⟩ := iv_ok h; refine (cl_ia (gk_11 hg) k4).trans ?_
      rcases iv_ite h with ⟨hc, h⟩ | ⟨hc, h⟩
      · refine (if_pos hc).trans ?_
        obtain ⟨k8, h⟩ := iv_ok h; refine (cl_ia h2 k8).trans ?_
        rcases iv_ite h with ⟨hc, h⟩ | ⟨hc, h⟩
        · refine (if_pos hc).trans ?_
          obtain ⟨k9, h⟩ := iv_ok h; refine (cl_ia h2 k9).trans ?_
          rcases iv_ite h with ⟨hc, h⟩ | ⟨hc, h⟩
          · refine (if_pos hc).trans ?_
            exact h
          · refine (if_neg hc).trans ?_
            rcases iv_ite h with ⟨hc, h⟩ | ⟨hc, h⟩
            · refine (if_pos hc).trans ?_
              rcases iv_ite h with ⟨hc, h⟩ | ⟨hc, h⟩
              · refine (if_pos hc).trans ?_
                exact h
              · refine (if_neg hc).trans ?_
                exact h
            · refine (if_neg hc).trans ?_
              exact h
        · refine (if_neg hc).trans ?_
          obtain ⟨k10, h⟩ := iv_ok h; refine (cl_ia h2 k10).trans ?_
          rcases iv_ite h with ⟨hc, h⟩ | ⟨hc, h⟩
          · refine (if_pos hc).trans ?_
            exact h
          · refine (if_neg hc).trans ?_
            rcases iv_ite h with ⟨hc, h⟩ | ⟨hc, h⟩
            · refine (if_pos hc).trans ?_
              rcases iv_ite h with ⟨hc, h⟩ | ⟨hc, h⟩
              · refine (if_pos hc).trans ?_
                exact h
              · refine (if_neg hc).trans ?_
                exact h
            · refine (if_neg hc).trans ?_
              exact h
      · refine (if_neg hc).trans ?_
        obtain ⟨k5, h⟩ := iv_ok h; refine (cl_ia h2 k5).trans ?_
        rcases iv_ite h with ⟨hc, h⟩ | ⟨hc, h⟩
        · refine (if_pos hc).trans ?_
          obtain ⟨k6, h⟩ := iv_ok h; refine (cl_ia h2 k6).trans ?_
          rcases iv_ite h with ⟨hc, h⟩ | ⟨hc, h⟩
          · refine (if_pos hc).trans ?_
            exact h
          · refine (if_neg hc).trans ?_
            rcases iv_ite h with ⟨hc, h⟩ | ⟨hc, h⟩
            · refine (if_pos hc).trans ?_
              rcases iv_ite h with ⟨hc, h⟩ | ⟨hc, h⟩
              · refine (if_pos hc).trans ?_
                exact h
              · refine (if_neg hc).trans ?_
                exact h
            · refine (if_neg hc).trans ?_
              exact h
        · refine (if_neg hc).trans ?_
          obtain ⟨k7, h⟩ := iv_ok h; refine (cl_ia h2 k7).trans ?_
          rcases iv_ite h with ⟨hc, h⟩ | ⟨hc, h⟩
          · refine (if_pos hc).trans ?_
            exact h
          · refine (if_neg hc).trans ?_
            rcases iv_ite h with ⟨hc, h⟩ | ⟨hc, h⟩
            · refine (if_pos hc).trans ?_
              rcases iv_ite h with ⟨hc, h⟩ | ⟨hc, h⟩
              · refine (if_pos hc).trans ?_
                exact h
              · refine (if_neg hc).trans ?_
                exact h
            · refine (if_neg hc).trans ?_
              exact h
theorem s_Finder_isRightAt_109 {g : am_G} {F : am_FT} (hF : F = am_F T0 g) (hg : GG g) {v1 : Int32} {a2 : Nat} {v3 : Int32} {v4 : Int32} {v5 : Int32} {v6 : Int32} {v7 : Int32} {v8 : Int32} {M : am_M} (h2 : gK g a2 = (1, 100)) {r : am_R} (h : (
  if v7 = 0 then
    if v8 = 0 then
      F 94 13 [.ref 32, .int v1, .ref a2, .int v3, .int v4, .int (v5 + 1)] [] M
    else
      am_ok 100 v1 <|
      am_ok 40 ((v6 >>> ((1 : Int32) &&& 31))) <|
      am_ok 100 v6 <|
      if (lg_cmp (((rI M a2 v1.toNatClampNeg)).toInt64) ((((rI M 34 ((v6 >>> ((1 : Int32) &&& 31))).toNatClampNeg)).toInt64 + ((rI M a2 v6.toNatClampNeg)).toInt64))) ≤ 0 then
        F 94 13 [.ref 32, .int v1, .ref a2, .int v3, .int v4, .int (v5 + 1)] [] M
      else
        am_rt 2 0 M
  else
    am_ok 100 v1 <|
    am_ci (F 6 0 [.ref 1, .int v6, .int v3] [] M) fun x2 M1 => /- City_feetFromStart -/
    if (rI M a2 v1.toNatClampNeg) ≤ x2 then
      if v8 = 0 then
        F 94 13 [.ref 32, .int v1, .ref a2, .int v3, .int v4, .int (v5 + 1)] [] M1
      else
        am_ok 100 v1 <|
        am_ok 40 ((v6 >>> ((1 : Int32) &&& 31))) <|
        am_ok 100 v6 <|
        if (lg_cmp (((rI M1 a2 v1.toNatClampNeg)).toInt64) ((((rI M1 34 ((v6 >>> ((1 : Int32) &&& 31))).toNatClampNeg)).toInt64 + ((rI M1 a2 v6.toNatClampNeg)).toInt64))) ≤ 0 then
          F 94 13 [.ref 32, .int v1, .ref a2, .int v3, .int v4, .int (v5 + 1)] [] M1
        else
          am_rt 2 0 M1
    else
      am_rt 2 0 M1) = some r) : F 94 109 [.ref 32, .int v1, .ref a2, .int v3, .int v4, .int v5, .int v6, .int v7, .int v8] [] M = some r := by
  refine e_Finder_isRightAt_109 hF ?_
  rcases iv_ite h with ⟨hc, h⟩ | ⟨hc, h⟩
  · refine (if_pos hc).trans ?_
    rcases iv_ite h with ⟨hc, h⟩ | ⟨hc, h⟩
    · refine (if_pos hc).trans ?_
      exact h
    · refine (if_neg hc).trans ?_
      obtain ⟨k1, h⟩ := iv_ok h; refine (cl_ia h2 k1).trans ?_
      refine (cl_gR (gk_32 hg) (gr_32_3 hg)).trans ?_
      obtain ⟨k2, h⟩ := iv_ok h; refine (cl_ia (gk_34 hg) k2).trans ?_
      obtain ⟨k3, h⟩ := iv_ok h; refine (cl_ia h2 k3).trans ?_
      rcases iv_ite h with ⟨hc, h⟩ | ⟨hc, h⟩
      · refine (if_pos hc).trans ?_
        exact h
      · refine (if_neg hc).trans ?_
        exact h
  · refine (if_neg hc).trans ?_
    obtain ⟨k4, h⟩ := iv_ok h; refine (cl_ia h2 k4).trans ?_
    refine (cl_gR (gk_32 hg) (gr_32_0 hg)).trans ?_
    refine (cl_rc (gk_1 hg)).trans ?_
    obtain ⟨x2, M1, k5, h⟩ := iv_ci h; refine (cl_ci k5).trans ?_
    rcases iv_ite h with ⟨hc, h⟩ | ⟨hc, h⟩
    · refine (if_pos hc).trans ?_
      rcases iv_ite h with ⟨hc, h⟩ | ⟨hc, h⟩
      · refine (if_pos hc).trans ?_
        exact h
      · refine (if_neg hc).trans ?_
        obtain ⟨k6, h⟩ := iv_ok h; refine (cl_ia h2 k6).trans ?_
        refine (cl_gR (gk_32 hg) (gr_32_3 hg)).trans ?_
        obtain ⟨k7, h⟩ := iv_ok h; refine (cl_ia (gk_34 hg) k7).trans ?_
        obtain ⟨k8, h⟩ := iv_ok h; refine (cl_ia h2 k8).trans ?_
        rcases iv_ite h with ⟨hc, h⟩ | ⟨hc, h⟩
        · refine (if_pos hc).trans ?_
          exact h
        · refine (if_neg hc).trans ?_
          exact h
    · refine (if_neg hc).trans ?_
      exact h
theorem s_Finder_leastByProof {g : am_G} {F : am_FT} (hF : F = am_F T0 g) (hg : GG g) {a1 : Nat} {v2 : Int32} {v3 : Int32} {M : am_M} (h1 : gK g a1 = (1, 100)) {r : am_R} (h : (
  am_ok 8 v2 <|
  F 95 22 [.ref 32, .ref a1, .int v2, .int v3, .long 9223372036854775807, .int (2 * (rI M 11 v2.toNatClampNeg)), .int (2 * (rI M 11 v2.toNatClampNeg))] [] M) = some r) : F 95 0 [.ref 32, .ref a1, .int v2, .int v3] [] M = some r := by
  refine e_Finder_leastByProof hF ?_
  refine (cl_gR (gk_32 hg) (gr_32_0 hg)).trans ?_
  refine (cl_gR (gk_1 hg) (gr_1_11 hg)).trans ?_
  obtain ⟨k1, h⟩ := iv_ok h; refine (cl_ia (gk_11 hg) k1).trans ?_
  exact h
theorem s_Finder_leastByProof_22 {g : am_G} {F : am_FT} (hF : F = am_F T0 g) (hg : GG g) {a1 : Nat} {v2 : Int32} {v3 : Int32} {w4 : Int64} {v6 : Int32} {v7 : Int32} {M : am_M} (h1 : gK g a1 = (1, 100)) {r : am_R} (h : (
  if (v6 + 1) < v7 then
    some (some (.long w4), M)
  else
    am_ok 80 v7 <|
    if (rI M 33 v7.toNatClampNeg) = 0 then
      F 95 22 [.ref 32, .ref a1, .int v2, .int v3, .long w4, .int v6, .int (v7 + 1)] [] M
    else
      am_ok 100 v7 <|
      if (rI M a1 v7.toNatClampNeg) < 0 then
        am_ok 8 v3 <|
        am_ok 8 v2 <|
        if (rI M 11 v3.toNatClampNeg) = (rI M 11 v2.toNatClampNeg) then
          am_ci (F 5 0 [.ref 1, .int v7, .int v2, .int v3] [] M) fun x2 M1 => /- City_feetAhead -/
          if x2 ≤ 0 then
            F 95 22 [.ref 32, .ref a1, .int v2, .int v3, .long w4, .int v6, .int (v7 + 1)] [] M1
          else
            am_ci (F 5 0 [.ref 1, .int v7, .int v2, .int v3] [] M1) fun x4 M3 => /- City_feetAhead -/
            am_cj (F 26 0 [.long w4, .long x4.toInt64] [] M3) fun l6 M5 => /- JMath_min_JJJ -/
            F 95 22 [.ref 32, .ref a1, .int v2, .int v3, .long l6, .int v6, .int (v7 + 1)] [] M5
        else
          F 95 22 [.ref 32, .ref a1, .int v2, .int v3, .long w4, .int v6, .int (v7 + 1)] [] M
      else
        am_ci (F 7 0 [.ref 1, .int v7, .int v2] [] M) fun x8 M7 => /- City_feetToEnd -/
        am_ok 100 v7 <|
        am_cj (F 26 0 [.long w4, .long (x8.toInt64 + ((rI M7 a1 v7.toNatClampNeg)).toInt64)] [] M7) fun l10 M9 => /- JMath_min_JJJ -/
        am_ok 8 v3 <|
        am_ok 8 v2 <|
        if (rI M9 11 v3.toNatClampNeg) = (rI M9 11 v2.toNatClampNeg) then
          am_ci (F 5 0 [.ref 1, .int v7, .int v2, .int v3] [] M9) fun x12 M11 => /- City_feetAhead -/
          if x12 ≤ 0 then
            F 95 22 [.ref 32, .ref a1, .int v2, .int v3, .long l10, .int v6, .int (v7 + 1)] [] M11
          else
            am_ci (F 5 0 [.ref 1, .int v7, .int v2, .int v3] [] M11) fun x14 M13 => /- City_feetAhead -/
            am_cj (F 26 0 [.long l10, .long x14.toInt64] [] M13) fun l16 M15 => /- JMath_min_JJJ -/
            F 95 22 [.ref 32, .ref a1, .int v2, .int v3, .long l16, .int v6, .int (v7 + 1)] [] M15
        else
          F 95 22 [.ref 32, .ref a1, .int v2, .int v3, .long l10, .int v6, .int (v7 + 1)] [] M9) = some r) : F 95 22 [.ref 32, .ref a1, .int v2, .int v3, .long w4, .int v6, .int v7] [] M = some r := by
  refine e_Finder_leastByProof_22 hF ?_
  rcases iv_ite h with ⟨hc, h⟩ | ⟨hc, h⟩
  · refine (if_pos hc).trans ?_
    exact h
  · refine (if_neg hc).trans ?_
    refine (cl_gR (gk_32 hg) (gr_32_2 hg)).trans ?_
    obtain ⟨k1, h⟩ := iv_ok h; refine (cl_za (gk_33 hg) k1).trans ?_
    rcases iv_ite h with ⟨hc, h⟩ | ⟨hc, h⟩
    · refine (if_pos hc).trans ?_
      exact h
    · refine (if_neg hc).trans ?_
      obtain ⟨k2, h⟩ := iv_ok h; refine (cl_ia h1 k2).trans ?_
      rcases iv_ite h with ⟨hc, h⟩ | ⟨hc, h⟩
      · refine (if_pos hc).trans ?_
        refine (cl_gR (gk_32 hg) (gr_32_0 hg)).trans ?_
        refine (cl_gR (gk_1 hg) (gr_1_11 hg)).trans ?_
        obtain ⟨k3, h⟩ := iv_ok h; refine (cl_ia (gk_11 hg) k3).trans ?_
        refine (cl_gR (gk_32 hg) (gr_32_0 hg)).trans ?_
        refine (cl_gR (gk_1 hg) (gr_1_11 hg)).trans ?_
        obtain ⟨k4, h⟩ := iv_ok h; refine (cl_ia (gk_11 hg) k4).trans ?_
        rcases iv_ite h with ⟨hc, h⟩ | ⟨hc, h⟩
        · refine (if_pos hc).trans ?_
          refine (cl_gR (gk_32 hg) (gr_32_0 hg)).trans ?_
          refine (cl_rc (gk_1 hg)).trans ?_
          obtain ⟨x2, M1, k5, h⟩ := iv_ci h; refine (cl_ci k5).trans ?_
          rcases iv_ite h with ⟨hc, h⟩ | ⟨hc, h⟩
          · refine (if_pos hc).trans ?_
            exact h
          · refine (if_neg hc).trans ?_
            refine (cl_gR (gk_32 hg) (gr_32_0 hg)).trans ?_
            refine (cl_rc (gk_1 hg)).trans ?_
            obtain ⟨x4, M3, k6, h⟩ := iv_ci h; refine (cl_ci k6).trans ?_
            obtain ⟨l6, M5, k7, h⟩ := iv_cj h; refine (cl_cj k7).trans ?_
            exact h
        · refine (if_neg hc).trans ?_
          exact h
      · refine (if_neg hc).trans ?_
        refine (cl_gR (gk_32 hg) (gr_32_0 hg)).trans ?_
        refine (cl_rc (gk_1 hg)).trans ?_
        obtain ⟨x8, M7, k8, h⟩ := iv_ci h; refine (cl_ci k8).trans ?_
        obtain ⟨k9, h⟩ := iv_ok h; refine (cl_ia h1 k9).trans ?_
        obtain ⟨l10, M9, k10, h⟩ := iv_cj h; refine (cl_cj k10).trans ?_
        refine (cl_gR (gk_32 hg) (gr_32_0 hg)).trans ?_
        refine (cl_gR (gk_1 hg) (gr_1_11 hg)).trans ?_
        obtain ⟨k11, h⟩ := iv_ok h; refine (cl_ia (gk_11 hg) k11).trans ?_
        refine (cl_gR (gk_32 hg) (gr_32_0 hg)).trans ?_
        refine (cl_gR (gk_1 hg) (gr_1_11 hg)).trans ?_
        obtain ⟨k12, h⟩ := iv_ok h; refine (cl_ia (gk_11 hg) k12).trans ?_
        rcases iv_ite h with ⟨hc, h⟩ | ⟨hc, h⟩
        · refine (if_pos hc).trans ?_
          refine (cl_gR (gk_32 hg) (gr_32_0 hg)).trans ?_
          refine (cl_rc (gk_1 hg)).trans ?_
          obtain ⟨x12, M11, k13, h⟩ := iv_ci h; refine (cl_ci k13).trans ?_
          rcases iv_ite h with ⟨hc, h⟩ | ⟨hc, h⟩
          · refine (if_pos hc).trans ?_
            exact h
          · refine (if_neg hc).trans ?_
            refine (cl_gR (gk_32 hg) (gr_32_0 hg)).trans ?_
            refine (cl_rc (gk_1 hg)).trans ?_
            obtain ⟨x14, M13, k14, h⟩ := iv_ci h; refine (cl_ci k14).trans ?_
            obtain ⟨l16, M15, k15, h⟩ := iv_cj h; refine (cl_cj k15).trans ?_
            exact h
        · refine (if_neg hc).trans ?_
          exact h
theorem s_Finder_nextLeg {g : am_G} {F : am_FT} (hF : F = am_F T0 g) (hg : GG g) {v1 : Int32} {M : am_M} {r : am_R} (h : (
  am_ci (F 4 0 [.ref 1, .int v1] [] M) fun x2 M1 => /- City_endOf -/
  F 96 11 [.ref 32, .int v1, .int x2, .int 0] [] M1) = some r) : F 96 0 [.ref 32, .int v1] [] M = some r := by
  refine e_Finder_nextLeg hF ?_
  refine (cl_gR (gk_32 hg) (gr_32_0 hg)).trans ?_
  refine (cl_rc (gk_1 hg)).trans ?_
  obtain ⟨x2, M1, k1, h⟩ := iv_ci h; refine (cl_ci k1).trans ?_
  exact h
theorem s_Finder_nextLeg_11 {g : am_G} {F : am_FT} (hF : F = am_F T0 g) (hg : GG g) {v1 : Int32} {v2 : Int32} {v3 : Int32} {M : am_M} {r : am_R} (h : (
  am_ok 24 v2 <|
  if (rI M 17 v2.toNatClampNeg) ≤ v3 then
    am_rt 1 ((-1)) M
  else
    am_ci (F 11 0 [.ref 1, .int v2, .int v3] [] M) fun x2 M1 => /- City_outLeg -/
    am_ci (F 19 0 [.ref 32, .int v1, .int x2] [] M1) fun x4 M3 => /- Finder_mayTurn -/
    if x4 = 0 then
      F 96 11 [.ref 32, .int v1, .int v2, .int (v3 + 1)] [] M3
    else
      am_ok 80 x2 <|
      am_cj (F 16 0 [.ref 32, .int x2] [] M3) fun l6 M5 => /- Finder_costThrough -/
      am_cj (F 26 0 [.long (rJ M3 39 x2.toNatClampNeg), .long l6] [] M5) fun l8 M7 => /- JMath_min_JJJ -/
      am_ok 80 v1 <|
      if (lg_cmp l8 ((rJ M7 40 v1.toNatClampNeg))) = 0 then
        am_rt 1 x2 M7
      else
        F 96 11 [.ref 32, .int v1, .int v2, .int (v3 + 1)] [] M7) = some r) : F 96 11 [.ref 32, .int v1, .int v2, .int v3] [] M = some r := by
  refine e_Finder_nextLeg_11 hF ?_
  refine (cl_gR (gk_32 hg) (gr_32_0 hg)).trans ?_
  refine (cl_gR (gk_1 hg) (gr_1_19 hg)).trans ?_
  obtain ⟨k1, h⟩ := iv_ok h; refine (cl_ia (gk_17 hg) k1).trans ?_
  rcases iv_ite h with ⟨hc, h⟩ | ⟨hc, h⟩
  · refine (if_pos hc).trans ?_
    exact h
  · refine (if_neg hc).trans ?_
    refine (cl_gR (gk_32 hg) (gr_32_0 hg)).trans ?_
    refine (cl_rc (gk_1 hg)).trans ?_
    obtain ⟨x2, M1, k2, h⟩ := iv_ci h; refine (cl_ci k2).trans ?_
    refine (cl_rc (gk_32 hg)).trans ?_
    obtain ⟨x4, M3, k3, h⟩ := iv_ci h; refine (cl_ci k3).trans ?_
    rcases iv_ite h with ⟨hc, h⟩ | ⟨hc, h⟩
    · refine (if_pos hc).trans ?_
      exact h
    · refine (if_neg hc).trans ?_
      refine (cl_gR (gk_32 hg) (gr_32_10 hg)).trans ?_
      obtain ⟨k4, h⟩ := iv_ok h; refine (cl_la (gk_39 hg) k4).trans ?_
      refine (cl_rc (gk_32 hg)).trans ?_
      obtain ⟨l6, M5, k5, h⟩ := iv_cj h; refine (cl_cj k5).trans ?_
      obtain ⟨l8, M7, k6, h⟩ := iv_cj h; refine (cl_cj k6).trans ?_
      refine (cl_gR (gk_32 hg) (gr_32_11 hg)).trans ?_
      obtain ⟨k7, h⟩ := iv_ok h; refine (cl_la (gk_40 hg) k7).trans ?_
      rcases iv_ite h with ⟨hc, h⟩ | ⟨hc, h⟩
      · refine (if_pos hc).trans ?_
        exact h
      · refine (if_neg hc).trans ?_
        exact h
theorem s_Finder_offer {g : am_G} {F : am_FT} (hF : F = am_F T0 g) (hg : GG g) {v1 : Int32} {w2 : Int64} {M : am_M} {r : am_R} (h : (
  am_ci (F 13 0 [.ref 1, .int v1] [] M) fun x2 M1 => /- City_startOf -/
  F 97 13 [.ref 32, .int v1, .long w2, .int x2, .int 0] [] M1) = some r) : F 97 0 [.ref 32, .int v1, .long w2] [] M = some r := by
  refine e_Finder_offer hF ?_
  refine (cl_gR (gk_32 hg) (gr_32_0 hg)).trans ?_
  refine (cl_rc (gk_1 hg)).trans ?_
  obtain ⟨x2, M1, k1, h⟩ := iv_ci h; refine (cl_ci k1).trans ?_
  exact h
theorem s_Finder_offer_13 {g : am_G} {F : am_FT} (hF : F = am_F T0 g) (hg : GG g) {v1 : Int32} {w2 : Int64} {v4 : Int32} {v5 : Int32} {M : am_M} {r : am_R} (h : (
  am_ok 24 v4 <|
  if (rI M 17 v4.toNatClampNeg) ≤ v5 then
    some (none, M)
  else
    am_ci (F 11 0 [.ref 1, .int v4, .int v5] [] M) fun x2 M1 => /- City_outLeg -/
    am_ok 80 ((x2 ^^^ 1)) <|
    if 0 ≤ (lg_cmp w2 ((rJ M1 40 ((x2 ^^^ 1)).toNatClampNeg))) then
      F 97 13 [.ref 32, .int v1, .long w2, .int v4, .int (v5 + 1)] [] M1
    else
      am_ci (F 19 0 [.ref 32, .int (x2 ^^^ 1), .int v1] [] M1) fun x4 M3 => /- Finder_mayTurn -/
      if x4 = 0 then
        F 97 13 [.ref 32, .int v1, .long w2, .int v4, .int (v5 + 1)] [] M3
      else
        am_ok 80 ((x2 ^^^ 1)) <|
        am_lt (wJ M3 40 ((x2 ^^^ 1)).toNatClampNeg w2) fun M5 =>
        F 97 13 [.ref 32, .int v1, .long w2, .int v4, .int (v5 + 1)] [] M5) = some r) : F 97 13 [.ref 32, .int v1, .long w2, .int v4, .int v5] [] M = some r := by
  refine e_Finder_offer_13 hF ?_
  refine (cl_gR (gk_32 hg) (gr_32_0 hg)).trans ?_
  refine (cl_gR (gk_1 hg) (gr_1_19 hg)).trans ?_
  obtain ⟨k1, h⟩ := iv_ok h; refine (cl_ia (gk_17 hg) k1).trans ?_
  rcases iv_ite h with ⟨hc, h⟩ | ⟨hc, h⟩
  · refine (if_pos hc).trans ?_
    exact h
  · refine (if_neg hc).trans ?_
    refine (cl_gR (gk_32 hg) (gr_32_0 hg)).trans ?_
    refine (cl_rc (gk_1 hg)).trans ?_
    obtain ⟨x2, M1, k2, h⟩ := iv_ci h; refine (cl_ci k2).trans ?_
    refine (cl_gR (gk_32 hg) (gr_32_11 hg)).trans ?_
    obtain ⟨k3, h⟩ := iv_ok h; refine (cl_la (gk_40 hg) k3).trans ?_
    rcases iv_ite h with ⟨hc, h⟩ | ⟨hc, h⟩
    · refine (if_pos hc).trans ?_
      exact h
    · refine (if_neg hc).trans ?_
      refine (cl_rc (gk_32 hg)).trans ?_
      obtain ⟨x4, M3, k4, h⟩ := iv_ci h; refine (cl_ci k4).trans ?_
      rcases iv_ite h with ⟨hc, h⟩ | ⟨hc, h⟩
      · refine (if_pos hc).trans ?_
        exact h
      · refine (if_neg hc).trans ?_
        refine (cl_gR (gk_32 hg) (gr_32_11 hg)).trans ?_
        obtain ⟨k5, h⟩ := iv_ok h; refine (cl_ls (gk_40 hg) k5).trans ?_
        replace h := iv_lt h
        exact h
theorem s_Finder_stretchString {g : am_G} {F : am_FT} (hF : F = am_F T0 g) (hg : GG g) {v1 : Int32} {v2 : Int32} {M : am_M} {r : am_R} (h : (
  am_ok 8 v1 <|
  am_ci (F 13 0 [.ref 1, .int (2 * (rI M 11 v1.toNatClampNeg))] [] M) fun x2 M1 => /- City_startOf -/
  am_ok 8 v2 <|
  am_ci (F 13 0 [.ref 1, .int (2 * (rI M1 11 v2.toNatClampNeg))] [] M1) fun x4 M3 => /- City_startOf -/
  am_ok 24 x4 <|
  am_ok 24 x2 <|
  am_ok 24 x4 <|
  am_ok 24 x2 <|
  F 98 86 [.ref 32, .int x2, .int ((rI M3 2 x4.toNatClampNeg) - (rI M3 2 x2.toNatClampNeg)), .int ((rI M3 3 x4.toNatClampNeg) - (rI M3 3 x2.toNatClampNeg)), .int 0] [] M3) = some r) : F 98 0 [.ref 32, .int v1, .int v2] [] M = some r := by
  refine e_Finder_stretchString hF ?_
  refine (cl_gR (gk_32 hg) (gr_32_0 hg)).trans ?_
  refine (cl_gR (gk_32 hg) (gr_32_0 hg)).trans ?_
  refine (cl_gR (gk_1 hg) (gr_1_11 hg)).trans ?_
  obtain ⟨k1, h⟩ := iv_ok h; refine (cl_ia (gk_11 hg) k1).trans ?_
  refine (cl_rc (gk_1 hg)).trans ?_
  obtain ⟨x2, M1, k2, h⟩ := iv_ci h; refine (cl_ci k2).trans ?_
  refine (cl_gR (gk_32 hg) (gr_32_0 hg)).trans ?_
  refine (cl_gR (gk_32 hg) (gr_32_0 hg)).trans ?_
  refine (cl_gR (gk_1 hg) (gr_1_11 hg)).trans ?_
  obtain ⟨k3, h⟩ := iv_ok h; refine (cl_ia (gk_11 hg) k3).trans ?_
  refine (cl_rc (gk_1 hg)).trans ?_
  obtain ⟨x4, M3, k4, h⟩ := iv_ci h; refine (cl_ci k4).trans ?_
  refine (cl_gR (gk_32 hg) (gr_32_0 hg)).trans ?_
  refine (cl_gR (gk_1 hg) (gr_1_0 hg)).trans ?_
  obtain ⟨k5, h⟩ := iv_ok h; refine (cl_ia (gk_2 hg) k5).trans ?_
  refine (cl_gR (gk_32 hg) (gr_32_0 hg)).trans ?_
  refine (cl_gR (gk_1 hg) (gr_1_0 hg)).trans ?_
  obtain ⟨k6, h⟩ := iv_ok h; refine (cl_ia (gk_2 hg) k6).trans ?_
  refine (cl_gR (gk_32 hg) (gr_32_0 hg)).trans ?_
  refine (cl_gR (gk_1 hg) (gr_1_1 hg)).trans ?_
  obtain ⟨k7, h⟩ := iv_ok h; refine (cl_ia (gk_3 hg) k7).trans ?_
  refine (cl_gR (gk_32 hg) (gr_32_0 hg)).trans ?_
  refine (cl_gR (gk_1 hg) (gr_1_1 hg)).trans ?_
  obtain ⟨k8, h⟩ := iv_ok h; refine (cl_ia (gk_3 hg) k8).trans ?_
  exact h
theorem s_Finder_stretchString_86 {g : am_G} {F : am_FT} (hF : F = am_F T0 g) (hg : GG g) {v3 : Int32} {v5 : Int32} {v6 : Int32} {v7 : Int32} {M : am_M} {r : am_R} (h : (
  if (fI M 1 3) ≤ v7 then
    some (none, M)
  else
    am_ok 24 v7 <|
    am_ok 24 v3 <|
    am_ok 24 v7 <|
    am_ok 24 v3 <|
    am_ci (F 23 0 [.int ((v5 * ((rI M 3 v7.toNatClampNeg) - (rI M 3 v3.toNatClampNeg))) - (v6 * ((rI M 2 v7.toNatClampNeg) - (rI M 2 v3.toNatClampNeg))))] [] M) fun x2 M1 => /- JMath_abs -/
    am_ok 24 v7 <|
    am_lt (wI M1 37 v7.toNatClampNeg x2) fun M3 =>
    F 98 86 [.ref 32, .int v3, .int v5, .int v6, .int (v7 + 1)] [] M3) = some r) : F 98 86 [.ref 32, .int v3, .int v5, .int v6, .int v7] [] M = some r := by
  refine e_Finder_stretchString_86 hF ?_
  refine (cl_gR (gk_32 hg) (gr_32_0 hg)).trans ?_
  refine (cl_gI (gk_1 hg)).trans ?_
  rcases iv_ite h with ⟨hc, h⟩ | ⟨hc, h⟩
  · refine (if_pos hc).trans ?_
    exact h
  · refine (if_neg hc).trans ?_
    refine (cl_gR (gk_32 hg) (gr_32_8 hg)).trans ?_
    refine (cl_gR (gk_32 hg) (gr_32_0 hg)).trans ?_
    refine (cl_gR (gk_1 hg) (gr_1_1 hg)).trans ?_
    obtain ⟨k1, h⟩ := iv_ok h; refine (cl_ia (gk_3 hg) k1).trans ?_
    refine (cl_gR (gk_32 hg) (gr_32_0 hg)).trans ?_
    refine (cl_gR (gk_1 hg) (gr_1_1 hg)).trans ?_
    obtain ⟨k2, h⟩ := iv_ok h; refine (cl_ia (gk_3 hg) k2).trans ?_
    refine (cl_gR (gk_32 hg) (gr_32_0 hg)).trans ?_
    refine (cl_gR (gk_1 hg) (gr_1_0 hg)).trans ?_
    obtain ⟨k3, h⟩ := iv_ok h; refine (cl_ia (gk_2 hg) k3).trans ?_
    refine (cl_gR (gk_32 hg) (gr_32_0 hg)).trans ?_
    refine (cl_gR (gk_1 hg) (gr_1_0 hg)).trans ?_
    obtain ⟨k4, h⟩ := iv_ok h; refine (cl_ia (gk_2 hg) k4).trans ?_
    obtain ⟨x2, M1, k5, h⟩ := iv_ci h; refine (cl_ci k5).trans ?_
    obtain ⟨k6, h⟩ := iv_ok h; refine (cl_is (gk_37 hg) k6).trans ?_
    replace h := iv_lt h
    exact h
theorem s_Finder_weighLegs {g : am_G} {F : am_FT} (hF : F = am_F T0 g) (hg : GG g) {v1 : Int32} {M : am_M} {r : am_R} (h : (
  F 99 2 [.ref 32, .int v1, .int 0] [] M) = some r) : F 99 0 [.ref 32, .int v1] [] M = some r := by
  refine e_Finder_weighLegs hF ?_
  exact h
theorem s_Finder_weighLegs_2 {g : am_G} {F : am_FT} (hF : F = am_F T0 g) (hg : GG g) {v1 : Int32} {v2 : Int32} {M : am_M} {r : am_R} (h : (
  am_ci (F 10 0 [.ref 1] [] M) fun x2 M1 => /- City_legCount -/
  if x2 ≤ v2 then
    some (none, M1)
  else
    am_ci (F 4 0 [.ref 1, .int v2] [] M1) fun x4 M3 => /- City_endOf -/
    am_ok 24 x4 <|
    am_ok 40 ((v2 >>> ((1 : Int32) &&& 31))) <|
    am_cj (F 17 0 [.ref 32, .int (rI M3 37 x4.toNatClampNeg), .int (rI M3 34 ((v2 >>> ((1 : Int32) &&& 31))).toNatClampNeg)] [] M3) fun l6 M5 => /- Finder_key -/
    am_ok 80 v2 <|
    am_lt (wJ M5 38 v2.toNatClampNeg l6) fun M7 =>
    am_ok 8 v1 <|
    if (v2 >>> ((1 : Int32) &&& 31)) = (rI M7 11 v1.toNatClampNeg) then
      am_ci (F 6 0 [.ref 1, .int v2, .int v1] [] M7) fun x10 M9 => /- City_feetFromStart -/
      am_cj (F 17 0 [.ref 32, .int 0, .int x10] [] M9) fun l12 M11 => /- Finder_key -/
      am_ok 80 v2 <|
      am_lt (wJ M11 39 v2.toNatClampNeg l12) fun M13 =>
      F 99 2 [.ref 32, .int v1, .int (v2 + 1)] [] M13
    else
      am_ok 80 v2 <|
      am_lt (wJ M7 39 v2.toNatClampNeg 9223372036854775807) fun M8 =>
      F 99 2 [.ref 32, .int v1, .int (v2 + 1)] [] M8) = some r) : F 99 2 [.ref 32, .int v1, .int v2] [] M = some r := by
  refine e_Finder_weighLegs_2 hF ?_
  refine (cl_gR (gk_32 hg) (gr_32_0 hg)).trans ?_
  refine (cl_rc (gk_1 hg)).trans ?_
  obtain ⟨x2, M1, k1, h⟩ := iv_ci h; refine (cl_ci k1).trans ?_
  rcases iv_ite h with ⟨hc, h⟩ | ⟨hc, h⟩
  · refine (if_pos hc).trans ?_
    exact h
  · refine (if_neg hc).trans ?_
    refine (cl_gR (gk_32 hg) (gr_32_9 hg)).trans ?_
    refine (cl_gR (gk_32 hg) (gr_32_8 hg)).trans ?_
    refine (cl_gR (gk_32 hg) (gr_32_0 hg)).trans ?_
    refine (cl_rc (gk_1 hg)).trans ?_
    obtain ⟨x4, M3, k2, h⟩ := iv_ci h; refine (cl_ci k2).trans ?_
    obtain ⟨k3, h⟩ := iv_ok h; refine (cl_ia (gk_37 hg) k3).trans ?_
    refine (cl_gR (gk_32 hg) (gr_32_3 hg)).trans ?_
    obtain ⟨k4, h⟩ := iv_ok h; refine (cl_ia (gk_34 hg) k4).trans ?_
    refine (cl_rc (gk_32 hg)).trans ?_
    obtain ⟨l6, M5, k5, h⟩ := iv_cj h; refine (cl_cj k5).trans ?_
    obtain ⟨k6, h⟩ := iv_ok h; refine (cl_ls (gk_38 hg) k6).trans ?_
    replace h := iv_lt h
    refine (cl_gR (gk_32 hg) (gr_32_10 hg)).trans ?_
    refine (cl_gR (gk_32 hg) (gr_32_0 hg)).trans ?_
    refine (cl_gR (gk_1 hg) (gr_1_11 hg)).trans ?_
    obtain ⟨k7, h⟩ := iv_ok h; refine (cl_ia (gk_11 hg) k7).trans ?_
    rcases iv_ite h with ⟨hc, h⟩ | ⟨hc, h⟩
    · refine (if_pos hc).trans ?_
      refine (cl_gR (gk_32 hg) (gr_32_0 hg)).trans ?_
      refine (cl_rc (gk_1 hg)).trans ?_
      obtain ⟨x10, M9, k9, h⟩ := iv_ci h; refine (cl_ci k9).trans ?_
      refine (cl_rc (gk_32 hg)).trans ?_
      obtain ⟨l12, M11, k10, h⟩ := iv_cj h; refine (cl_cj k10).trans ?_
      obtain ⟨k11, h⟩ := iv_ok h; refine (cl_ls (gk_39 hg) k11).trans ?_
      replace h := iv_lt h
      exact h
    · refine (if_neg hc).trans ?_
      obtain ⟨k8, h⟩ := iv_ok h; refine (cl_ls (gk_39 hg) k8).trans ?_
      replace h := iv_lt h
      exact h
theorem s_Finder_whyNotInto {g : am_G} {F : am_FT} (hF : F = am_F T0 g) (hg : GG g) {v1 : Int32} {v2 : Int32} {M : am_M} {r : am_R} (h : (
  am_ok 80 v2 <|
  if (rI M 33 v2.toNatClampNeg) = 0 then
    am_rt 1 4 M
  else
    am_ci (F 19 0 [.ref 32, .int v1, .int v2] [] M) fun x2 M1 => /- Finder_mayTurn -/
    if x2 = 0 then
      am_rt 1 5 M1
    else
      am_rt 1 0 M1) = some r) : F 100 0 [.ref 32, .int v1, .int v2] [] M = some r := by
  refine e_Finder_whyNotInto hF ?_
  refine (cl_gR (gk_32 hg) (gr_32_2 hg)).trans ?_
  obtain ⟨k1, h⟩ := iv_ok h; refine (cl_za (gk_33 hg) k1).trans ?_
  rcases iv_ite h with ⟨hc, h⟩ | ⟨hc, h⟩
  · refine (if_pos hc).trans ?_
    exact h
  · refine (if_neg hc).trans ?_
    refine (cl_rc (gk_32 hg)).trans ?_
    obtain ⟨x2, M1, k2, h⟩ := iv_ci h; refine (cl_ci k2).trans ?_
    rcases iv_ite h with ⟨hc, h⟩ | ⟨hc, h⟩
    · refine (if_pos hc).trans ?_
      exact h
    · refine (if_neg hc).trans ?_
      exact h
theorem s_Finder_whyNotSetDown {g : am_G} {F : am_FT} (hF : F = am_F T0 g) (hg : GG g) {v1 : Int32} {a2 : Nat} {v3 : Int32} {M : am_M} (h2 : isRt g a2) {r : am_R} (h : (
  am_ok 8 ((fI M a2 1)) <|
  if (v1 >>> ((1 : Int32) &&& 31)) = (rI M 11 ((fI M a2 1)).toNatClampNeg) then
    if (fI M a2 5) = 1 then
      am_ci (F 5 0 [.ref 1, .int v1, .int (fI M a2 0), .int (fI M a2 1)] [] M) fun x2 M1 => /- City_feetAhead -/
      if 0 < x2 then
        am_ok 8 ((fI M1 a2 1)) <|
        if (rI M1 13 ((fI M1 a2 1)).toNatClampNeg) = ((v1 &&& 1) ^^^ v3) then
          am_rt 1 0 M1
        else
          am_rt 1 7 M1
      else
        am_rt 1 6 M1
    else
      am_ok 8 ((fI M a2 1)) <|
      if (rI M 13 ((fI M a2 1)).toNatClampNeg) = ((v1 &&& 1) ^^^ v3) then
        am_rt 1 0 M
      else
        am_rt 1 7 M
  else
    am_rt 1 6 M) = some r) : F 101 0 [.ref 32, .int v1, .ref a2, .int v3] [] M = some r := by
  refine e_Finder_whyNotSetDown hF ?_
  refine (cl_gR (gk_32 hg) (gr_32_0 hg)).trans ?_
  refine (cl_gR (gk_1 hg) (gr_1_11 hg)).trans ?_
  refine (cl_gI h2.1).trans ?_
  obtain ⟨k1, h⟩ := iv_ok h; refine (cl_ia (gk_11 hg) k1).trans ?_
  rcases iv_ite h with ⟨hc, h⟩ | ⟨hc, h⟩
  · refine (if_pos hc).trans ?_
    refine (cl_gI h2.1).trans ?_
    rcases iv_ite h with ⟨hc, h⟩ | ⟨hc, h⟩
    · refine (if_pos hc).trans ?_
      refine (cl_gR (gk_32 hg) (gr_32_0 hg)).trans ?_
      refine (cl_gI h2.1).trans ?_
      refine (cl_gI h2.1).trans ?_
      refine (cl_rc (gk_1 hg)).trans ?_
      obtain ⟨x2, M1, k3, h⟩ := iv_ci h; refine (cl_ci k3).trans ?_
      rcases iv_ite h with ⟨hc, h⟩ | ⟨hc, h⟩
      · refine (if_pos hc).trans ?_
        refine (cl_gR (gk_32 hg) (gr_32_0 hg)).trans ?_
        refine (cl_gR (gk_1 hg) (gr_1_13 hg)).trans ?_
        refine (cl_gI h2.1).trans ?_
        obtain ⟨k4, h⟩ := iv_ok h; refine (cl_ia (gk_13 hg) k4).trans ?_
        rcases iv_ite h with ⟨hc, h⟩ | ⟨hc, h⟩
        · refine (if_pos hc).trans ?_
          exact h
        · refine (if_neg hc).trans ?_
          exact h
      · refine (if_neg hc).trans ?_
        exact h
    · refine (if_neg hc).trans ?_
      refine (cl_gR (gk_32 hg) (gr_32_0 hg)).trans ?_
      refine (cl_gR (gk_1 hg) (gr_1_13 hg)).trans ?_
      refine (cl_gI h2.1).trans ?_
      obtain ⟨k2, h⟩ := iv_ok h; refine (cl_ia (gk_13 hg) k2).trans ?_
      rcases iv_ite h with ⟨hc, h⟩ | ⟨hc, h⟩
      · refine (if_pos hc).trans ?_
        exact h
      · refine (if_neg hc).trans ?_
        exact h
  · refine (if_neg hc).trans ?_
    exact h
theorem s_JString_checkIndex {g : am_G} {F : am_FT} (hF : F = am_F T0 g) (hg : GG g) {v0 : Int32} {v1 : Int32} {M : am_M} {r : am_R} (h : (
  am_ci (F 27 0 [.int v0, .int v1, .ref 1000050] [] M) fun x2 M1 => /- JPrec_checkIndex -/
  some (none, M1)) = some r) : F 102 0 [.int v0, .int v1] [] M = some r := by
  refine e_JString_checkIndex hF ?_
  obtain ⟨x2, M1, k1, h⟩ := iv_ci h; refine (cl_ci k1).trans ?_
  exact h
theorem s_Ledger_isWord {g : am_G} {F : am_FT} (hF : F = am_F T0 g) (hg : GG g) {w0 : Int64} {M : am_M} {r : am_R} (h : (
  F 104 5 [.long w0, .long w0, .int 0] [] M) = some r) : F 104 0 [.long w0] [] M = some r := by
  refine e_Ledger_isWord hF ?_
  exact h
theorem s_Ledger_isWord_5 {g : am_G} {F : am_FT} (hF : F = am_F T0 g) (hg : GG g) {w0 : Int64} {w2 : Int64} {v4 : Int32} {M : am_M} {r : am_R} (h : (
  if 8 ≤ v4 then
    if (lg_cmp w0 0) = 0 then
      am_rt 2 0 M
    else
      am_rt 2 1 M
  else
    if (lg_cmp w2 0) = 0 then
      if (lg_cmp w0 0) = 0 then
        am_rt 2 0 M
      else
        am_rt 2 1 M
    else
      am_ci (F 81 0 [.int (((w2 &&& 255)).toInt32)] [] M) fun x2 M1 => /- Tape_isLetter -/
      if x2 = 0 then
        am_rt 2 0 M1
      else
        F 104 5 [.long w0, .long ((w2.toUInt64 >>> ((8 : Int32).toInt64.toUInt64 &&& Int64.toUInt64 63)).toInt64), .int (v4 + 1)] [] M1) = some r) : F 104 5 [.long w0, .long w2, .int v4] [] M = some r := by
  refine e_Ledger_isWord_5 hF ?_
  rcases iv_ite h with ⟨hc, h⟩ | ⟨hc, h⟩
  · refine (if_pos hc).trans ?_
    rcases iv_ite h with ⟨hc, h⟩ | ⟨hc, h⟩
    · refine (if_pos hc).trans ?_
      exact h
    · refine (if_neg hc).trans ?_
      exact h
  · refine (if_neg hc).trans ?_
    rcases iv_ite h with ⟨hc, h⟩ | ⟨hc, h⟩
    · refine (if_pos hc).trans ?_
      rcases iv_ite h with ⟨hc, h⟩ | ⟨hc, h⟩
      · refine (if_pos hc).trans ?_
        exact h
      · refine (if_neg hc).trans ?_
        exact h
    · refine (if_neg hc).trans ?_
      obtain ⟨x2, M1, k1, h⟩ := iv_ci h; refine (cl_ci k1).trans ?_
      rcases iv_ite h with ⟨hc, h⟩ | ⟨hc, h⟩
      · refine (if_pos hc).trans ?_
        exact h
      · refine (if_neg hc).trans ?_
        exact h
theorem s_Links_numberedLink {g : am_G} {F : am_FT} (hF : F = am_F T0 g) (hg : GG g) {v1 : Int32} {v2 : Int32} {M : am_M} {r : am_R} (h : (
  am_ci (F 39 0 [.ref 42, .int v1, .int v2] [] M) fun x2 M1 => /- Links_numberOf -/
  if 0 ≤ x2 then
    am_ci (F 39 0 [.ref 42, .int v1, .int v2] [] M1) fun x4 M3 => /- Links_numberOf -/
    am_rt 1 x4 M3
  else
    if 200 ≤ (fI M1 42 2) then
      am_ci (F 39 0 [.ref 42, .int v1, .int v2] [] M1) fun x6 M5 => /- Links_numberOf -/
      am_rt 1 x6 M5
    else
      am_ok 200 ((fI M1 42 2)) <|
      am_lt (wI M1 43 ((fI M1 42 2)).toNatClampNeg v1) fun M7 =>
      am_ok 200 ((fI M7 42 2)) <|
      am_lt (wI M7 44 ((fI M7 42 2)).toNatClampNeg v2) fun M8 =>
      am_lt (fW M8 42 2 (((fI M8 42 2) + 1))) fun M9 =>
      am_ok 6400 (((v1 * 80) + v2)) <|
      am_lt (wI M9 45 (((v1 * 80) + v2)).toNatClampNeg ((fI M9 42 2))) fun M10 =>
      am_ci (F 39 0 [.ref 42, .int v1, .int v2] [] M10) fun x12 M11 => /- Links_numberOf -/
      am_rt 1 x12 M11) = some r) : F 105 0 [.ref 42, .int v1, .int v2] [] M = some r := by
  refine e_Links_numberedLink hF ?_
  refine (cl_rc (gk_42 hg)).trans ?_
  obtain ⟨x2, M1, k1, h⟩ := iv_ci h; refine (cl_ci k1).trans ?_
  rcases iv_ite h with ⟨hc, h⟩ | ⟨hc, h⟩
  · refine (if_pos hc).trans ?_
    refine (cl_rc (gk_42 hg)).trans ?_
    obtain ⟨x4, M3, k2, h⟩ := iv_ci h; refine (cl_ci k2).trans ?_
    exact h
  · refine (if_neg hc).trans ?_
    refine (cl_gI (gk_42 hg)).trans ?_
    rcases iv_ite h with ⟨hc, h⟩ | ⟨hc, h⟩
    · refine (if_pos hc).trans ?_
      refine (cl_rc (gk_42 hg)).trans ?_
      obtain ⟨x6, M5, k3, h⟩ := iv_ci h; refine (cl_ci k3).trans ?_
      exact h
    · refine (if_neg hc).trans ?_
      refine (cl_gR (gk_42 hg) (gr_42_0 hg)).trans ?_
      refine (cl_gI (gk_42 hg)).trans ?_
      obtain ⟨k4, h⟩ := iv_ok h; refine (cl_is (gk_43 hg) k4).trans ?_
      replace h := iv_lt h
      refine (cl_gR (gk_42 hg) (gr_42_1 hg)).trans ?_
      refine (cl_gI (gk_42 hg)).trans ?_
      obtain ⟨k5, h⟩ := iv_ok h; refine (cl_is (gk_44 hg) k5).trans ?_
      replace h := iv_lt h
      refine (cl_gI (gk_42 hg)).trans ?_
      refine (cl_pI (gk_42 hg)).trans ?_
      replace h := iv_lt h
      refine (cl_gR (gk_42 hg) (gr_42_3 hg)).trans ?_
      refine (cl_gI (gk_42 hg)).trans ?_
      obtain ⟨k6, h⟩ := iv_ok h; refine (cl_is (gk_45 hg) k6).trans ?_
      replace h := iv_lt h
      refine (cl_rc (gk_42 hg)).trans ?_
      obtain ⟨x12, M11, k7, h⟩ := iv_ci h; refine (cl_ci k7).trans ?_
      exact h
theorem s_Pupil_rideLink {g : am_G} {F : am_FT} (hF : F = am_F T0 g) (hg : GG g) {a0 : Nat} {v1 : Int32} {v2 : Int32} {M : am_M} (h0 : isPu g a0) {r : am_R} (h : (
  am_ok 200 v1 <|
  am_ci (F 25 0 [.int ((rI M (a0 + 1) v1.toNatClampNeg) + 1), .int 6] [] M) fun x2 M1 => /- JMath_min_III -/
  am_ok 200 v1 <|
  am_lt (wI M1 (a0 + 1) v1.toNatClampNeg x2) fun M3 =>
  am_ok 200 v1 <|
  am_lt (wI M3 (a0 + 2) v1.toNatClampNeg v2) fun M4 =>
  some (none, M4)) = some r) : F 143 0 [.ref a0, .int v1, .int v2] [] M = some r := by
  refine e_Pupil_rideLink hF ?_
  refine (cl_gR h0.1 h0.2.1).trans ?_
  refine (cl_gR h0.1 h0.2.1).trans ?_
  obtain ⟨k1, h⟩ := iv_ok h; refine (cl_ia h0.2.2.1 k1).trans ?_
  obtain ⟨x2, M1, k2, h⟩ := iv_ci h; refine (cl_ci k2).trans ?_
  obtain ⟨k3, h⟩ := iv_ok h; refine (cl_is h0.2.2.1 k3).trans ?_
  replace h := iv_lt h
  refine (cl_gR h0.1 h0.2.2.2.1).trans ?_
  obtain ⟨k4, h⟩ := iv_ok h; refine (cl_is h0.2.2.2.2 k4).trans ?_
  replace h := iv_lt h
  exact h
theorem s_Pupil_wouldHold {g : am_G} {F : am_FT} (hF : F = am_F T0 g) (hg : GG g) {a0 : Nat} {v1 : Int32} {v2 : Int32} {v3 : Int32} {M : am_M} (h0 : isPu g a0) {r : am_R} (h : (
  if v1 ≤ 0 then
    am_rt 2 0 M
  else
    if v2 ≤ v3 then
      am_ci (F 25 0 [.int v1, .int 6] [] M) fun x2 M1 => /- JMath_min_III -/
      if ((fI M a0 0) <<< ((x2 - 1) &&& 31)) < (v3 - v2) then
        am_rt 2 0 M1
      else
        am_rt 2 1 M1
    else
      am_rt 2 0 M) = some r) : F 144 0 [.ref a0, .int v1, .int v2, .int v3] [] M = some r := by
  refine e_Pupil_wouldHold hF ?_
  rcases iv_ite h with ⟨hc, h⟩ | ⟨hc, h⟩
  · refine (if_pos hc).trans ?_
    exact h
  · refine (if_neg hc).trans ?_
    rcases iv_ite h with ⟨hc, h⟩ | ⟨hc, h⟩
    · refine (if_pos hc).trans ?_
      refine (cl_gI h0.1).trans ?_
      obtain ⟨x2, M1, k1, h⟩ := iv_ci h; refine (cl_ci k1).trans ?_
      rcases iv_ite h with ⟨hc, h⟩ | ⟨hc, h⟩
      · refine (if_pos hc).trans ?_
        exact h
      · refine (if_neg hc).trans ?_
        exact h
    · refine (if_neg hc).trans ?_
      exact h
theorem s_RunSayer_examTold {g : am_G} {F : am_FT} (hF : F = am_F T0 g) (hg : GG g) {v1 : Int32} {v2 : Int32} {M : am_M} {r : am_R} (h : (
  am_ci (F 72 0 [.int v1, .int 0, .int ((fI M 0 15) - 1)] [] M) fun x2 M1 => /- RunSayer_outside -/
  if x2 = 0 then
    if v2 = 0 then
      am_ok 24 v1 <|
      am_rt 1 ((fI M1 (137 + 3 * v1.toNatClampNeg) 0)) M1
    else
    if v2 = 1 then
      am_ok 24 v1 <|
      am_rt 1 ((fI M1 (137 + 3 * v1.toNatClampNeg + 1) 0)) M1
    else
    if v2 = 2 then
      am_ok 24 v1 <|
      am_rt 1 ((fI M1 (137 + 3 * v1.toNatClampNeg + 1) 1)) M1
    else
    if v2 = 3 then
      am_ok 24 v1 <|
      am_rt 1 ((fI M1 (137 + 3 * v1.toNatClampNeg + 1) 2)) M1
    else
    if v2 = 4 then
      am_ok 24 v1 <|
      am_rt 1 ((fI M1 (137 + 3 * v1.toNatClampNeg + 1) 3)) M1
    else
    if v2 = 5 then
      am_ok 24 v1 <|
      am_rt 1 ((fI M1 (137 + 3 * v1.toNatClampNeg) 1)) M1
    else
    if v2 = 6 then
      am_ok 24 v1 <|
      am_rt 1 ((fI M1 (137 + 3 * v1.toNatClampNeg + 1) 5)) M1
    else
    if v2 = 7 then
      am_ok 24 v1 <|
      am_rt 1 ((fI M1 (137 + 3 * v1.toNatClampNeg) 2)) M1
    else
      am_rt 1 ((-2)) M1
  else
    am_rt 1 ((-1)) M1) = some r) : F 145 0 [.ref 0, .int v1, .int v2] [] M = some r := by
  refine e_RunSayer_examTold hF ?_
  refine (cl_gI (gk_0 hg)).trans ?_
  obtain ⟨x2, M1, k1, h⟩ := iv_ci h; refine (cl_ci k1).trans ?_
  rcases iv_ite h with ⟨hc, h⟩ | ⟨hc, h⟩
  · refine (if_pos hc).trans ?_
    rcases iv_ite h with ⟨hc, h⟩ | ⟨hc, h⟩
    · refine (if_pos hc).trans ?_
      refine (cl_gR (gk_0 hg) (gr_0_14 hg)).trans ?_
      obtain ⟨k2, h⟩ := iv_ok h; refine (cl_qa (gk_136 hg) (by decide) (by decide) k2 (gq_136 hg k2)).trans ?_
      have k3 := go_136 hg k2
      refine (cl_gI k3.1).trans ?_
      exact h
    · refine (if_neg hc).trans ?_
      rcases iv_ite h with ⟨hc, h⟩ | ⟨hc, h⟩
      · refine (if_pos hc).trans ?_
        refine (cl_gR (gk_0 hg) (gr_0_14 hg)).trans ?_
        obtain ⟨k4, h⟩ := iv_ok h; refine (cl_qa (gk_136 hg) (by decide) (by decide) k4 (gq_136 hg k4)).trans ?_
        have k5 := go_136 hg k4
        refine (cl_gR k5.1 k5.2.1).trans ?_
        refine (cl_gI k5.2.2.1).trans ?_
        exact h
      · refine (if_neg hc).trans ?_
        rcases iv_ite h with ⟨hc, h⟩ | ⟨hc, h⟩
        · refine (if_pos hc).trans ?_
          refine (cl_gR (gk_0 hg) (gr_0_14 hg)).trans ?_
          obtain ⟨k6, h⟩ := iv_ok h; refine (cl_qa (gk_136 hg) (by decide) (by decide) k6 (gq_136 hg k6)).trans ?_
          have k7 := go_136 hg k6
          refine (cl_gR k7.1 k7.2.1).trans ?_
          refine (cl_gI k7.2.2.1).trans ?_
          exact h
        · refine (if_neg hc).trans ?_
          rcases iv_ite h with ⟨hc, h⟩ | ⟨hc, h⟩
          · refine (if_pos hc).trans ?_
            refine (cl_gR (gk_0 hg) (gr_0_14 hg)).trans ?_
            obtain ⟨k8, h⟩ := iv_ok h; refine (cl_qa (gk_136 hg) (by decide) (by decide) k8 (gq_136 hg k8)).trans ?_
            have k9 := go_136 hg k8
            refine (cl_gR k9.1 k9.2.1).trans ?_
            refine (cl_gI k9.2.2.1).trans ?_
            exact h
          · refine (if_neg hc).trans ?_
            rcases iv_ite h with ⟨hc, h⟩ | ⟨hc, h⟩
            · refine (if_pos hc).trans ?_
              refine (cl_gR (gk_0 hg) (gr_0_14 hg)).trans ?_
              obtain ⟨k10, h⟩ := iv_ok h; refine (cl_qa (gk_136 hg) (by decide) (by decide) k10 (gq_136 hg k10)).trans ?_
              have k11 := go_136 hg k10
              refine (cl_gR k11.1 k11.2.1).trans ?_
              refine (cl_gI k11.2.2.1).trans ?_
              exact h
            · refine (if_neg hc).trans ?_
              rcases iv_ite h with ⟨hc, h⟩ | ⟨hc, h⟩
              · refine (if_pos hc).trans ?_
                refine (cl_gR (gk_0 hg) (gr_0_14 hg)).trans ?_
                obtain ⟨k12, h⟩ := iv_ok h; refine (cl_qa (gk_136 hg) (by decide) (by decide) k12 (gq_136 hg k12)).trans ?_
                have k13 := go_136 hg k12
                refine (cl_gI k13.1).trans ?_
                exact h
              · refine (if_neg hc).trans ?_
                rcases iv_ite h with ⟨hc, h⟩ | ⟨hc, h⟩
                · refine (if_pos hc).trans ?_
                  refine (cl_gR (gk_0 hg) (gr_0_14 hg)).trans ?_
                  obtain ⟨k14, h⟩ := iv_ok h; refine (cl_qa (gk_136 hg) (by decide) (by decide) k14 (gq_136 hg k14)).trans ?_
                  have k15 := go_136 hg k14
                  refine (cl_gR k15.1 k15.2.1).trans ?_
                  refine (cl_gI k15.2.2.1).trans ?_
                  exact h
                · refine (if_neg hc).trans ?_
                  rcases iv_ite h with ⟨hc, h⟩ | ⟨hc, h⟩
                  · refine (if_pos hc).trans ?_
                    refine (cl_gR (gk_0 hg) (gr_0_14 hg)).trans ?_
                    obtain ⟨k16, h⟩ := iv_ok h; refine (cl_qa (gk_136 hg) (by decide) (by decide) k16 (gq_136 hg k16)).trans ?_
                    have k17 := go_136 hg k16
                    refine (cl_gI k17.1).trans ?_
                    exact h
                  · refine (if_neg hc).trans ?_
                    exact h
  · refine (if_neg hc).trans ?_
    exact h
theorem s_RunSayer_feed {g : am_G} {F : am_FT} (hF : F = am_F T0 g) (hg : GG g) {w1 : Int64} {v3 : Int32} {M : am_M} {r : am_R} (h : (
  am_ci (F 72 0 [.int v3, .int 1, .int 8] [] M) fun x2 M1 => /- RunSayer_outside -/
  if x2 = 0 then
    if ((fI M1 61 1) + v3) ≤ 160 then
      am_cv (F 77 0 [.ref 61, .long w1, .int v3] [] M1) fun M3 => /- Tape_append -/
      am_rt 1 ((fI M3 61 1)) M3
    else
      am_rt 1 ((-4)) M1
  else
    am_rt 1 ((-2)) M1) = some r) : F 146 0 [.ref 0, .long w1, .int v3] [] M = some r := by
  refine e_RunSayer_feed hF ?_
  obtain ⟨x2, M1, k1, h⟩ := iv_ci h; refine (cl_ci k1).trans ?_
  rcases iv_ite h with ⟨hc, h⟩ | ⟨hc, h⟩
  · refine (if_pos hc).trans ?_
    refine (cl_gR (gk_0 hg) (gr_0_4 hg)).trans ?_
    refine (cl_gI (gk_61 hg)).trans ?_
    rcases iv_ite h with ⟨hc, h⟩ | ⟨hc, h⟩
    · refine (if_pos hc).trans ?_
      refine (cl_gR (gk_0 hg) (gr_0_4 hg)).trans ?_
      refine (cl_rc (gk_61 hg)).trans ?_
      obtain ⟨M3, k2, h⟩ := iv_cv h; refine (cl_cv k2).trans ?_
      refine (cl_gR (gk_0 hg) (gr_0_4 hg)).trans ?_
      refine (cl_gI (gk_61 hg)).trans ?_
      exact h
    · refine (if_neg hc).trans ?_
      exact h
  · refine (if_neg hc).trans ?_
    exact h
theorem s_RunSayer_leg {g : am_G} {F : am_FT} (hF : F = am_F T0 g) (hg : GG g) {v1 : Int32} {M : am_M} {r : am_R} (h : (
  am_ci (F 72 0 [.int v1, .int 0, .int ((fI M 66 5) - 1)] [] M) fun x2 M1 => /- RunSayer_outside -/
  if x2 = 0 then
    am_ok 81 v1 <|
    am_rt 1 ((rI M1 67 v1.toNatClampNeg)) M1
  else
    am_rt 1 ((-1)) M1) = some r) : F 147 0 [.ref 0, .int v1] [] M = some r := by
  refine e_RunSayer_leg hF ?_
  refine (cl_gR (gk_0 hg) (gr_0_6 hg)).trans ?_
  refine (cl_gI (gk_66 hg)).trans ?_
  obtain ⟨x2, M1, k1, h⟩ := iv_ci h; refine (cl_ci k1).trans ?_
  rcases iv_ite h with ⟨hc, h⟩ | ⟨hc, h⟩
  · refine (if_pos hc).trans ?_
    refine (cl_gR (gk_0 hg) (gr_0_6 hg)).trans ?_
    refine (cl_gR (gk_66 hg) (gr_66_4 hg)).trans ?_
    obtain ⟨k2, h⟩ := iv_ok h; refine (cl_ia (gk_67 hg) k2).trans ?_
    exact h
  · refine (if_neg hc).trans ?_
    exact h
theorem s_RunSayer_noBit {g : am_G} {F : am_FT} (hF : F = am_F T0 g) (hg : GG g) {v0 : Int32} {M : am_M} {r : am_R} (h : (
  am_ci (F 72 0 [.int v0, .int 0, .int 1] [] M) fun x2 M1 => /- RunSayer_outside -/
  am_rt 2 x2 M1) = some r) : F 148 0 [.int v0] [] M = some r := by
  refine e_RunSayer_noBit hF ?_
  obtain ⟨x2, M1, k1, h⟩ := iv_ci h; refine (cl_ci k1).trans ?_
  exact h
theorem s_RunSayer_noDoors {g : am_G} {F : am_FT} (hF : F = am_F T0 g) (hg : GG g) {v1 : Int32} {v2 : Int32} {M : am_M} {r : am_R} (h : (
  am_ci (F 72 0 [.int v1, .int 0, .int ((fI M 1 14) - 1)] [] M) fun x2 M1 => /- RunSayer_outside -/
  if x2 = 0 then
    am_ci (F 72 0 [.int v2, .int 0, .int ((fI M1 1 14) - 1)] [] M1) fun x4 M3 => /- RunSayer_outside -/
    if x4 = 0 then
      am_rt 2 0 M3
    else
      am_rt 2 1 M3
  else
    am_rt 2 1 M1) = some r) : F 149 0 [.ref 0, .int v1, .int v2] [] M = some r := by
  refine e_RunSayer_noDoors hF ?_
  refine (cl_gR (gk_0 hg) (gr_0_0 hg)).trans ?_
  refine (cl_gI (gk_1 hg)).trans ?_
  obtain ⟨x2, M1, k1, h⟩ := iv_ci h; refine (cl_ci k1).trans ?_
  rcases iv_ite h with ⟨hc, h⟩ | ⟨hc, h⟩
  · refine (if_pos hc).trans ?_
    refine (cl_gR (gk_0 hg) (gr_0_0 hg)).trans ?_
    refine (cl_gI (gk_1 hg)).trans ?_
    obtain ⟨x4, M3, k2, h⟩ := iv_ci h; refine (cl_ci k2).trans ?_
    rcases iv_ite h with ⟨hc, h⟩ | ⟨hc, h⟩
    · refine (if_pos hc).trans ?_
      exact h
    · refine (if_neg hc).trans ?_
      exact h
  · refine (if_neg hc).trans ?_
    exact h
theorem s_RunSayer_noHour {g : am_G} {F : am_FT} (hF : F = am_F T0 g) (hg : GG g) {v0 : Int32} {M : am_M} {r : am_R} (h : (
  am_ci (F 72 0 [.int v0, .int 0, .int 23] [] M) fun x2 M1 => /- RunSayer_outside -/
  am_rt 2 x2 M1) = some r) : F 150 0 [.int v0] [] M = some r := by
  refine e_RunSayer_noHour hF ?_
  obtain ⟨x2, M1, k1, h⟩ := iv_ci h; refine (cl_ci k1).trans ?_
  exact h
theorem s_RunSayer_noLeg {g : am_G} {F : am_FT} (hF : F = am_F T0 g) (hg : GG g) {v1 : Int32} {M : am_M} {r : am_R} (h : (
  am_ci (F 10 0 [.ref 1] [] M) fun x2 M1 => /- City_legCount -/
  am_ci (F 72 0 [.int v1, .int 0, .int (x2 - 1)] [] M1) fun x4 M3 => /- RunSayer_outside -/
  am_rt 2 x4 M3) = some r) : F 151 0 [.ref 0, .int v1] [] M = some r := by
  refine e_RunSayer_noLeg hF ?_
  refine (cl_gR (gk_0 hg) (gr_0_0 hg)).trans ?_
  refine (cl_rc (gk_1 hg)).trans ?_
  obtain ⟨x2, M1, k1, h⟩ := iv_ci h; refine (cl_ci k1).trans ?_
  obtain ⟨x4, M3, k2, h⟩ := iv_ci h; refine (cl_ci k2).trans ?_
  exact h
theorem s_RunSayer_noPupil {g : am_G} {F : am_FT} (hF : F = am_F T0 g) (hg : GG g) {v1 : Int32} {M : am_M} {r : am_R} (h : (
  am_ci (F 72 0 [.int v1, .int 0, .int ((fI M 0 11) - 1)] [] M) fun x2 M1 => /- RunSayer_outside -/
  am_rt 2 x2 M1) = some r) : F 152 0 [.ref 0, .int v1] [] M = some r := by
  refine e_RunSayer_noPupil hF ?_
  refine (cl_gI (gk_0 hg)).trans ?_
  obtain ⟨x2, M1, k1, h⟩ := iv_ci h; refine (cl_ci k1).trans ?_
  exact h
