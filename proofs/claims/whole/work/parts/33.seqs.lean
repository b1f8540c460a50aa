/-! THE ROWS of the methods, the graph being known (by program) -/
theorem s_Model_answersTo {g : am_G} {F : am_FT} (hF : F = am_F T0 g) (hg : GG g) {v1 : Int32} {w2 : Int64} {v4 : Int32} {M : am_M} {r : am_R} (h : (
  F 40 3 [.ref 219, .int v1, .long w2, .int v4, .int 0] [] M) = some r) : F 40 0 [.ref 219, .int v1, .long w2, .int v4] [] M = some r := by
  refine e_Model_answersTo hF ?_
  exact h
theorem s_Model_answersTo_3 {g : am_G} {F : am_FT} (hF : F = am_F T0 g) (hg : GG g) {v1 : Int32} {w2 : Int64} {v4 : Int32} {v5 : Int32} {M : am_M} {r : am_R} (h : (
  if (fI M 219 15) ≤ v5 then
    am_rt 2 0 M
  else
    am_ok 60 v5 <|
    if (rI M 231 v5.toNatClampNeg) = v1 then
      am_ok 60 v5 <|
      if (lg_cmp ((rJ M 232 v5.toNatClampNeg)) w2) = 0 then
        am_ok 60 v5 <|
        if v4 < (rI M 233 v5.toNatClampNeg) then
          F 40 3 [.ref 219, .int v1, .long w2, .int v4, .int (v5 + 1)] [] M
        else
          am_rt 2 1 M
      else
        F 40 3 [.ref 219, .int v1, .long w2, .int v4, .int (v5 + 1)] [] M
    else
      F 40 3 [.ref 219, .int v1, .long w2, .int v4, .int (v5 + 1)] [] M) = some r) : F 40 3 [.ref 219, .int v1, .long w2, .int v4, .int v5] [] M = some r := by
  refine e_Model_answersTo_3 hF ?_
  refine (cl_gI (gk_219 hg)).trans ?_
  rcases iv_ite h with ⟨hc, h⟩ | ⟨hc, h⟩
  · refine (if_pos hc).trans ?_
    exact h
  · refine (if_neg hc).trans ?_
    refine (cl_gR (gk_219 hg) (gr_219_16 hg)).trans ?_
    obtain ⟨k1, h⟩ := iv_ok h; refine (cl_ia (gk_231 hg) k1).trans ?_
    rcases iv_ite h with ⟨hc, h⟩ | ⟨hc, h⟩
    · refine (if_pos hc).trans ?_
      refine (cl_gR (gk_219 hg) (gr_219_17 hg)).trans ?_
      obtain ⟨k2, h⟩ := iv_ok h; refine (cl_la (gk_232 hg) k2).trans ?_
      rcases iv_ite h with ⟨hc, h⟩ | ⟨hc, h⟩
      · refine (if_pos hc).trans ?_
        refine (cl_gR (gk_219 hg) (gr_219_18 hg)).trans ?_
        obtain ⟨k3, h⟩ := iv_ok h; refine (cl_ia (gk_233 hg) k3).trans ?_
        rcases iv_ite h with ⟨hc, h⟩ | ⟨hc, h⟩
        · refine (if_pos hc).trans ?_
          exact h
        · refine (if_neg hc).trans ?_
          exact h
      · refine (if_neg hc).trans ?_
        exact h
    · refine (if_neg hc).trans ?_
      exact h
theorem s_Model_areAlike {g : am_G} {F : am_FT} (hF : F = am_F T0 g) (hg : GG g) {v1 : Int32} {v2 : Int32} {M : am_M} {r : am_R} (h : (
  am_ok 4 v1 <|
  am_ok 4 v2 <|
  if (rI M 274 v1.toNatClampNeg) = (rI M 274 v2.toNatClampNeg) then
    F 41 19 [.ref 219, .int v1, .int v2, .int 0] [] M
  else
    am_rt 2 0 M) = some r) : F 41 0 [.ref 219, .int v1, .int v2] [] M = some r := by
  refine e_Model_areAlike hF ?_
  refine (cl_gR (gk_219 hg) (gr_219_90 hg)).trans ?_
  obtain ⟨k1, h⟩ := iv_ok h; refine (cl_ia (gk_274 hg) k1).trans ?_
  refine (cl_gR (gk_219 hg) (gr_219_90 hg)).trans ?_
  obtain ⟨k2, h⟩ := iv_ok h; refine (cl_ia (gk_274 hg) k2).trans ?_
  rcases iv_ite h with ⟨hc, h⟩ | ⟨hc, h⟩
  · refine (if_pos hc).trans ?_
    exact h
  · refine (if_neg hc).trans ?_
    exact h
theorem s_Model_areAlike_19 {g : am_G} {F : am_FT} (hF : F = am_F T0 g) (hg : GG g) {v1 : Int32} {v2 : Int32} {v3 : Int32} {M : am_M} {r : am_R} (h : (
  am_ok 4 v1 <|
  if (rI M 274 v1.toNatClampNeg) ≤ v3 then
    am_rt 2 1 M
  else
    am_ok 320 (((80 * v1) + v3)) <|
    am_ok 320 (((80 * v2) + v3)) <|
    if (rI M 275 (((80 * v1) + v3)).toNatClampNeg) = (rI M 275 (((80 * v2) + v3)).toNatClampNeg) then
      F 41 19 [.ref 219, .int v1, .int v2, .int (v3 + 1)] [] M
    else
      am_rt 2 0 M) = some r) : F 41 19 [.ref 219, .int v1, .int v2, .int v3] [] M = some r := by
  refine e_Model_areAlike_19 hF ?_
  refine (cl_gR (gk_219 hg) (gr_219_90 hg)).trans ?_
  obtain ⟨k1, h⟩ := iv_ok h; refine (cl_ia (gk_274 hg) k1).trans ?_
  rcases iv_ite h with ⟨hc, h⟩ | ⟨hc, h⟩
  · refine (if_pos hc).trans ?_
    exact h
  · refine (if_neg hc).trans ?_
    refine (cl_gR (gk_219 hg) (gr_219_91 hg)).trans ?_
    obtain ⟨k2, h⟩ := iv_ok h; refine (cl_ia (gk_275 hg) k2).trans ?_
    refine (cl_gR (gk_219 hg) (gr_219_91 hg)).trans ?_
    obtain ⟨k3, h⟩ := iv_ok h; refine (cl_ia (gk_275 hg) k3).trans ?_
    rcases iv_ite h with ⟨hc, h⟩ | ⟨hc, h⟩
    · refine (if_pos hc).trans ?_
      exact h
    · refine (if_neg hc).trans ?_
      exact h
theorem s_Model_asPupil {g : am_G} {F : am_FT} (hF : F = am_F T0 g) (hg : GG g) {v1 : Int32} {v2 : Int32} {M : am_M} {r : am_R} (h : (
  am_lt (fW M 219 56 v1) fun M1 =>
  am_lt (fW M1 219 58 v2) fun M2 =>
  am_lt (fW M2 219 60 0) fun M3 =>
  some (none, M3)) = some r) : F 42 0 [.ref 219, .int v1, .int v2] [] M = some r := by
  refine e_Model_asPupil hF ?_
  refine (cl_pI (gk_219 hg)).trans ?_
  replace h := iv_lt h
  refine (cl_pI (gk_219 hg)).trans ?_
  replace h := iv_lt h
  refine (cl_pI (gk_219 hg)).trans ?_
  replace h := iv_lt h
  exact h
theorem s_Model_asReal {g : am_G} {F : am_FT} (hF : F = am_F T0 g) (hg : GG g) {v1 : Int32} {v2 : Int32} {v3 : Int32} {v4 : Int32} {M : am_M} {r : am_R} (h : (
  am_lt (fW M 219 56 ((-1))) fun M1 =>
  am_lt (fW M1 219 57 v1) fun M2 =>
  am_lt (fW M2 219 58 v2) fun M3 =>
  am_lt (fW M3 219 59 v3) fun M4 =>
  am_lt (fW M4 219 60 v4) fun M5 =>
  some (none, M5)) = some r) : F 43 0 [.ref 219, .int v1, .int v2, .int v3, .int v4] [] M = some r := by
  refine e_Model_asReal hF ?_
  refine (cl_pI (gk_219 hg)).trans ?_
  replace h := iv_lt h
  refine (cl_pI (gk_219 hg)).trans ?_
  replace h := iv_lt h
  refine (cl_pI (gk_219 hg)).trans ?_
  replace h := iv_lt h
  refine (cl_pI (gk_219 hg)).trans ?_
  replace h := iv_lt h
  refine (cl_pI (gk_219 hg)).trans ?_
  replace h := iv_lt h
  exact h
theorem s_Model_begin {g : am_G} {F : am_FT} (hF : F = am_F T0 g) (hg : GG g) {v1 : Int32} {M : am_M} {r : am_R} (h : (
  am_dv 2 <|
  if (v1 - v1 / 2 * 2) = 0 then
    am_dv 2 <|
    am_ok 40 ((v1 / 2)) <|
    am_rt 1 ((rI M 224 ((v1 / 2)).toNatClampNeg)) M
  else
    am_dv 2 <|
    am_ok 40 ((v1 / 2)) <|
    am_rt 1 ((rI M 225 ((v1 / 2)).toNatClampNeg)) M) = some r) : F 44 0 [.ref 219, .int v1] [] M = some r := by
  refine e_Model_begin hF ?_
  obtain ⟨k1, h⟩ := iv_dv h; refine (cl_dv k1).trans ?_
  rcases iv_ite h with ⟨hc, h⟩ | ⟨hc, h⟩
  · refine (if_pos hc).trans ?_
    refine (cl_gR (gk_219 hg) (gr_219_6 hg)).trans ?_
    obtain ⟨k4, h⟩ := iv_dv h; refine (cl_dv k4).trans ?_
    obtain ⟨k5, h⟩ := iv_ok h; refine (cl_ia (gk_224 hg) k5).trans ?_
    exact h
  · refine (if_neg hc).trans ?_
    refine (cl_gR (gk_219 hg) (gr_219_7 hg)).trans ?_
    obtain ⟨k2, h⟩ := iv_dv h; refine (cl_dv k2).trans ?_
    obtain ⟨k3, h⟩ := iv_ok h; refine (cl_ia (gk_225 hg) k3).trans ?_
    exact h
theorem s_Model_between {g : am_G} {F : am_FT} (hF : F = am_F T0 g) (hg : GG g) {v1 : Int32} {v2 : Int32} {v3 : Int32} {M : am_M} {r : am_R} (h : (
  am_ok 8 v1 <|
  am_ok 8 v2 <|
  if (rI M 228 v1.toNatClampNeg) = (rI M 228 v2.toNatClampNeg) then
    am_dv 2 <|
    if (v3 - v3 / 2 * 2) = 0 then
      am_ok 8 v2 <|
      am_ok 8 v1 <|
      if ((rI M 229 v2.toNatClampNeg) - (rI M 229 v1.toNatClampNeg)) ≤ 0 then
        am_rt 1 ((-1)) M
      else
        am_rt 1 (((rI M 229 v2.toNatClampNeg) - (rI M 229 v1.toNatClampNeg))) M
    else
      am_ok 8 v1 <|
      am_ok 8 v2 <|
      if ((rI M 229 v1.toNatClampNeg) - (rI M 229 v2.toNatClampNeg)) ≤ 0 then
        am_rt 1 ((-1)) M
      else
        am_rt 1 (((rI M 229 v1.toNatClampNeg) - (rI M 229 v2.toNatClampNeg))) M
  else
    am_rt 1 ((-1)) M) = some r) : F 45 0 [.ref 219, .int v1, .int v2, .int v3] [] M = some r := by
  refine e_Model_between hF ?_
  refine (cl_gR (gk_219 hg) (gr_219_11 hg)).trans ?_
  obtain ⟨k1, h⟩ := iv_ok h; refine (cl_ia (gk_228 hg) k1).trans ?_
  refine (cl_gR (gk_219 hg) (gr_219_11 hg)).trans ?_
  obtain ⟨k2, h⟩ := iv_ok h; refine (cl_ia (gk_228 hg) k2).trans ?_
  rcases iv_ite h with ⟨hc, h⟩ | ⟨hc, h⟩
  · refine (if_pos hc).trans ?_
    obtain ⟨k3, h⟩ := iv_dv h; refine (cl_dv k3).trans ?_
    rcases iv_ite h with ⟨hc, h⟩ | ⟨hc, h⟩
    · refine (if_pos hc).trans ?_
      refine (cl_gR (gk_219 hg) (gr_219_12 hg)).trans ?_
      obtain ⟨k6, h⟩ := iv_ok h; refine (cl_ia (gk_229 hg) k6).trans ?_
      refine (cl_gR (gk_219 hg) (gr_219_12 hg)).trans ?_
      obtain ⟨k7, h⟩ := iv_ok h; refine (cl_ia (gk_229 hg) k7).trans ?_
      rcases iv_ite h with ⟨hc, h⟩ | ⟨hc, h⟩
      · refine (if_pos hc).trans ?_
        exact h
      · refine (if_neg hc).trans ?_
        exact h
    · refine (if_neg hc).trans ?_
      refine (cl_gR (gk_219 hg) (gr_219_12 hg)).trans ?_
      obtain ⟨k4, h⟩ := iv_ok h; refine (cl_ia (gk_229 hg) k4).trans ?_
      refine (cl_gR (gk_219 hg) (gr_219_12 hg)).trans ?_
      obtain ⟨k5, h⟩ := iv_ok h; refine (cl_ia (gk_229 hg) k5).trans ?_
      rcases iv_ite h with ⟨hc, h⟩ | ⟨hc, h⟩
      · refine (if_pos hc).trans ?_
        exact h
      · refine (if_neg hc).trans ?_
        exact h
  · refine (if_neg hc).trans ?_
    exact h
theorem s_Model_comes {g : am_G} {F : am_FT} (hF : F = am_F T0 g) (hg : GG g) {v1 : Int32} {v2 : Int32} {M : am_M} {r : am_R} (h : (
  am_ok 72 ((fI M 219 31)) <|
  am_lt (wI M 244 ((fI M 219 31)).toNatClampNeg v1) fun M1 =>
  am_ok 72 ((fI M1 219 31)) <|
  am_lt (wI M1 245 ((fI M1 219 31)).toNatClampNeg v2) fun M2 =>
  am_lt (fW M2 219 31 (((fI M2 219 31) + 1))) fun M3 =>
  am_rt 1 v2 M3) = some r) : F 46 0 [.ref 219, .int v1, .int v2] [] M = some r := by
  refine e_Model_comes hF ?_
  refine (cl_gR (gk_219 hg) (gr_219_32 hg)).trans ?_
  refine (cl_gI (gk_219 hg)).trans ?_
  obtain ⟨k1, h⟩ := iv_ok h; refine (cl_is (gk_244 hg) k1).trans ?_
  replace h := iv_lt h
  refine (cl_gR (gk_219 hg) (gr_219_33 hg)).trans ?_
  refine (cl_gI (gk_219 hg)).trans ?_
  obtain ⟨k2, h⟩ := iv_ok h; refine (cl_is (gk_245 hg) k2).trans ?_
  replace h := iv_lt h
  refine (cl_gI (gk_219 hg)).trans ?_
  refine (cl_pI (gk_219 hg)).trans ?_
  replace h := iv_lt h
  exact h
theorem s_Model_cost {g : am_G} {F : am_FT} (hF : F = am_F T0 g) (hg : GG g) {v1 : Int32} {M : am_M} {r : am_R} (h : (
  if v1 = 0 then
    some (some (.long ((fJ M 219 73))), M)
  else
    if v1 = 1 then
      some (some (.long ((fJ M 219 74))), M)
    else
      some (some (.long ((-4611686018427387904))), M)) = some r) : F 47 0 [.ref 219, .int v1] [] M = some r := by
  refine e_Model_cost hF ?_
  rcases iv_ite h with ⟨hc, h⟩ | ⟨hc, h⟩
  · refine (if_pos hc).trans ?_
    refine (cl_gJ (gk_219 hg)).trans ?_
    exact h
  · refine (if_neg hc).trans ?_
    rcases iv_ite h with ⟨hc, h⟩ | ⟨hc, h⟩
    · refine (if_pos hc).trans ?_
      refine (cl_gJ (gk_219 hg)).trans ?_
      exact h
    · refine (if_neg hc).trans ?_
      exact h
theorem s_Model_count {g : am_G} {F : am_FT} (hF : F = am_F T0 g) (hg : GG g) {v1 : Int32} {M : am_M} {r : am_R} (h : (
  if v1 = 0 then
    am_rt 1 ((fI M 219 0)) M
  else
  if v1 = 1 then
    am_rt 1 ((fI M 219 4)) M
  else
  if v1 = 2 then
    am_rt 1 ((fI M 219 10)) M
  else
  if v1 = 3 then
    am_rt 1 ((fI M 219 14)) M
  else
  if v1 = 4 then
    am_rt 1 ((fI M 219 15)) M
  else
  if v1 = 5 then
    am_rt 1 ((fI M 219 19)) M
  else
  if v1 = 6 then
    am_rt 1 ((fI M 219 24)) M
  else
  if v1 = 7 then
    am_rt 1 ((fI M 219 37)) M
  else
  if v1 = 8 then
    am_rt 1 ((fI M 219 41)) M
  else
  if v1 = 9 then
    am_rt 1 ((fI M 219 49)) M
  else
  if v1 = 10 then
    am_rt 1 ((fI M 219 45)) M
  else
  if v1 = 11 then
    am_rt 1 ((fI M 219 36)) M
  else
  if v1 = 12 then
    am_rt 1 ((fI M 219 34)) M
  else
  if v1 = 13 then
    am_rt 1 ((fI M 219 31)) M
  else
    am_rt 1 ((-2)) M) = some r) : F 48 0 [.ref 219, .int v1] [] M = some r := by
  refine e_Model_count hF ?_
  rcases iv_ite h with ⟨hc, h⟩ | ⟨hc, h⟩
  · refine (if_pos hc).trans ?_
    refine (cl_gI (gk_219 hg)).trans ?_
    exact h
  · refine (if_neg hc).trans ?_
    rcases iv_ite h with ⟨hc, h⟩ | ⟨hc, h⟩
    · refine (if_pos hc).trans ?_
      refine (cl_gI (gk_219 hg)).trans ?_
      exact h
    · refine (if_neg hc).trans ?_
      rcases iv_ite h with ⟨hc, h⟩ | ⟨hc, h⟩
      · refine (if_pos hc).trans ?_
        refine (cl_gI (gk_219 hg)).trans ?_
        exact h
      · refine (if_neg hc).trans ?_
        rcases iv_ite h with ⟨hc, h⟩ | ⟨hc, h⟩
        · refine (if_pos hc).trans ?_
          refine (cl_gI (gk_219 hg)).trans ?_
          exact h
        · refine (if_neg hc).trans ?_
          rcases iv_ite h with ⟨hc, h⟩ | ⟨hc, h⟩
          · refine (if_pos hc).trans ?_
            refine (cl_gI (gk_219 hg)).trans ?_
            exact h
          · refine (if_neg hc).trans ?_
            rcases iv_ite h with ⟨hc, h⟩ | ⟨hc, h⟩
            · refine (if_pos hc).trans ?_
              refine (cl_gI (gk_219 hg)).trans ?_
              exact h
            · refine (if_neg hc).trans ?_
              rcases iv_ite h with ⟨hc, h⟩ | ⟨hc, h⟩
              · refine (if_pos hc).trans ?_
                refine (cl_gI (gk_219 hg)).trans ?_
                exact h
              · refine (if_neg hc).trans ?_
                rcases iv_ite h with ⟨hc, h⟩ | ⟨hc, h⟩
                · refine (if_pos hc).trans ?_
                  refine (cl_gI (gk_219 hg)).trans ?_
                  exact h
                · refine (if_neg hc).trans ?_
                  rcases iv_ite h with ⟨hc, h⟩ | ⟨hc, h⟩
                  · refine (if_pos hc).trans ?_
                    refine (cl_gI (gk_219 hg)).trans ?_
                    exact h
                  · refine (if_neg hc).trans ?_
                    rcases iv_ite h with ⟨hc, h⟩ | ⟨hc, h⟩
                    · refine (if_pos hc).trans ?_
                      refine (cl_gI (gk_219 hg)).trans ?_
                      exact h
                    · refine (if_neg hc).trans ?_
                      rcases iv_ite h with ⟨hc, h⟩ | ⟨hc, h⟩
                      · refine (if_pos hc).trans ?_
                        refine (cl_gI (gk_219 hg)).trans ?_
                        exact h
                      · refine (if_neg hc).trans ?_
                        rcases iv_ite h with ⟨hc, h⟩ | ⟨hc, h⟩
                        · refine (if_pos hc).trans ?_
                          refine (cl_gI (gk_219 hg)).trans ?_
                          exact h
                        · refine (if_neg hc).trans ?_
                          rcases iv_ite h with ⟨hc, h⟩ | ⟨hc, h⟩
                          · refine (if_pos hc).trans ?_
                            refine (cl_gI (gk_219 hg)).trans ?_
                            exact h
                          · refine (if_neg hc).trans ?_
                            rcases iv_ite h with ⟨hc, h⟩ | ⟨hc, h⟩
                            · refine (if_pos hc).trans ?_
                              refine (cl_gI (gk_219 hg)).trans ?_
                              exact h
                            · refine (if_neg hc).trans ?_
                              exact h
theorem s_Model_cross {g : am_G} {F : am_FT} (hF : F = am_F T0 g) (hg : GG g) {v0 : Int32} {v1 : Int32} {v2 : Int32} {v3 : Int32} {M : am_M} {r : am_R} (h : (
  am_rt 1 (((v0 * v3) - (v1 * v2))) M) = some r) : F 49 0 [.int v0, .int v1, .int v2, .int v3] [] M = some r := by
  refine e_Model_cross hF ?_
  exact h
theorem s_Model_end {g : am_G} {F : am_FT} (hF : F = am_F T0 g) (hg : GG g) {v1 : Int32} {M : am_M} {r : am_R} (h : (
  am_dv 2 <|
  if (v1 - v1 / 2 * 2) = 0 then
    am_dv 2 <|
    am_ok 40 ((v1 / 2)) <|
    am_rt 1 ((rI M 225 ((v1 / 2)).toNatClampNeg)) M
  else
    am_dv 2 <|
    am_ok 40 ((v1 / 2)) <|
    am_rt 1 ((rI M 224 ((v1 / 2)).toNatClampNeg)) M) = some r) : F 50 0 [.ref 219, .int v1] [] M = some r := by
  refine e_Model_end hF ?_
  obtain ⟨k1, h⟩ := iv_dv h; refine (cl_dv k1).trans ?_
  rcases iv_ite h with ⟨hc, h⟩ | ⟨hc, h⟩
  · refine (if_pos hc).trans ?_
    refine (cl_gR (gk_219 hg) (gr_219_7 hg)).trans ?_
    obtain ⟨k4, h⟩ := iv_dv h; refine (cl_dv k4).trans ?_
    obtain ⟨k5, h⟩ := iv_ok h; refine (cl_ia (gk_225 hg) k5).trans ?_
    exact h
  · refine (if_neg hc).trans ?_
    refine (cl_gR (gk_219 hg) (gr_219_6 hg)).trans ?_
    obtain ⟨k2, h⟩ := iv_dv h; refine (cl_dv k2).trans ?_
    obtain ⟨k3, h⟩ := iv_ok h; refine (cl_ia (gk_224 hg) k3).trans ?_
    exact h
theorem s_Model_fromDoor {g : am_G} {F : am_FT} (hF : F = am_F T0 g) (hg : GG g) {v1 : Int32} {v2 : Int32} {M : am_M} {r : am_R} (h : (
  am_dv 2 <|
  if (v2 - v2 / 2 * 2) = 0 then
    am_ok 8 v1 <|
    am_ok 40 ((rI M 228 v1.toNatClampNeg)) <|
    am_ok 8 v1 <|
    am_rt 1 (((rI M 226 ((rI M 228 v1.toNatClampNeg)).toNatClampNeg) - (rI M 229 v1.toNatClampNeg))) M
  else
    am_ok 8 v1 <|
    am_rt 1 ((rI M 229 v1.toNatClampNeg)) M) = some r) : F 51 0 [.ref 219, .int v1, .int v2] [] M = some r := by
  refine e_Model_fromDoor hF ?_
  obtain ⟨k1, h⟩ := iv_dv h; refine (cl_dv k1).trans ?_
  rcases iv_ite h with ⟨hc, h⟩ | ⟨hc, h⟩
  · refine (if_pos hc).trans ?_
    refine (cl_gR (gk_219 hg) (gr_219_8 hg)).trans ?_
    refine (cl_gR (gk_219 hg) (gr_219_11 hg)).trans ?_
    obtain ⟨k3, h⟩ := iv_ok h; refine (cl_ia (gk_228 hg) k3).trans ?_
    obtain ⟨k4, h⟩ := iv_ok h; refine (cl_ia (gk_226 hg) k4).trans ?_
    refine (cl_gR (gk_219 hg) (gr_219_12 hg)).trans ?_
    obtain ⟨k5, h⟩ := iv_ok h; refine (cl_ia (gk_229 hg) k5).trans ?_
    exact h
  · refine (if_neg hc).trans ?_
    refine (cl_gR (gk_219 hg) (gr_219_12 hg)).trans ?_
    obtain ⟨k2, h⟩ := iv_ok h; refine (cl_ia (gk_229 hg) k2).trans ?_
    exact h
theorem s_Model_here {g : am_G} {F : am_FT} (hF : F = am_F T0 g) (hg : GG g) {M : am_M} {r : am_R} (h : (
  if (fI M 219 36) ≤ (fI M 219 75) then
    am_rt 1 ((-1)) M
  else
    am_ok 160 ((fI M 219 75)) <|
    am_rt 1 ((rI M 246 ((fI M 219 75)).toNatClampNeg)) M) = some r) : F 52 0 [.ref 219] [] M = some r := by
  refine e_Model_here hF ?_
  refine (cl_gI (gk_219 hg)).trans ?_
  refine (cl_gI (gk_219 hg)).trans ?_
  rcases iv_ite h with ⟨hc, h⟩ | ⟨hc, h⟩
  · refine (if_pos hc).trans ?_
    exact h
  · refine (if_neg hc).trans ?_
    refine (cl_gR (gk_219 hg) (gr_219_35 hg)).trans ?_
    refine (cl_gI (gk_219 hg)).trans ?_
    obtain ⟨k1, h⟩ := iv_ok h; refine (cl_ia (gk_246 hg) k1).trans ?_
    exact h
theorem s_Model_in {g : am_G} {F : am_FT} (hF : F = am_F T0 g) (hg : GG g) {v0 : Int32} {v1 : Int32} {v2 : Int32} {M : am_M} {r : am_R} (h : (
  if v0 < v1 then
    am_rt 2 0 M
  else
    if v2 < v0 then
      am_rt 2 0 M
    else
      am_rt 2 1 M) = some r) : F 53 0 [.int v0, .int v1, .int v2] [] M = some r := by
  refine e_Model_in hF ?_
  rcases iv_ite h with ⟨hc, h⟩ | ⟨hc, h⟩
  · refine (if_pos hc).trans ?_
    exact h
  · refine (if_neg hc).trans ?_
    rcases iv_ite h with ⟨hc, h⟩ | ⟨hc, h⟩
    · refine (if_pos hc).trans ?_
      exact h
    · refine (if_neg hc).trans ?_
      exact h
theorem s_Model_isBanned {g : am_G} {F : am_FT} (hF : F = am_F T0 g) (hg : GG g) {v1 : Int32} {v2 : Int32} {v3 : Int32} {v4 : Int32} {M : am_M} {r : am_R} (h : (
  F 54 3 [.ref 219, .int v1, .int v2, .int v3, .int v4, .int 0] [] M) = some r) : F 54 0 [.ref 219, .int v1, .int v2, .int v3, .int v4] [] M = some r := by
  refine e_Model_isBanned hF ?_
  exact h
theorem s_Model_isBanned_3 {g : am_G} {F : am_FT} (hF : F = am_F T0 g) (hg : GG g) {v1 : Int32} {v2 : Int32} {v3 : Int32} {v4 : Int32} {v5 : Int32} {M : am_M} {r : am_R} (h : (
  if (fI M 219 24) ≤ v5 then
    am_rt 2 0 M
  else
    am_ok 40 v5 <|
    if v3 < (rI M 243 v5.toNatClampNeg) then
      am_ok 40 v5 <|
      if (rI M 238 v5.toNatClampNeg) = v1 then
        am_ok 40 v5 <|
        if (rI M 239 v5.toNatClampNeg) = v2 then
          if (0 : Int32) = 0 then
            F 54 3 [.ref 219, .int v1, .int v2, .int v3, .int v4, .int (v5 + 1)] [] M
          else
            am_ok 40 v5 <|
            am_dv 7 <|
            if (((rI M 242 v5.toNatClampNeg) >>> ((v3 - v3 / 7 * 7) &&& 31)) &&& 1) = 1 then
              am_rt 2 1 M
            else
              F 54 3 [.ref 219, .int v1, .int v2, .int v3, .int v4, .int (v5 + 1)] [] M
        else
          F 54 3 [.ref 219, .int v1, .int v2, .int v3, .int v4, .int (v5 + 1)] [] M
      else
        F 54 3 [.ref 219, .int v1, .int v2, .int v3, .int v4, .int (v5 + 1)] [] M
    else
      am_ok 40 v5 <|
      if v4 < (rI M 240 v5.toNatClampNeg) then
        am_ok 40 v5 <|
        if (rI M 238 v5.toNatClampNeg) = v1 then
          am_ok 40 v5 <|
          if (rI M 239 v5.toNatClampNeg) = v2 then
            if (0 : Int32) = 0 then
              F 54 3 [.ref 219, .int v1, .int v2, .int v3, .int v4, .int (v5 + 1)] [] M
            else
              am_ok 40 v5 <|
              am_dv 7 <|
              if (((rI M 242 v5.toNatClampNeg) >>> ((v3 - v3 / 7 * 7) &&& 31)) &&& 1) = 1 then
                am_rt 2 1 M
              else
                F 54 3 [.ref 219, .int v1, .int v2, .int v3, .int v4, .int (v5 + 1)] [] M
          else
            F 54 3 [.ref 219, .int v1, .int v2, .int v3, .int v4, .int (v5 + 1)] [] M
        else
          F 54 3 [.ref 219, .int v1, .int v2, .int v3, .int v4, .int (v5 + 1)] [] M
      else
        am_ok 40 v5 <|
        if (rI M 241 v5.toNatClampNeg) ≤ v4 then
          am_ok 40 v5 <|
          if (rI M 238 v5.toNatClampNeg) = v1 then
            am_ok 40 v5 <|
            if (rI M 239 v5.toNatClampNeg) = v2 then
              if (0 : Int32) = 0 then
                F 54 3 [.ref 219, .int v1, .int v2, .int v3, .int v4, .int (v5 + 1)] [] M
              else
                am_ok 40 v5 <|
                am_dv 7 <|
                if (((rI M 242 v5.toNatClampNeg) >>> ((v3 - v3 / 7 * 7) &&& 31)) &&& 1) = 1 then
                  am_rt 2 1 M
                else
                  F 54 3 [.ref 219, .int v1, .int v2, .int v3, .int v4, .int (v5 + 1)] [] M
            else
              F 54 3 [.ref 219, .int v1, .int v2, .int v3, .int v4, .int (v5 + 1)] [] M
          else
            F 54 3 [.ref 219, .int v1, .int v2, .int v3, .int v4, .int (v5 + 1)] [] M
        else
          am_ok 40 v5 <|
          if (rI M 238 v5.toNatClampNeg) = v1 then
            am_ok 40 v5 <|
            if (rI M 239 v5.toNatClampNeg) = v2 then
              if (1 : Int32) = 0 then
                F 54 3 [.ref 219, .int v1, .int v2, .int v3, .int v4, .int (v5 + 1)] [] M
              else
                am_ok 40 v5 <|
                am_dv 7 <|
                if (((rI M 242 v5.toNatClampNeg) >>> ((v3 - v3 / 7 * 7) &&& 31)) &&& 1) = 1 then
                  am_rt 2 1 M
                else
                  F 54 3 [.ref 219, .int v1, .int v2, .int v3, .int v4, .int (v5 + 1)] [] M
            else
              F 54 3 [.ref 219, .int v1, .int v2, .int v3, .int v4, .int (v5 + 1)] [] M
          else
            F 54 3 [.ref 219, .int v1, .int v2, .int v3, .int v4, .int (v5 + 1)] [] M) = some r) : F 54 3 [.ref 219, .int v1, .int v2, .int v3, .int v4, .int v5] [] M = some r := by
  refine e_Model_isBanned_3 hF ?_
  refine (cl_gI (gk_219 hg)).trans ?_
  rcases iv_ite h with ⟨hc, h⟩ | ⟨hc, h⟩
  · refine (if_pos hc).trans ?_
    exact h
  · refine (if_neg hc).trans ?_
    refine (cl_gR (gk_219 hg) (gr_219_30 hg)).trans ?_
    obtain ⟨k1, h⟩ := iv_ok h; refine (cl_ia (gk_243 hg) k1).trans ?_
    rcases iv_ite h with ⟨hc, h⟩ | ⟨hc, h⟩
    · refine (if_pos hc).trans ?_
      refine (cl_gR (gk_219 hg) (gr_219_25 hg)).trans ?_
      obtain ⟨k2, h⟩ := iv_ok h; refine (cl_ia (gk_238 hg) k2).trans ?_
      rcases iv_ite h with ⟨hc, h⟩ | ⟨hc, h⟩
      · refine (if_pos hc).trans ?_
        refine (cl_gR (gk_219 hg) (gr_219_26 hg)).trans ?_
        obtain ⟨k3, h⟩ := iv_ok h; refine (cl_ia (gk_239 hg) k3).trans ?_
        rcases iv_ite h with ⟨hc, h⟩ | ⟨hc, h⟩
        · refine (if_pos hc).trans ?_
          rcases iv_ite h with ⟨hc, h⟩ | ⟨hc, h⟩
          · refine (if_pos hc).trans ?_
            exact h
          · refine (if_neg hc).trans ?_
            refine (cl_gR (gk_219 hg) (gr_219_29 hg)).trans ?_
            obtain ⟨k4, h⟩ := iv_ok h; refine (cl_ia (gk_242 hg) k4).trans ?_
            obtain ⟨k5, h⟩ := iv_dv h; refine (cl_dv k5).trans ?_
            rcases iv_ite h with ⟨hc, h⟩ | ⟨hc, h⟩
            · refine (if_pos hc).trans ?_
              exact h
            · refine (if_neg hc).trans ?_
              exact h
        · refine (if_neg hc).trans ?_
          exact h
      · refine (if_neg hc).trans ?_
        exact h
    · refine (if_neg hc).trans ?_
      refine (cl_gR (gk_219 hg) (gr_219_27 hg)).trans ?_
      obtain ⟨k6, h⟩ := iv_ok h; refine (cl_ia (gk_240 hg) k6).trans ?_
      rcases iv_ite h with ⟨hc, h⟩ | ⟨hc, h⟩
      · refine (if_pos hc).trans ?_
        refine (cl_gR (gk_219 hg) (gr_219_25 hg)).trans ?_
        obtain ⟨k7, h⟩ := iv_ok h; refine (cl_ia (gk_238 hg) k7).trans ?_
        rcases iv_ite h with ⟨hc, h⟩ | ⟨hc, h⟩
        · refine (if_pos hc).trans ?_
          refine (cl_gR (gk_219 hg) (gr_219_26 hg)).trans ?_
          obtain ⟨k8, h⟩ := iv_ok h; refine (cl_ia (gk_239 hg) k8).trans ?_
          rcases iv_ite h with ⟨hc, h⟩ | ⟨hc, h⟩
          · refine (if_pos hc).trans ?_
            rcases iv_ite h with ⟨hc, h⟩ | ⟨hc, h⟩
            · refine (if_pos hc).trans ?_
              exact h
            · refine (if_neg hc).trans ?_
              refine (cl_gR (gk_219 hg) (gr_219_29 hg)).trans ?_
              obtain ⟨k9, h⟩ := iv_ok h; refine (cl_ia (gk_242 hg) k9).trans ?_
              obtain ⟨k10, h⟩ := iv_dv h; refine (cl_dv k10).trans ?_
              rcases iv_ite h with ⟨hc, h⟩ | ⟨hc, h⟩
              · refine (if_pos hc).trans ?_
                exact h
              · refine (if_neg hc).trans ?_
                exact h
          · refine (if_neg hc).trans ?_
            exact h
        · refine (if_neg hc).trans ?_
          exact h
      · refine (if_neg hc).trans ?_
        refine (cl_gR (gk_219 hg) (gr_219_28 hg)).trans ?_
        obtain ⟨k11, h⟩ := iv_ok h; refine (cl_ia (gk_241 hg) k11).trans ?_
        rcases iv_ite h with ⟨hc, h⟩ | ⟨hc, h⟩
        · refine (if_pos hc).trans ?_
          refine (cl_gR (gk_219 hg) (gr_219_25 hg)).trans ?_
          obtain ⟨k12, h⟩ := iv_ok h; refine (cl_ia (gk_238 hg) k12).trans ?_
          rcases iv_ite h with ⟨hc, h⟩ | ⟨hc, h⟩
          · refine (if_pos hc).trans ?_
            refine (cl_gR (gk_219 hg) (gr_219_26 hg)).trans ?_
            obtain ⟨k13, h⟩ := iv_ok h; refine (cl_ia (gk_239 hg) k13).trans ?_
            rcases iv_ite h with ⟨hc, h⟩ | ⟨hc, h⟩
            · refine (if_pos hc).trans ?_
              rcases iv_ite h with ⟨hc, h⟩ | ⟨hc, h⟩
              · refine (if_pos hc).trans ?_
                exact h
              · refine (if_neg hc).trans ?_
                refine (cl_gR (gk_219 hg) (gr_219_29 hg)).trans ?_
                obtain ⟨k14, h⟩ := iv_ok h; refine (cl_ia (gk_242 hg) k14).trans ?_
                obtain ⟨k15, h⟩ := iv_dv h; refine (cl_dv k15).trans ?_
                rcases iv_ite h with ⟨hc, h⟩ | ⟨hc, h⟩
                · refine (if_pos hc).trans ?_
                  exact h
                · refine (if_neg hc).trans ?_
                  exact h
            · refine (if_neg hc).trans ?_
              exact h
          · refine (if_neg hc).trans ?_
            exact h
        · refine (if_neg hc).trans ?_
          refine (cl_gR (gk_219 hg) (gr_219_25 hg)).trans ?_
          obtain ⟨k16, h⟩ := iv_ok h; refine (cl_ia (gk_238 hg) k16).trans ?_
          rcases iv_ite h with ⟨hc, h⟩ | ⟨hc, h⟩
          · refine (if_pos hc).trans ?_
            refine (cl_gR (gk_219 hg) (gr_219_26 hg)).trans ?_
            obtain ⟨k17, h⟩ := iv_ok h; refine (cl_ia (gk_239 hg) k17).trans ?_
            rcases iv_ite h with ⟨hc, h⟩ | ⟨hc, h⟩
            · refine (if_pos hc).trans ?_
              rcases iv_ite h with ⟨hc, h⟩ | ⟨hc, h⟩
              · refine (if_pos hc).trans ?_
                exact h
              · refine (if_neg hc).trans ?_
                refine (cl_gR (gk_219 hg) (gr_219_29 hg)).trans ?_
                obtain ⟨k18, h⟩ := iv_ok h; refine (cl_ia (gk_242 hg) k18).trans ?_
                obtain ⟨k19, h⟩ := iv_dv h; refine (cl_dv k19).trans ?_
                rcases iv_ite h with ⟨hc, h⟩ | ⟨hc, h⟩
                · refine (if_pos hc).trans ?_
                  exact h
                · refine (if_neg hc).trans ?_
                  exact h
            · refine (if_neg hc).trans ?_
              exact h
          · refine (if_neg hc).trans ?_
            exact h
theorem s_Model_isHeld {g : am_G} {F : am_FT} (hF : F = am_F T0 g) (hg : GG g) {v1 : Int32} {v2 : Int32} {v3 : Int32} {v4 : Int32} {M : am_M} {r : am_R} (h : (
  am_ok 25600 ((((6400 * v1) + (80 * v2)) + v3)) <|
  if (rI M 251 ((((6400 * v1) + (80 * v2)) + v3)).toNatClampNeg) ≤ 0 then
    am_rt 2 0 M
  else
    am_ok 25600 ((((6400 * v1) + (80 * v2)) + v3)) <|
    if v4 < (rI M 252 ((((6400 * v1) + (80 * v2)) + v3)).toNatClampNeg) then
      am_rt 2 0 M
    else
      am_ok 25600 ((((6400 * v1) + (80 * v2)) + v3)) <|
      am_ok 4 v1 <|
      am_ok 25600 ((((6400 * v1) + (80 * v2)) + v3)) <|
      if ((rI M 252 ((((6400 * v1) + (80 * v2)) + v3)).toNatClampNeg) + ((rI M 250 v1.toNatClampNeg) <<< (((rI M 251 ((((6400 * v1) + (80 * v2)) + v3)).toNatClampNeg) - 1) &&& 31))) < v4 then
        am_rt 2 0 M
      else
        am_rt 2 1 M) = some r) : F 55 0 [.ref 219, .int v1, .int v2, .int v3, .int v4] [] M = some r := by
  refine e_Model_isHeld hF ?_
  refine (cl_gR (gk_219 hg) (gr_219_43 hg)).trans ?_
  obtain ⟨k1, h⟩ := iv_ok h; refine (cl_ia (gk_251 hg) k1).trans ?_
  rcases iv_ite h with ⟨hc, h⟩ | ⟨hc, h⟩
  · refine (if_pos hc).trans ?_
    exact h
  · refine (if_neg hc).trans ?_
    refine (cl_gR (gk_219 hg) (gr_219_44 hg)).trans ?_
    obtain ⟨k2, h⟩ := iv_ok h; refine (cl_ia (gk_252 hg) k2).trans ?_
    rcases iv_ite h with ⟨hc, h⟩ | ⟨hc, h⟩
    · refine (if_pos hc).trans ?_
      exact h
    · refine (if_neg hc).trans ?_
      refine (cl_gR (gk_219 hg) (gr_219_44 hg)).trans ?_
      obtain ⟨k3, h⟩ := iv_ok h; refine (cl_ia (gk_252 hg) k3).trans ?_
      refine (cl_gR (gk_219 hg) (gr_219_42 hg)).trans ?_
      obtain ⟨k4, h⟩ := iv_ok h; refine (cl_ia (gk_250 hg) k4).trans ?_
      refine (cl_gR (gk_219 hg) (gr_219_43 hg)).trans ?_
      obtain ⟨k5, h⟩ := iv_ok h; refine (cl_ia (gk_251 hg) k5).trans ?_
      rcases iv_ite h with ⟨hc, h⟩ | ⟨hc, h⟩
      · refine (if_pos hc).trans ?_
        exact h
      · refine (if_neg hc).trans ?_
        exact h
theorem s_Model_isLess {g : am_G} {F : am_FT} (hF : F = am_F T0 g) (hg : GG g) {w1 : Int64} {w3 : Int64} {w5 : Int64} {w7 : Int64} {M : am_M} {r : am_R} (h : (
  if (fI M 219 60) = 0 then
    if (lg_cmp w1 w5) < 0 then
      am_rt 2 1 M
    else
      if (lg_cmp w1 w5) = 0 then
        if 0 ≤ (lg_cmp w3 w7) then
          am_rt 2 0 M
        else
          am_rt 2 1 M
      else
        am_rt 2 0 M
  else
    if (lg_cmp w3 w7) < 0 then
      am_rt 2 1 M
    else
      if (lg_cmp w3 w7) = 0 then
        if 0 ≤ (lg_cmp w1 w5) then
          am_rt 2 0 M
        else
          am_rt 2 1 M
      else
        am_rt 2 0 M) = some r) : F 56 0 [.ref 219, .long w1, .long w3, .long w5, .long w7] [] M = some r := by
  refine e_Model_isLess hF ?_
  refine (cl_gI (gk_219 hg)).trans ?_
  rcases iv_ite h with ⟨hc, h⟩ | ⟨hc, h⟩
  · refine (if_pos hc).trans ?_
    rcases iv_ite h with ⟨hc, h⟩ | ⟨hc, h⟩
    · refine (if_pos hc).trans ?_
      exact h
    · refine (if_neg hc).trans ?_
      rcases iv_ite h with ⟨hc, h⟩ | ⟨hc, h⟩
      · refine (if_pos hc).trans ?_
        rcases iv_ite h with ⟨hc, h⟩ | ⟨hc, h⟩
        · refine (if_pos hc).trans ?_
          exact h
        · refine (if_neg hc).trans ?_
          exact h
      · refine (if_neg hc).trans ?_
        exact h
  · refine (if_neg hc).trans ?_
    rcases iv_ite h with ⟨hc, h⟩ | ⟨hc, h⟩
    · refine (if_pos hc).trans ?_
      exact h
    · refine (if_neg hc).trans ?_
      rcases iv_ite h with ⟨hc, h⟩ | ⟨hc, h⟩
      · refine (if_pos hc).trans ?_
        rcases iv_ite h with ⟨hc, h⟩ | ⟨hc, h⟩
        · refine (if_pos hc).trans ?_
          exact h
        · refine (if_neg hc).trans ?_
          exact h
      · refine (if_neg hc).trans ?_
        exact h
theorem s_Model_isShut {g : am_G} {F : am_FT} (hF : F = am_F T0 g) (hg : GG g) {v1 : Int32} {v2 : Int32} {v3 : Int32} {M : am_M} {r : am_R} (h : (
  F 57 3 [.ref 219, .int v1, .int v2, .int v3, .int 0] [] M) = some r) : F 57 0 [.ref 219, .int v1, .int v2, .int v3] [] M = some r := by
  refine e_Model_isShut hF ?_
  exact h
theorem s_Model_isShut_3 {g : am_G} {F : am_FT} (hF : F = am_F T0 g) (hg : GG g) {v1 : Int32} {v2 : Int32} {v3 : Int32} {v4 : Int32} {M : am_M} {r : am_R} (h : (
  if (fI M 219 19) ≤ v4 then
    am_rt 2 0 M
  else
    am_ok 40 v4 <|
    if (rI M 234 v4.toNatClampNeg) = v1 then
      am_ok 40 v4 <|
      if v3 < (rI M 237 v4.toNatClampNeg) then
        F 57 3 [.ref 219, .int v1, .int v2, .int v3, .int (v4 + 1)] [] M
      else
        am_ok 40 v4 <|
        if v2 < (rI M 235 v4.toNatClampNeg) then
          F 57 3 [.ref 219, .int v1, .int v2, .int v3, .int (v4 + 1)] [] M
        else
          am_ok 40 v4 <|
          if (rI M 236 v4.toNatClampNeg) ≤ v2 then
            F 57 3 [.ref 219, .int v1, .int v2, .int v3, .int (v4 + 1)] [] M
          else
            am_rt 2 1 M
    else
      F 57 3 [.ref 219, .int v1, .int v2, .int v3, .int (v4 + 1)] [] M) = some r) : F 57 3 [.ref 219, .int v1, .int v2, .int v3, .int v4] [] M = some r := by
  refine e_Model_isShut_3 hF ?_
  refine (cl_gI (gk_219 hg)).trans ?_
  rcases iv_ite h with ⟨hc, h⟩ | ⟨hc, h⟩
  · refine (if_pos hc).trans ?_
    exact h
  · refine (if_neg hc).trans ?_
    refine (cl_gR (gk_219 hg) (gr_219_20 hg)).trans ?_
    obtain ⟨k1, h⟩ := iv_ok h; refine (cl_ia (gk_234 hg) k1).trans ?_
    rcases iv_ite h with ⟨hc, h⟩ | ⟨hc, h⟩
    · refine (if_pos hc).trans ?_
      refine (cl_gR (gk_219 hg) (gr_219_23 hg)).trans ?_
      obtain ⟨k2, h⟩ := iv_ok h; refine (cl_ia (gk_237 hg) k2).trans ?_
      rcases iv_ite h with ⟨hc, h⟩ | ⟨hc, h⟩
      · refine (if_pos hc).trans ?_
        exact h
      · refine (if_neg hc).trans ?_
        refine (cl_gR (gk_219 hg) (gr_219_21 hg)).trans ?_
        obtain ⟨k3, h⟩ := iv_ok h; refine (cl_ia (gk_235 hg) k3).trans ?_
        rcases iv_ite h with ⟨hc, h⟩ | ⟨hc, h⟩
        · refine (if_pos hc).trans ?_
          exact h
        · refine (if_neg hc).trans ?_
          refine (cl_gR (gk_219 hg) (gr_219_22 hg)).trans ?_
          obtain ⟨k4, h⟩ := iv_ok h; refine (cl_ia (gk_236 hg) k4).trans ?_
          rcases iv_ite h with ⟨hc, h⟩ | ⟨hc, h⟩
          · refine (if_pos hc).trans ?_
            exact h
          · refine (if_neg hc).trans ?_
            exact h
    · refine (if_neg hc).trans ?_
      exact h
theorem s_Model_isUnder {g : am_G} {F : am_FT} (hF : F = am_F T0 g) (hg : GG g) {v0 : Int32} {v1 : Int32} {M : am_M} {r : am_R} (h : (
  if v1 = 0 then
    am_rt 2 1 M
  else
    if v0 = v1 then
      am_rt 2 1 M
    else
      if v1 = 1 then
        if v0 = 3 then
          am_rt 2 1 M
        else
          if v1 = 2 then
            if 4 ≤ v0 then
              am_rt 2 1 M
            else
              if v1 = 4 then
                if v0 = 5 then
                  am_rt 2 1 M
                else
                  am_rt 2 0 M
              else
                am_rt 2 0 M
          else
            if v1 = 4 then
              if v0 = 5 then
                am_rt 2 1 M
              else
                am_rt 2 0 M
            else
              am_rt 2 0 M
      else
        if v1 = 2 then
          if 4 ≤ v0 then
            am_rt 2 1 M
          else
            if v1 = 4 then
              if v0 = 5 then
                am_rt 2 1 M
              else
                am_rt 2 0 M
            else
              am_rt 2 0 M
        else
          if v1 = 4 then
            if v0 = 5 then
              am_rt 2 1 M
            else
              am_rt 2 0 M
          else
            am_rt 2 0 M) = some r) : F 58 0 [.int v0, .int v1] [] M = some r := by
  refine e_Model_isUnder hF ?_
  rcases iv_ite h with ⟨hc, h⟩ | ⟨hc, h⟩
  · refine (if_pos hc).trans ?_
    exact h
  · refine (if_neg hc).trans ?_
    rcases iv_ite h with ⟨hc, h⟩ | ⟨hc, h⟩
    · refine (if_pos hc).trans ?_
      exact h
    · refine (if_neg hc).trans ?_
      rcases iv_ite h with ⟨hc, h⟩ | ⟨hc, h⟩
      · refine (if_pos hc).trans ?_
        rcases iv_ite h with ⟨hc, h⟩ | ⟨hc, h⟩
        · refine (if_pos hc).trans ?_
          exact h
        · refine (if_neg hc).trans ?_
          rcases iv_ite h with ⟨hc, h⟩ | ⟨hc, h⟩
          · refine (if_pos hc).trans ?_
            rcases iv_ite h with ⟨hc, h⟩ | ⟨hc, h⟩
            · refine (if_pos hc).trans ?_
              exact h
            · refine (if_neg hc).trans ?_
              rcases iv_ite h with ⟨hc, h⟩ | ⟨hc, h⟩
              · refine (if_pos hc).trans ?_
                rcases iv_ite h with ⟨hc, h⟩ | ⟨hc, h⟩
                · refine (if_pos hc).trans ?_
                  exact h
                · refine (if_neg hc).trans ?_
                  exact h
              · refine (if_neg hc).trans ?_
                exact h
          · refine (if_neg hc).trans ?_
            rcases iv_ite h with ⟨hc, h⟩ | ⟨hc, h⟩
            · refine (if_pos hc).trans ?_
              rcases iv_ite h with ⟨hc, h⟩ | ⟨hc, h⟩
              · refine (if_pos hc).trans ?_
                exact h
              · refine (if_neg hc).trans ?_
                exact h
            · refine (if_neg hc).trans ?_
              exact h
      · refine (if_neg hc).trans ?_
        rcases iv_ite h with ⟨hc, h⟩ | ⟨hc, h⟩
        · refine (if_pos hc).trans ?_
          rcases iv_ite h with ⟨hc, h⟩ | ⟨hc, h⟩
          · refine (if_pos hc).trans ?_
            exact h
          · refine (if_neg hc).trans ?_
            rcases iv_ite h with ⟨hc, h⟩ | ⟨hc, h⟩
            · refine (if_pos hc).trans ?_
              rcases iv_ite h with ⟨hc, h⟩ | ⟨hc, h⟩
              · refine (if_pos hc).trans ?_
                exact h
              · refine (if_neg hc).trans ?_
                exact h
            · refine (if_neg hc).trans ?_
              exact h
        · refine (if_neg hc).trans ?_
          rcases iv_ite h with ⟨hc, h⟩ | ⟨hc, h⟩
          · refine (if_pos hc).trans ?_
            rcases iv_ite h with ⟨hc, h⟩ | ⟨hc, h⟩
            · refine (if_pos hc).trans ?_
              exact h
            · refine (if_neg hc).trans ?_
              exact h
          · refine (if_neg hc).trans ?_
            exact h
theorem s_Model_laysBack {g : am_G} {F : am_FT} (hF : F = am_F T0 g) (hg : GG g) {v1 : Int32} {v2 : Int32} {M : am_M} {r : am_R} (h : (
  F 59 2 [.ref 219, .int v1, .int v2, .int 0] [] M) = some r) : F 59 0 [.ref 219, .int v1, .int v2] [] M = some r := by
  refine e_Model_laysBack hF ?_
  exact h
theorem s_Model_laysBack_2 {g : am_G} {F : am_FT} (hF : F = am_F T0 g) (hg : GG g) {v1 : Int32} {v2 : Int32} {v3 : Int32} {M : am_M} {r : am_R} (h : (
  if 6400 ≤ v3 then
    some (none, M)
  else
    if v2 = 0 then
      am_ok 6400 v3 <|
      am_ok 25600 (((6400 * v1) + v3)) <|
      am_lt (wI M 251 (((6400 * v1) + v3)).toNatClampNeg ((rI M 269 v3.toNatClampNeg))) fun M1 =>
      am_ok 6400 v3 <|
      am_ok 25600 (((6400 * v1) + v3)) <|
      am_lt (wI M1 252 (((6400 * v1) + v3)).toNatClampNeg ((rI M1 270 v3.toNatClampNeg))) fun M2 =>
      F 59 2 [.ref 219, .int v1, .int v2, .int (v3 + 1)] [] M2
    else
      am_ok 25600 (((6400 * v1) + v3)) <|
      am_ok 6400 v3 <|
      am_lt (wI M 269 v3.toNatClampNeg ((rI M 251 (((6400 * v1) + v3)).toNatClampNeg))) fun M3 =>
      am_ok 25600 (((6400 * v1) + v3)) <|
      am_ok 6400 v3 <|
      am_lt (wI M3 270 v3.toNatClampNeg ((rI M3 252 (((6400 * v1) + v3)).toNatClampNeg))) fun M4 =>
      F 59 2 [.ref 219, .int v1, .int v2, .int (v3 + 1)] [] M4) = some r) : F 59 2 [.ref 219, .int v1, .int v2, .int v3] [] M = some r := by
  refine e_Model_laysBack_2 hF ?_
  rcases iv_ite h with ⟨hc, h⟩ | ⟨hc, h⟩
  · refine (if_pos hc).trans ?_
    exact h
  · refine (if_neg hc).trans ?_
    rcases iv_ite h with ⟨hc, h⟩ | ⟨hc, h⟩
    · refine (if_pos hc).trans ?_
      refine (cl_gR (gk_219 hg) (gr_219_43 hg)).trans ?_
      refine (cl_gR (gk_219 hg) (gr_219_84 hg)).trans ?_
      obtain ⟨k1, h⟩ := iv_ok h; refine (cl_ia (gk_269 hg) k1).trans ?_
      obtain ⟨k2, h⟩ := iv_ok h; refine (cl_is (gk_251 hg) k2).trans ?_
      replace h := iv_lt h
      refine (cl_gR (gk_219 hg) (gr_219_44 hg)).trans ?_
      refine (cl_gR (gk_219 hg) (gr_219_85 hg)).trans ?_
      obtain ⟨k3, h⟩ := iv_ok h; refine (cl_ia (gk_270 hg) k3).trans ?_
      obtain ⟨k4, h⟩ := iv_ok h; refine (cl_is (gk_252 hg) k4).trans ?_
      replace h := iv_lt h
      exact h
    · refine (if_neg hc).trans ?_
      refine (cl_gR (gk_219 hg) (gr_219_84 hg)).trans ?_
      refine (cl_gR (gk_219 hg) (gr_219_43 hg)).trans ?_
      obtain ⟨k5, h⟩ := iv_ok h; refine (cl_ia (gk_251 hg) k5).trans ?_
      obtain ⟨k6, h⟩ := iv_ok h; refine (cl_is (gk_269 hg) k6).trans ?_
      replace h := iv_lt h
      refine (cl_gR (gk_219 hg) (gr_219_85 hg)).trans ?_
      refine (cl_gR (gk_219 hg) (gr_219_44 hg)).trans ?_
      obtain ⟨k7, h⟩ := iv_ok h; refine (cl_ia (gk_252 hg) k7).trans ?_
      obtain ⟨k8, h⟩ := iv_ok h; refine (cl_is (gk_270 hg) k8).trans ?_
      replace h := iv_lt h
      exact h
theorem s_Model_linkOf {g : am_G} {F : am_FT} (hF : F = am_F T0 g) (hg : GG g) {v1 : Int32} {v2 : Int32} {M : am_M} {r : am_R} (h : (
  am_ok 210 (((21 * v1) + v2)) <|
  am_ok 210 ((((21 * v1) + v2) + 1)) <|
  F 60 32 [.ref 219, .int v1, .int v2, .int ((80 * (rI M 248 (((21 * v1) + v2)).toNatClampNeg)) + (rI M 248 ((((21 * v1) + v2) + 1)).toNatClampNeg)), .int 0] [] M) = some r) : F 60 0 [.ref 219, .int v1, .int v2] [] M = some r := by
  refine e_Model_linkOf hF ?_
  refine (cl_gR (gk_219 hg) (gr_219_39 hg)).trans ?_
  obtain ⟨k1, h⟩ := iv_ok h; refine (cl_ia (gk_248 hg) k1).trans ?_
  refine (cl_gR (gk_219 hg) (gr_219_39 hg)).trans ?_
  obtain ⟨k2, h⟩ := iv_ok h; refine (cl_ia (gk_248 hg) k2).trans ?_
  exact h
theorem s_Model_linkOf_32 {g : am_G} {F : am_FT} (hF : F = am_F T0 g) (hg : GG g) {v1 : Int32} {v2 : Int32} {v3 : Int32} {v4 : Int32} {M : am_M} {r : am_R} (h : (
  if v2 ≤ v4 then
    am_rt 1 v3 M
  else
    am_ok 210 (((21 * v1) + v4)) <|
    am_ok 210 ((((21 * v1) + v4) + 1)) <|
    if ((80 * (rI M 248 (((21 * v1) + v4)).toNatClampNeg)) + (rI M 248 ((((21 * v1) + v4) + 1)).toNatClampNeg)) = v3 then
      am_rt 1 ((-1)) M
    else
      F 60 32 [.ref 219, .int v1, .int v2, .int v3, .int (v4 + 1)] [] M) = some r) : F 60 32 [.ref 219, .int v1, .int v2, .int v3, .int v4] [] M = some r := by
  refine e_Model_linkOf_32 hF ?_
  rcases iv_ite h with ⟨hc, h⟩ | ⟨hc, h⟩
  · refine (if_pos hc).trans ?_
    exact h
  · refine (if_neg hc).trans ?_
    refine (cl_gR (gk_219 hg) (gr_219_39 hg)).trans ?_
    obtain ⟨k1, h⟩ := iv_ok h; refine (cl_ia (gk_248 hg) k1).trans ?_
    refine (cl_gR (gk_219 hg) (gr_219_39 hg)).trans ?_
    obtain ⟨k2, h⟩ := iv_ok h; refine (cl_ia (gk_248 hg) k2).trans ?_
    rcases iv_ite h with ⟨hc, h⟩ | ⟨hc, h⟩
    · refine (if_pos hc).trans ?_
      exact h
    · refine (if_neg hc).trans ?_
      exact h
theorem s_Model_skips {g : am_G} {F : am_FT} (hF : F = am_F T0 g) (hg : GG g) {M : am_M} {r : am_R} (h : (
  if (fI M 219 36) ≤ (fI M 219 75) then
    am_lt (fW M 219 76 ((fI M 219 75))) fun M1 =>
    some (none, M1)
  else
    am_ok 160 ((fI M 219 75)) <|
    if (rI M 246 ((fI M 219 75)).toNatClampNeg) = 32 then
      am_lt (fW M 219 75 (((fI M 219 75) + 1))) fun M3 =>
      F 61 0 [.ref 219] [] M3
    else
      am_lt (fW M 219 76 ((fI M 219 75))) fun M2 =>
      some (none, M2)) = some r) : F 61 0 [.ref 219] [] M = some r := by
  refine e_Model_skips hF ?_
  refine (cl_gI (gk_219 hg)).trans ?_
  refine (cl_gI (gk_219 hg)).trans ?_
  rcases iv_ite h with ⟨hc, h⟩ | ⟨hc, h⟩
  · refine (if_pos hc).trans ?_
    refine (cl_gI (gk_219 hg)).trans ?_
    refine (cl_pI (gk_219 hg)).trans ?_
    replace h := iv_lt h
    exact h
  · refine (if_neg hc).trans ?_
    refine (cl_gR (gk_219 hg) (gr_219_35 hg)).trans ?_
    refine (cl_gI (gk_219 hg)).trans ?_
    obtain ⟨k1, h⟩ := iv_ok h; refine (cl_ia (gk_246 hg) k1).trans ?_
    rcases iv_ite h with ⟨hc, h⟩ | ⟨hc, h⟩
    · refine (if_pos hc).trans ?_
      refine (cl_gI (gk_219 hg)).trans ?_
      refine (cl_pI (gk_219 hg)).trans ?_
      replace h := iv_lt h
      exact h
    · refine (if_neg hc).trans ?_
      refine (cl_gI (gk_219 hg)).trans ?_
      refine (cl_pI (gk_219 hg)).trans ?_
      replace h := iv_lt h
      exact h
theorem s_Model_tells {g : am_G} {F : am_FT} (hF : F = am_F T0 g) (hg : GG g) {M : am_M} {r : am_R} (h : (
  am_lt (fW M 219 72 ((fI M 219 64))) fun M1 =>
  am_lt (fX M1 219 73 ((fJ M1 219 65))) fun M2 =>
  am_lt (fX M2 219 74 ((fJ M2 219 66))) fun M3 =>
  F 62 26 [.ref 219, .int 0] [] M3) = some r) : F 62 0 [.ref 219] [] M = some r := by
  refine e_Model_tells hF ?_
  refine (cl_gI (gk_219 hg)).trans ?_
  refine (cl_pI (gk_219 hg)).trans ?_
  replace h := iv_lt h
  refine (cl_gJ (gk_219 hg)).trans ?_
  refine (cl_pJ (gk_219 hg)).trans ?_
  replace h := iv_lt h
  refine (cl_gJ (gk_219 hg)).trans ?_
  refine (cl_pJ (gk_219 hg)).trans ?_
  replace h := iv_lt h
  exact h
theorem s_Model_tells_26 {g : am_G} {F : am_FT} (hF : F = am_F T0 g) (hg : GG g) {v1 : Int32} {M : am_M} {r : am_R} (h : (
  if (fI M 219 64) ≤ v1 then
    am_rt 1 ((fI M 219 64)) M
  else
    am_ok 80 v1 <|
    am_ok 80 v1 <|
    am_lt (wI M 265 v1.toNatClampNeg ((rI M 264 v1.toNatClampNeg))) fun M1 =>
    F 62 26 [.ref 219, .int (v1 + 1)] [] M1) = some r) : F 62 26 [.ref 219, .int v1] [] M = some r := by
  refine e_Model_tells_26 hF ?_
  refine (cl_gI (gk_219 hg)).trans ?_
  rcases iv_ite h with ⟨hc, h⟩ | ⟨hc, h⟩
  · refine (if_pos hc).trans ?_
    refine (cl_gI (gk_219 hg)).trans ?_
    exact h
  · refine (if_neg hc).trans ?_
    refine (cl_gR (gk_219 hg) (gr_219_71 hg)).trans ?_
    refine (cl_gR (gk_219 hg) (gr_219_63 hg)).trans ?_
    obtain ⟨k1, h⟩ := iv_ok h; refine (cl_ia (gk_264 hg) k1).trans ?_
    obtain ⟨k2, h⟩ := iv_ok h; refine (cl_is (gk_265 hg) k2).trans ?_
    replace h := iv_lt h
    exact h
theorem s_Model_toDoor {g : am_G} {F : am_FT} (hF : F = am_F T0 g) (hg : GG g) {v1 : Int32} {v2 : Int32} {M : am_M} {r : am_R} (h : (
  am_dv 2 <|
  if (v2 - v2 / 2 * 2) = 0 then
    am_ok 8 v1 <|
    am_rt 1 ((rI M 229 v1.toNatClampNeg)) M
  else
    am_ok 8 v1 <|
    am_ok 40 ((rI M 228 v1.toNatClampNeg)) <|
    am_ok 8 v1 <|
    am_rt 1 (((rI M 226 ((rI M 228 v1.toNatClampNeg)).toNatClampNeg) - (rI M 229 v1.toNatClampNeg))) M) = some r) : F 63 0 [.ref 219, .int v1, .int v2] [] M = some r := by
  refine e_Model_toDoor hF ?_
  obtain ⟨k1, h⟩ := iv_dv h; refine (cl_dv k1).trans ?_
  rcases iv_ite h with ⟨hc, h⟩ | ⟨hc, h⟩
  · refine (if_pos hc).trans ?_
    refine (cl_gR (gk_219 hg) (gr_219_12 hg)).trans ?_
    obtain ⟨k5, h⟩ := iv_ok h; refine (cl_ia (gk_229 hg) k5).trans ?_
    exact h
  · refine (if_neg hc).trans ?_
    refine (cl_gR (gk_219 hg) (gr_219_8 hg)).trans ?_
    refine (cl_gR (gk_219 hg) (gr_219_11 hg)).trans ?_
    obtain ⟨k2, h⟩ := iv_ok h; refine (cl_ia (gk_228 hg) k2).trans ?_
    obtain ⟨k3, h⟩ := iv_ok h; refine (cl_ia (gk_226 hg) k3).trans ?_
    refine (cl_gR (gk_219 hg) (gr_219_12 hg)).trans ?_
    obtain ⟨k4, h⟩ := iv_ok h; refine (cl_ia (gk_229 hg) k4).trans ?_
    exact h
theorem s_Model_wipe {g : am_G} {F : am_FT} (hF : F = am_F T0 g) (hg : GG g) {M : am_M} {r : am_R} (h : (
  am_lt (fW M 219 36 0) fun M1 =>
  am_rt 1 ((fI M 219 36)) M1) = some r) : F 64 0 [.ref 219] [] M = some r := by
  refine e_Model_wipe hF ?_
  refine (cl_gI (gk_219 hg)).trans ?_
  refine (cl_pI (gk_219 hg)).trans ?_
  replace h := iv_lt h
  exact h
theorem s_Model_wordOf {g : am_G} {F : am_FT} (hF : F = am_F T0 g) (hg : GG g) {v0 : Int32} {v1 : Int32} {v2 : Int32} {v3 : Int32} {v4 : Int32} {M : am_M} {r : am_R} (h : (
  if v3 = 0 then
    if v4 = 0 then
      some (some (.long (((((v0.toInt64 <<< ((8 : Int32).toInt64 &&& 63)) ||| v1.toInt64) <<< ((8 : Int32).toInt64 &&& 63)) ||| v2.toInt64))), M)
    else
      some (some (.long (((((((v0.toInt64 <<< ((8 : Int32).toInt64 &&& 63)) ||| v1.toInt64) <<< ((8 : Int32).toInt64 &&& 63)) ||| v2.toInt64) <<< ((8 : Int32).toInt64 &&& 63)) ||| v4.toInt64))), M)
  else
    if v4 = 0 then
      some (some (.long (((((((v0.toInt64 <<< ((8 : Int32).toInt64 &&& 63)) ||| v1.toInt64) <<< ((8 : Int32).toInt64 &&& 63)) ||| v2.toInt64) <<< ((8 : Int32).toInt64 &&& 63)) ||| v3.toInt64))), M)
    else
      some (some (.long (((((((((v0.toInt64 <<< ((8 : Int32).toInt64 &&& 63)) ||| v1.toInt64) <<< ((8 : Int32).toInt64 &&& 63)) ||| v2.toInt64) <<< ((8 : Int32).toInt64 &&& 63)) ||| v3.toInt64) <<< ((8 : Int32).toInt64 &&& 63)) ||| v4.toInt64))), M)) = some r) : F 65 0 [.int v0, .int v1, .int v2, .int v3, .int v4] [] M = some r := by
  refine e_Model_wordOf hF ?_
  rcases iv_ite h with ⟨hc, h⟩ | ⟨hc, h⟩
  · refine (if_pos hc).trans ?_
    rcases iv_ite h with ⟨hc, h⟩ | ⟨hc, h⟩
    · refine (if_pos hc).trans ?_
      exact h
    · refine (if_neg hc).trans ?_
      exact h
  · refine (if_neg hc).trans ?_
    rcases iv_ite h with ⟨hc, h⟩ | ⟨hc, h⟩
    · refine (if_pos hc).trans ?_
      exact h
    · refine (if_neg hc).trans ?_
      exact h
theorem s_Model_cell {g : am_G} {F : am_FT} (hF : F = am_F T0 g) (hg : GG g) {v1 : Int32} {v2 : Int32} {v3 : Int32} {M : am_M} {r : am_R} (h : (
  am_ci (F 53 0 [.int v1, .int 0, .int 3] [] M) fun x2 M1 => /- Model_in -/
  if x2 = 0 then
    am_rt 1 ((-2)) M1
  else
    am_ok 4 v1 <|
    if (rI M1 259 v1.toNatClampNeg) = (-1) then
      am_rt 1 ((-11)) M1
    else
      am_ok 4 v1 <|
      am_ci (F 53 0 [.int v2, .int 0, .int ((rI M1 260 v1.toNatClampNeg) - 1)] [] M1) fun x4 M3 => /- Model_in -/
      if x4 = 0 then
        am_rt 1 ((-12)) M3
      else
        am_ok 4 v1 <|
        if (rI M3 259 v1.toNatClampNeg) = 0 then
          am_ok 400 (((100 * v1) + v2)) <|
          am_lt (wI M3 261 (((100 * v1) + v2)).toNatClampNeg v3.toInt8.toInt32) fun M7 =>
          am_rt 1 1 M7
        else
          am_ok 4 v1 <|
          if (rI M3 259 v1.toNatClampNeg) = 1 then
            am_ok 400 (((100 * v1) + v2)) <|
            am_lt (wI M3 261 (((100 * v1) + v2)).toNatClampNeg v3.toInt16.toInt32) fun M6 =>
            am_rt 1 1 M6
          else
            am_ok 400 (((100 * v1) + v2)) <|
            am_lt (wI M3 261 (((100 * v1) + v2)).toNatClampNeg v3) fun M5 =>
            am_rt 1 1 M5) = some r) : F 106 0 [.ref 219, .int v1, .int v2, .int v3] [] M = some r := by
  refine e_Model_cell hF ?_
  obtain ⟨x2, M1, k1, h⟩ := iv_ci h; refine (cl_ci k1).trans ?_
  rcases iv_ite h with ⟨hc, h⟩ | ⟨hc, h⟩
  · refine (if_pos hc).trans ?_
    exact h
  · refine (if_neg hc).trans ?_
    refine (cl_gR (gk_219 hg) (gr_219_53 hg)).trans ?_
    obtain ⟨k2, h⟩ := iv_ok h; refine (cl_ia (gk_259 hg) k2).trans ?_
    rcases iv_ite h with ⟨hc, h⟩ | ⟨hc, h⟩
    · refine (if_pos hc).trans ?_
      exact h
    · refine (if_neg hc).trans ?_
      refine (cl_gR (gk_219 hg) (gr_219_54 hg)).trans ?_
      obtain ⟨k3, h⟩ := iv_ok h; refine (cl_ia (gk_260 hg) k3).trans ?_
      obtain ⟨x4, M3, k4, h⟩ := iv_ci h; refine (cl_ci k4).trans ?_
      rcases iv_ite h with ⟨hc, h⟩ | ⟨hc, h⟩
      · refine (if_pos hc).trans ?_
        exact h
      · refine (if_neg hc).trans ?_
        refine (cl_gR (gk_219 hg) (gr_219_55 hg)).trans ?_
        refine (cl_gR (gk_219 hg) (gr_219_53 hg)).trans ?_
        obtain ⟨k5, h⟩ := iv_ok h; refine (cl_ia (gk_259 hg) k5).trans ?_
        rcases iv_ite h with ⟨hc, h⟩ | ⟨hc, h⟩
        · refine (if_pos hc).trans ?_
          obtain ⟨k9, h⟩ := iv_ok h; refine (cl_is (gk_261 hg) k9).trans ?_
          replace h := iv_lt h
          exact h
        · refine (if_neg hc).trans ?_
          refine (cl_gR (gk_219 hg) (gr_219_53 hg)).trans ?_
          obtain ⟨k6, h⟩ := iv_ok h; refine (cl_ia (gk_259 hg) k6).trans ?_
          rcases iv_ite h with ⟨hc, h⟩ | ⟨hc, h⟩
          · refine (if_pos hc).trans ?_
            obtain ⟨k8, h⟩ := iv_ok h; refine (cl_is (gk_261 hg) k8).trans ?_
            replace h := iv_lt h
            exact h
          · refine (if_neg hc).trans ?_
            obtain ⟨k7, h⟩ := iv_ok h; refine (cl_is (gk_261 hg) k7).trans ?_
            replace h := iv_lt h
            exact h
theorem s_Model_copy {g : am_G} {F : am_FT} (hF : F = am_F T0 g) (hg : GG g) {v1 : Int32} {v2 : Int32} {v3 : Int32} {v4 : Int32} {v5 : Int32} {M : am_M} {r : am_R} (h : (
  am_ci (F 53 0 [.int v1, .int 0, .int 3] [] M) fun x2 M1 => /- Model_in -/
  if x2 = 0 then
    am_rt 1 ((-2)) M1
  else
    am_ci (F 53 0 [.int v3, .int 0, .int 3] [] M1) fun x4 M3 => /- Model_in -/
    if x4 = 0 then
      am_rt 1 ((-2)) M3
    else
      am_ok 4 v1 <|
      if (rI M3 259 v1.toNatClampNeg) = (-1) then
        am_rt 1 ((-11)) M3
      else
        am_ok 4 v3 <|
        if (rI M3 259 v3.toNatClampNeg) = (-1) then
          am_rt 1 ((-11)) M3
        else
          am_ok 4 v1 <|
          am_ok 4 v3 <|
          if (rI M3 259 v1.toNatClampNeg) = (rI M3 259 v3.toNatClampNeg) then
            if v5 < 0 then
              am_rt 1 ((-12)) M3
            else
              if v2 < 0 then
                am_rt 1 ((-12)) M3
              else
                if v4 < 0 then
                  am_rt 1 ((-12)) M3
                else
                  am_ok 4 v1 <|
                  if (rI M3 260 v1.toNatClampNeg) < v2 then
                    am_rt 1 ((-12)) M3
                  else
                    am_ok 4 v3 <|
                    if (rI M3 260 v3.toNatClampNeg) < v4 then
                      am_rt 1 ((-12)) M3
                    else
                      am_ok 4 v1 <|
                      if ((rI M3 260 v1.toNatClampNeg) - v2) < v5 then
                        am_rt 1 ((-12)) M3
                      else
                        am_ok 4 v3 <|
                        if v5 ≤ ((rI M3 260 v3.toNatClampNeg) - v4) then
                          F 107 147 [.ref 219, .int v5, .int ((100 * v1) + v2), .int ((100 * v3) + v4), .int 0] [] M3
                        else
                          am_rt 1 ((-12)) M3
          else
            am_rt 1 ((-13)) M3) = some r) : F 107 0 [.ref 219, .int v1, .int v2, .int v3, .int v4, .int v5] [] M = some r := by
  refine e_Model_copy hF ?_
  obtain ⟨x2, M1, k1, h⟩ := iv_ci h; refine (cl_ci k1).trans ?_
  rcases iv_ite h with ⟨hc, h⟩ | ⟨hc, h⟩
  · refine (if_pos hc).trans ?_
    exact h
  · refine (if_neg hc).trans ?_
    obtain ⟨x4, M3, k2, h⟩ := iv_ci h; refine (cl_ci k2).trans ?_
    rcases iv_ite h with ⟨hc, h⟩ | ⟨hc, h⟩
    · refine (if_pos hc).trans ?_
      exact h
    · refine (if_neg hc).trans ?_
      refine (cl_gR (gk_219 hg) (gr_219_53 hg)).trans ?_
      obtain ⟨k3, h⟩ := iv_ok h; refine (cl_ia (gk_259 hg) k3).trans ?_
      rcases iv_ite h with ⟨hc, h⟩ | ⟨hc, h⟩
      · refine (if_pos hc).trans ?_
        exact h
      · refine (if_neg hc).trans ?_
        refine (cl_gR (gk_219 hg) (gr_219_53 hg)).trans ?_
        obtain ⟨k4, h⟩ := iv_ok h; refine (cl_ia (gk_259 hg) k4).trans ?_
        rcases iv_ite h with ⟨hc, h⟩ | ⟨hc, h⟩
        · refine (if_pos hc).trans ?_
          exact h
        · refine (if_neg hc).trans ?_
          refine (cl_gR (gk_219 hg) (gr_219_53 hg)).trans ?_
          obtain ⟨k5, h⟩ := iv_ok h; refine (cl_ia (gk_259 hg) k5).trans ?_
          refine (cl_gR (gk_219 hg) (gr_219_53 hg)).trans ?_
          obtain ⟨k6, h⟩ := iv_ok h; refine (cl_ia (gk_259 hg) k6).trans ?_
          rcases iv_ite h with ⟨hc, h⟩ | ⟨hc, h⟩
          · refine (if_pos hc).trans ?_
            rcases iv_ite h with ⟨hc, h⟩ | ⟨hc, h⟩
            · refine (if_pos hc).trans ?_
              exact h
            · refine (if_neg hc).trans ?_
              rcases iv_ite h with ⟨hc, h⟩ | ⟨hc, h⟩
              · refine (if_pos hc).trans ?_
                exact h
              · refine (if_neg hc).trans ?_
                rcases iv_ite h with ⟨hc, h⟩ | ⟨hc, h⟩
                · refine (if_pos hc).trans ?_
                  exact h
                · refine (if_neg hc).trans ?_
                  refine (cl_gR (gk_219 hg) (gr_219_54 hg)).trans ?_
                  obtain ⟨k7, h⟩ := iv_ok h; refine (cl_ia (gk_260 hg) k7).trans ?_
                  rcases iv_ite h with ⟨hc, h⟩ | ⟨hc, h⟩
                  · refine (if_pos hc).trans ?_
                    exact h
                  · refine (if_neg hc).trans ?_
                    refine (cl_gR (gk_219 hg) (gr_219_54 hg)).trans ?_
                    obtain ⟨k8, h⟩ := iv_ok h; refine (cl_ia (gk_260 hg) k8).trans ?_
                    rcases iv_ite h with ⟨hc, h⟩ | ⟨hc, h⟩
                    · refine (if_pos hc).trans ?_
                      exact h
                    · refine (if_neg hc).trans ?_
                      refine (cl_gR (gk_219 hg) (gr_219_54 hg)).trans ?_
                      obtain ⟨k9, h⟩ := iv_ok h; refine (cl_ia (gk_260 hg) k9).trans ?_
                      rcases iv_ite h with ⟨hc, h⟩ | ⟨hc, h⟩
                      · refine (if_pos hc).trans ?_
                        exact h
                      · refine (if_neg hc).trans ?_
                        refine (cl_gR (gk_219 hg) (gr_219_54 hg)).trans ?_
                        obtain ⟨k10, h⟩ := iv_ok h; refine (cl_ia (gk_260 hg) k10).trans ?_
                        rcases iv_ite h with ⟨hc, h⟩ | ⟨hc, h⟩
                        · refine (if_pos hc).trans ?_
                          exact h
                        · refine (if_neg hc).trans ?_
                          exact h
          · refine (if_neg hc).trans ?_
            exact h
theorem s_Model_copy_147 {g : am_G} {F : am_FT} (hF : F = am_F T0 g) (hg : GG g) {v5 : Int32} {v6 : Int32} {v7 : Int32} {v8 : Int32} {M : am_M} {r : am_R} (h : (
  if v5 ≤ v8 then
    am_rt 1 v5 M
  else
    if v7 ≤ v6 then
      am_ok 400 ((v6 + v8)) <|
      am_ok 400 ((v7 + v8)) <|
      am_lt (wI M 261 ((v7 + v8)).toNatClampNeg ((rI M 261 ((v6 + v8)).toNatClampNeg))) fun M1 =>
      F 107 147 [.ref 219, .int v5, .int v6, .int v7, .int (v8 + 1)] [] M1
    else
      am_ok 400 ((v6 + ((v5 - 1) - v8))) <|
      am_ok 400 ((v7 + ((v5 - 1) - v8))) <|
      am_lt (wI M 261 ((v7 + ((v5 - 1) - v8))).toNatClampNeg ((rI M 261 ((v6 + ((v5 - 1) - v8))).toNatClampNeg))) fun M2 =>
      F 107 147 [.ref 219, .int v5, .int v6, .int v7, .int (v8 + 1)] [] M2) = some r) : F 107 147 [.ref 219, .int v5, .int v6, .int v7, .int v8] [] M = some r := by
  refine e_Model_copy_147 hF ?_
  rcases iv_ite h with ⟨hc, h⟩ | ⟨hc, h⟩
  · refine (if_pos hc).trans ?_
    exact h
  · refine (if_neg hc).trans ?_
    rcases iv_ite h with ⟨hc, h⟩ | ⟨hc, h⟩
    · refine (if_pos hc).trans ?_
      refine (cl_gR (gk_219 hg) (gr_219_55 hg)).trans ?_
      refine (cl_gR (gk_219 hg) (gr_219_55 hg)).trans ?_
      obtain ⟨k1, h⟩ := iv_ok h; refine (cl_ia (gk_261 hg) k1).trans ?_
      obtain ⟨k2, h⟩ := iv_ok h; refine (cl_is (gk_261 hg) k2).trans ?_
      replace h := iv_lt h
      exact h
    · refine (if_neg hc).trans ?_
      refine (cl_gR (gk_219 hg) (gr_219_55 hg)).trans ?_
      refine (cl_gR (gk_219 hg) (gr_219_55 hg)).trans ?_
      obtain ⟨k3, h⟩ := iv_ok h; refine (cl_ia (gk_261 hg) k3).trans ?_
      obtain ⟨k4, h⟩ := iv_ok h; refine (cl_is (gk_261 hg) k4).trans ?_
      replace h := iv_lt h
      exact h
theorem s_Model_dx {g : am_G} {F : am_FT} (hF : F = am_F T0 g) (hg : GG g) {v1 : Int32} {M : am_M} {r : am_R} (h : (
  am_ci (F 50 0 [.ref 219, .int v1] [] M) fun x2 M1 => /- Model_end -/
  am_ok 24 x2 <|
  am_ci (F 44 0 [.ref 219, .int v1] [] M1) fun x4 M3 => /- Model_begin -/
  am_ok 24 x4 <|
  am_rt 1 (((rI M1 220 x2.toNatClampNeg) - (rI M3 220 x4.toNatClampNeg))) M3) = some r) : F 108 0 [.ref 219, .int v1] [] M = some r := by
  refine e_Model_dx hF ?_
  refine (cl_gR (gk_219 hg) (gr_219_1 hg)).trans ?_
  refine (cl_rc (gk_219 hg)).trans ?_
  obtain ⟨x2, M1, k1, h⟩ := iv_ci h; refine (cl_ci k1).trans ?_
  obtain ⟨k2, h⟩ := iv_ok h; refine (cl_ia (gk_220 hg) k2).trans ?_
  refine (cl_gR (gk_219 hg) (gr_219_1 hg)).trans ?_
  refine (cl_rc (gk_219 hg)).trans ?_
  obtain ⟨x4, M3, k3, h⟩ := iv_ci h; refine (cl_ci k3).trans ?_
  obtain ⟨k4, h⟩ := iv_ok h; refine (cl_ia (gk_220 hg) k4).trans ?_
  exact h
theorem s_Model_dy {g : am_G} {F : am_FT} (hF : F = am_F T0 g) (hg : GG g) {v1 : Int32} {M : am_M} {r : am_R} (h : (
  am_ci (F 50 0 [.ref 219, .int v1] [] M) fun x2 M1 => /- Model_end -/
  am_ok 24 x2 <|
  am_ci (F 44 0 [.ref 219, .int v1] [] M1) fun x4 M3 => /- Model_begin -/
  am_ok 24 x4 <|
  am_rt 1 (((rI M1 221 x2.toNatClampNeg) - (rI M3 221 x4.toNatClampNeg))) M3) = some r) : F 109 0 [.ref 219, .int v1] [] M = some r := by
  refine e_Model_dy hF ?_
  refine (cl_gR (gk_219 hg) (gr_219_2 hg)).trans ?_
  refine (cl_rc (gk_219 hg)).trans ?_
  obtain ⟨x2, M1, k1, h⟩ := iv_ci h; refine (cl_ci k1).trans ?_
  obtain ⟨k2, h⟩ := iv_ok h; refine (cl_ia (gk_221 hg) k2).trans ?_
  refine (cl_gR (gk_219 hg) (gr_219_2 hg)).trans ?_
  refine (cl_rc (gk_219 hg)).trans ?_
  obtain ⟨x4, M3, k3, h⟩ := iv_ci h; refine (cl_ci k3).trans ?_
  obtain ⟨k4, h⟩ := iv_ok h; refine (cl_ia (gk_221 hg) k4).trans ?_
  exact h
theorem s_Model_eats {g : am_G} {F : am_FT} (hF : F = am_F T0 g) (hg : GG g) {v1 : Int32} {M : am_M} {r : am_R} (h : (
  if (fI M 219 92) = 0 then
    am_ci (F 52 0 [.ref 219] [] M) fun x3 M2 => /- Model_here -/
    if x3 = v1 then
      am_lt (fW M2 219 75 (((fI M2 219 75) + 1))) fun M5 =>
      some (none, M5)
    else
      okb 1 <|
      am_lt (fW M2 219 92 1) fun M4 =>
      some (none, M4)
  else
    okb 1 <|
    am_lt (fW M 219 92 1) fun M1 =>
    some (none, M1)) = some r) : F 110 0 [.ref 219, .int v1] [] M = some r := by
  refine e_Model_eats hF ?_
  refine (cl_gI (gk_219 hg)).trans ?_
  rcases iv_ite h with ⟨hc, h⟩ | ⟨hc, h⟩
  · refine (if_pos hc).trans ?_
    refine (cl_rc (gk_219 hg)).trans ?_
    obtain ⟨x3, M2, k2, h⟩ := iv_ci h; refine (cl_ci k2).trans ?_
    rcases iv_ite h with ⟨hc, h⟩ | ⟨hc, h⟩
    · refine (if_pos hc).trans ?_
      refine (cl_gI (gk_219 hg)).trans ?_
      refine (cl_pI (gk_219 hg)).trans ?_
      replace h := iv_lt h
      exact h
    · refine (if_neg hc).trans ?_
      obtain ⟨k3, h⟩ := iv_okb h; refine (cl_pZ k3 (gk_219 hg)).trans ?_
      replace h := iv_lt h
      exact h
  · refine (if_neg hc).trans ?_
    obtain ⟨k1, h⟩ := iv_okb h; refine (cl_pZ k1 (gk_219 hg)).trans ?_
    replace h := iv_lt h
    exact h
theorem s_Model_examTold {g : am_G} {F : am_FT} (hF : F = am_F T0 g) (hg : GG g) {v1 : Int32} {v2 : Int32} {M : am_M} {r : am_R} (h : (
  am_ci (F 53 0 [.int v1, .int 0, .int ((fI M 219 49) - 1)] [] M) fun x2 M1 => /- Model_in -/
  if x2 = 0 then
    am_rt 1 ((-1)) M1
  else
    am_ci (F 53 0 [.int v2, .int 0, .int 7] [] M1) fun x4 M3 => /- Model_in -/
    if x4 = 0 then
      am_rt 1 ((-2)) M3
    else
      am_ok 192 (((8 * v1) + v2)) <|
      am_rt 1 ((rI M3 256 (((8 * v1) + v2)).toNatClampNeg)) M3) = some r) : F 111 0 [.ref 219, .int v1, .int v2] [] M = some r := by
  refine e_Model_examTold hF ?_
  refine (cl_gI (gk_219 hg)).trans ?_
  obtain ⟨x2, M1, k1, h⟩ := iv_ci h; refine (cl_ci k1).trans ?_
  rcases iv_ite h with ⟨hc, h⟩ | ⟨hc, h⟩
  · refine (if_pos hc).trans ?_
    exact h
  · refine (if_neg hc).trans ?_
    obtain ⟨x4, M3, k2, h⟩ := iv_ci h; refine (cl_ci k2).trans ?_
    rcases iv_ite h with ⟨hc, h⟩ | ⟨hc, h⟩
    · refine (if_pos hc).trans ?_
      exact h
    · refine (if_neg hc).trans ?_
      refine (cl_gR (gk_219 hg) (gr_219_50 hg)).trans ?_
      obtain ⟨k3, h⟩ := iv_ok h; refine (cl_ia (gk_256 hg) k3).trans ?_
      exact h
theorem s_Model_feed {g : am_G} {F : am_FT} (hF : F = am_F T0 g) (hg : GG g) {w1 : Int64} {v3 : Int32} {M : am_M} {r : am_R} (h : (
  am_ci (F 53 0 [.int v3, .int 1, .int 8] [] M) fun x2 M1 => /- Model_in -/
  if x2 = 0 then
    am_rt 1 ((-2)) M1
  else
    if ((fI M1 219 36) + v3) ≤ 160 then
      F 112 33 [.ref 219, .long w1, .int (v3 - 1)] [] M1
    else
      am_rt 1 ((-4)) M1) = some r) : F 112 0 [.ref 219, .long w1, .int v3] [] M = some r := by
  refine e_Model_feed hF ?_
  obtain ⟨x2, M1, k1, h⟩ := iv_ci h; refine (cl_ci k1).trans ?_
  rcases iv_ite h with ⟨hc, h⟩ | ⟨hc, h⟩
  · refine (if_pos hc).trans ?_
    exact h
  · refine (if_neg hc).trans ?_
    refine (cl_gI (gk_219 hg)).trans ?_
    rcases iv_ite h with ⟨hc, h⟩ | ⟨hc, h⟩
    · refine (if_pos hc).trans ?_
      exact h
    · refine (if_neg hc).trans ?_
      exact h
theorem s_Model_feed_33 {g : am_G} {F : am_FT} (hF : F = am_F T0 g) (hg : GG g) {w1 : Int64} {v4 : Int32} {M : am_M} {r : am_R} (h : (
  if v4 < 0 then
    am_rt 1 ((fI M 219 36)) M
  else
    am_ok 160 ((fI M 219 36)) <|
    am_lt (wI M 246 ((fI M 219 36)).toNatClampNeg ((((w1 >>> ((8 * v4).toInt64 &&& 63)) &&& 255)).toInt32)) fun M1 =>
    am_lt (fW M1 219 36 (((fI M1 219 36) + 1))) fun M2 =>
    F 112 33 [.ref 219, .long w1, .int (v4 + (-1))] [] M2) = some r) : F 112 33 [.ref 219, .long w1, .int v4] [] M = some r := by
  refine e_Model_feed_33 hF ?_
  rcases iv_ite h with ⟨hc, h⟩ | ⟨hc, h⟩
  · refine (if_pos hc).trans ?_
    refine (cl_gI (gk_219 hg)).trans ?_
    exact h
  · refine (if_neg hc).trans ?_
    refine (cl_gR (gk_219 hg) (gr_219_35 hg)).trans ?_
    refine (cl_gI (gk_219 hg)).trans ?_
    obtain ⟨k1, h⟩ := iv_ok h; refine (cl_is (gk_246 hg) k1).trans ?_
    replace h := iv_lt h
    refine (cl_gI (gk_219 hg)).trans ?_
    refine (cl_pI (gk_219 hg)).trans ?_
    replace h := iv_lt h
    exact h
theorem s_Model_follows {g : am_G} {F : am_FT} (hF : F = am_F T0 g) (hg : GG g) {v1 : Int32} {v2 : Int32} {M : am_M} {r : am_R} (h : (
  am_ci (F 44 0 [.ref 219, .int v2] [] M) fun x2 M1 => /- Model_begin -/
  am_ci (F 50 0 [.ref 219, .int v1] [] M1) fun x4 M3 => /- Model_end -/
  if x2 = x4 then
    am_dv 2 <|
    am_dv 2 <|
    if (v2 / 2) = (v1 / 2) then
      am_rt 2 0 M3
    else
      am_rt 2 1 M3
  else
    am_rt 2 0 M3) = some r) : F 113 0 [.ref 219, .int v1, .int v2] [] M = some r := by
  refine e_Model_follows hF ?_
  refine (cl_rc (gk_219 hg)).trans ?_
  obtain ⟨x2, M1, k1, h⟩ := iv_ci h; refine (cl_ci k1).trans ?_
  refine (cl_rc (gk_219 hg)).trans ?_
  obtain ⟨x4, M3, k2, h⟩ := iv_ci h; refine (cl_ci k2).trans ?_
  rcases iv_ite h with ⟨hc, h⟩ | ⟨hc, h⟩
  · refine (if_pos hc).trans ?_
    obtain ⟨k3, h⟩ := iv_dv h; refine (cl_dv k3).trans ?_
    obtain ⟨k4, h⟩ := iv_dv h; refine (cl_dv k4).trans ?_
    rcases iv_ite h with ⟨hc, h⟩ | ⟨hc, h⟩
    · refine (if_pos hc).trans ?_
      exact h
    · refine (if_neg hc).trans ?_
      exact h
  · refine (if_neg hc).trans ?_
    exact h
theorem s_Model_heldOn {g : am_G} {F : am_FT} (hF : F = am_F T0 g) (hg : GG g) {v1 : Int32} {v2 : Int32} {M : am_M} {r : am_R} (h : (
  F 114 5 [.ref 219, .int v1, .int v2, .int 0, .int 0] [] M) = some r) : F 114 0 [.ref 219, .int v1, .int v2] [] M = some r := by
  refine e_Model_heldOn hF ?_
  exact h
theorem s_Model_heldOn_5 {g : am_G} {F : am_FT} (hF : F = am_F T0 g) (hg : GG g) {v1 : Int32} {v2 : Int32} {v3 : Int32} {v4 : Int32} {M : am_M} {r : am_R} (h : (
  if 6400 ≤ v4 then
    am_rt 1 v3 M
  else
    am_ok 25600 (((6400 * v1) + v4)) <|
    if (rI M 251 (((6400 * v1) + v4)).toNatClampNeg) ≤ 0 then
      F 114 5 [.ref 219, .int v1, .int v2, .int (v3 + 0), .int (v4 + 1)] [] M
    else
      am_dv 80 <|
      am_dv 80 <|
      am_ci (F 55 0 [.ref 219, .int v1, .int (v4 / 80), .int (v4 - v4 / 80 * 80), .int v2] [] M) fun x2 M1 => /- Model_isHeld -/
      if x2 = 0 then
        F 114 5 [.ref 219, .int v1, .int v2, .int (v3 + 0), .int (v4 + 1)] [] M1
      else
        F 114 5 [.ref 219, .int v1, .int v2, .int (v3 + 1), .int (v4 + 1)] [] M1) = some r) : F 114 5 [.ref 219, .int v1, .int v2, .int v3, .int v4] [] M = some r := by
  refine e_Model_heldOn_5 hF ?_
  rcases iv_ite h with ⟨hc, h⟩ | ⟨hc, h⟩
  · refine (if_pos hc).trans ?_
    exact h
  · refine (if_neg hc).trans ?_
    refine (cl_gR (gk_219 hg) (gr_219_43 hg)).trans ?_
    obtain ⟨k1, h⟩ := iv_ok h; refine (cl_ia (gk_251 hg) k1).trans ?_
    rcases iv_ite h with ⟨hc, h⟩ | ⟨hc, h⟩
    · refine (if_pos hc).trans ?_
      exact h
    · refine (if_neg hc).trans ?_
      obtain ⟨k2, h⟩ := iv_dv h; refine (cl_dv k2).trans ?_
      obtain ⟨k3, h⟩ := iv_dv h; refine (cl_dv k3).trans ?_
      refine (cl_rc (gk_219 hg)).trans ?_
      obtain ⟨x2, M1, k4, h⟩ := iv_ci h; refine (cl_ci k4).trans ?_
      rcases iv_ite h with ⟨hc, h⟩ | ⟨hc, h⟩
      · refine (if_pos hc).trans ?_
        exact h
      · refine (if_neg hc).trans ?_
        exact h
theorem s_Model_isDoor {g : am_G} {F : am_FT} (hF : F = am_F T0 g) (hg : GG g) {v1 : Int32} {M : am_M} {r : am_R} (h : (
  am_ci (F 53 0 [.int v1, .int 0, .int ((fI M 219 10) - 1)] [] M) fun x2 M1 => /- Model_in -/
  am_rt 2 x2 M1) = some r) : F 115 0 [.ref 219, .int v1] [] M = some r := by
  refine e_Model_isDoor hF ?_
  refine (cl_gI (gk_219 hg)).trans ?_
  obtain ⟨x2, M1, k1, h⟩ := iv_ci h; refine (cl_ci k1).trans ?_
  exact h
theorem s_Model_isHour {g : am_G} {F : am_FT} (hF : F = am_F T0 g) (hg : GG g) {v0 : Int32} {M : am_M} {r : am_R} (h : (
  am_ci (F 53 0 [.int v0, .int 0, .int 23] [] M) fun x2 M1 => /- Model_in -/
  am_rt 2 x2 M1) = some r) : F 116 0 [.int v0] [] M = some r := by
  refine e_Model_isHour hF ?_
  obtain ⟨x2, M1, k1, h⟩ := iv_ci h; refine (cl_ci k1).trans ?_
  exact h
theorem s_Model_isLeg {g : am_G} {F : am_FT} (hF : F = am_F T0 g) (hg : GG g) {v1 : Int32} {M : am_M} {r : am_R} (h : (
  am_ci (F 53 0 [.int v1, .int 0, .int ((2 * (fI M 219 4)) - 1)] [] M) fun x2 M1 => /- Model_in -/
  am_rt 2 x2 M1) = some r) : F 117 0 [.ref 219, .int v1] [] M = some r := by
  refine e_Model_isLeg hF ?_
  refine (cl_gI (gk_219 hg)).trans ?_
  obtain ⟨x2, M1, k1, h⟩ := iv_ci h; refine (cl_ci k1).trans ?_
  exact h
theorem s_Model_isOpen {g : am_G} {F : am_FT} (hF : F = am_F T0 g) (hg : GG g) {v1 : Int32} {v2 : Int32} {M : am_M} {r : am_R} (h : (
  am_ok 40 v1 <|
  if (rI M 223 v1.toNatClampNeg) = 3 then
    am_ci (F 53 0 [.int v2, .int 5, .int 21] [] M) fun x2 M1 => /- Model_in -/
    am_rt 2 x2 M1
  else
    am_ok 40 v1 <|
    if (rI M 223 v1.toNatClampNeg) = 5 then
      if v2 = 3 then
        am_rt 2 0 M
      else
        am_rt 2 1 M
    else
      am_rt 2 1 M) = some r) : F 118 0 [.ref 219, .int v1, .int v2] [] M = some r := by
  refine e_Model_isOpen hF ?_
  refine (cl_gR (gk_219 hg) (gr_219_5 hg)).trans ?_
  obtain ⟨k1, h⟩ := iv_ok h; refine (cl_ia (gk_223 hg) k1).trans ?_
  rcases iv_ite h with ⟨hc, h⟩ | ⟨hc, h⟩
  · refine (if_pos hc).trans ?_
    obtain ⟨x2, M1, k3, h⟩ := iv_ci h; refine (cl_ci k3).trans ?_
    exact h
  · refine (if_neg hc).trans ?_
    refine (cl_gR (gk_219 hg) (gr_219_5 hg)).trans ?_
    obtain ⟨k2, h⟩ := iv_ok h; refine (cl_ia (gk_223 hg) k2).trans ?_
    rcases iv_ite h with ⟨hc, h⟩ | ⟨hc, h⟩
    · refine (if_pos hc).trans ?_
      rcases iv_ite h with ⟨hc, h⟩ | ⟨hc, h⟩
      · refine (if_pos hc).trans ?_
        exact h
      · refine (if_neg hc).trans ?_
        exact h
    · refine (if_neg hc).trans ?_
      exact h
theorem s_Model_isPupil {g : am_G} {F : am_FT} (hF : F = am_F T0 g) (hg : GG g) {v1 : Int32} {M : am_M} {r : am_R} (h : (
  am_ci (F 53 0 [.int v1, .int 0, .int ((fI M 219 41) - 1)] [] M) fun x2 M1 => /- Model_in -/
  am_rt 2 x2 M1) = some r) : F 119 0 [.ref 219, .int v1] [] M = some r := by
  refine e_Model_isPupil hF ?_
  refine (cl_gI (gk_219 hg)).trans ?_
  obtain ⟨x2, M1, k1, h⟩ := iv_ci h; refine (cl_ci k1).trans ?_
  exact h
theorem s_Model_isSaid {g : am_G} {F : am_FT} (hF : F = am_F T0 g) (hg : GG g) {v1 : Int32} {v2 : Int32} {v3 : Int32} {v4 : Int32} {v5 : Int32} {M : am_M} {r : am_R} (h : (
  am_cj (F 65 0 [.int v1, .int v2, .int v3, .int v4, .int v5] [] M) fun l2 M1 => /- Model_wordOf -/
  if (lg_cmp ((fJ M 219 77)) l2) = 0 then
    am_rt 2 1 M1
  else
    am_rt 2 0 M1) = some r) : F 120 0 [.ref 219, .int v1, .int v2, .int v3, .int v4, .int v5] [] M = some r := by
  refine e_Model_isSaid hF ?_
  refine (cl_gJ (gk_219 hg)).trans ?_
  obtain ⟨l2, M1, k1, h⟩ := iv_cj h; refine (cl_cj k1).trans ?_
  rcases iv_ite h with ⟨hc, h⟩ | ⟨hc, h⟩
  · refine (if_pos hc).trans ?_
    exact h
  · refine (if_neg hc).trans ?_
    exact h
theorem s_Model_isSaidRun {g : am_G} {F : am_FT} (hF : F = am_F T0 g) (hg : GG g) {v1 : Int32} {M : am_M} {r : am_R} (h : (
  am_ci (F 53 0 [.int v1, .int 0, .int ((fI M 219 37) - 1)] [] M) fun x2 M1 => /- Model_in -/
  am_rt 2 x2 M1) = some r) : F 121 0 [.ref 219, .int v1] [] M = some r := by
  refine e_Model_isSaidRun hF ?_
  refine (cl_gI (gk_219 hg)).trans ?_
  obtain ⟨x2, M1, k1, h⟩ := iv_ci h; refine (cl_ci k1).trans ?_
  exact h
theorem s_Model_isWay {g : am_G} {F : am_FT} (hF : F = am_F T0 g) (hg : GG g) {v1 : Int32} {M : am_M} {r : am_R} (h : (
  am_ci (F 53 0 [.int v1, .int 0, .int ((fI M 219 4) - 1)] [] M) fun x2 M1 => /- Model_in -/
  am_rt 2 x2 M1) = some r) : F 122 0 [.ref 219, .int v1] [] M = some r := by
  refine e_Model_isWay hF ?_
  refine (cl_gI (gk_219 hg)).trans ?_
  obtain ⟨x2, M1, k1, h⟩ := iv_ci h; refine (cl_ci k1).trans ?_
  exact h
theorem s_Model_isWord {g : am_G} {F : am_FT} (hF : F = am_F T0 g) (hg : GG g) {w0 : Int64} {M : am_M} {r : am_R} (h : (
  F 123 5 [.long w0, .int 0] [] M) = some r) : F 123 0 [.long w0] [] M = some r := by
  refine e_Model_isWord hF ?_
  exact h
theorem s_Model_isWord_5 {g : am_G} {F : am_FT} (hF : F = am_F T0 g) (hg : GG g) {w2 : Int64} {v4 : Int32} {M : am_M} {r : am_R} (h : (
  if (lg_cmp w2 0) = 0 then
    if v4 ≤ 0 then
      am_rt 2 0 M
    else
      if (lg_cmp w2 0) = 0 then
        am_rt 2 1 M
      else
        am_rt 2 0 M
  else
    if 8 ≤ v4 then
      if v4 ≤ 0 then
        am_rt 2 0 M
      else
        if (lg_cmp w2 0) = 0 then
          am_rt 2 1 M
        else
          am_rt 2 0 M
    else
      am_ci (F 53 0 [.int (((w2 &&& 255)).toInt32), .int 97, .int 122] [] M) fun x2 M1 => /- Model_in -/
      if x2 = 0 then
        am_rt 2 0 M1
      else
        F 123 5 [.long (w2 >>> ((8 : Int32).toInt64 &&& 63)), .int (v4 + 1)] [] M1) = some r) : F 123 5 [.long w2, .int v4] [] M = some r := by
  refine e_Model_isWord_5 hF ?_
  rcases iv_ite h with ⟨hc, h⟩ | ⟨hc, h⟩
  · refine (if_pos hc).trans ?_
    rcases iv_ite h with ⟨hc, h⟩ | ⟨hc, h⟩
    · refine (if_pos hc).trans ?_
      exact h
    · refine (if_neg hc).trans ?_
      rcases iv_ite h with ⟨hc, h⟩ | ⟨hc, h⟩
      · refine (if_pos hc).trans ?_
        exact h
      · refine (if_neg hc).trans ?_
        exact h
  · refine (if_neg hc).trans ?_
    rcases iv_ite h with ⟨hc, h⟩ | ⟨hc, h⟩
    · refine (if_pos hc).trans ?_
      rcases iv_ite h with ⟨hc, h⟩ | ⟨hc, h⟩
      · refine (if_pos hc).trans ?_
        exact h
      · refine (if_neg hc).trans ?_
        rcases iv_ite h with ⟨hc, h⟩ | ⟨hc, h⟩
        · refine (if_pos hc).trans ?_
          exact h
        · refine (if_neg hc).trans ?_
          exact h
    · refine (if_neg hc).trans ?_
      obtain ⟨x2, M1, k1, h⟩ := iv_ci h; refine (cl_ci k1).trans ?_
      rcases iv_ite h with ⟨hc, h⟩ | ⟨hc, h⟩
      · refine (if_pos hc).trans ?_
        exact h
      · refine (if_neg hc).trans ?_
        exact h
theorem s_Model_junction {g : am_G} {F : am_FT} (hF : F = am_F T0 g) (hg : GG g) {v1 : Int32} {v2 : Int32} {v3 : Int32} {M : am_M} {r : am_R} (h : (
  am_ci (F 53 0 [.int v1, .int 0, .int 99] [] M) fun x2 M1 => /- Model_in -/
  if x2 = 0 then
    am_rt 1 ((-2)) M1
  else
    am_ci (F 53 0 [.int v2, .int 0, .int 99] [] M1) fun x4 M3 => /- Model_in -/
    if x4 = 0 then
      am_rt 1 ((-2)) M3
    else
      am_ci (F 53 0 [.int v3, .int 0, .int 1] [] M3) fun x6 M5 => /- Model_in -/
      if x6 = 0 then
        am_rt 1 ((-2)) M5
      else
        F 124 35 [.ref 219, .int v1, .int v2, .int v3, .int 0] [] M5) = some r) : F 124 0 [.ref 219, .int v1, .int v2, .int v3] [] M = some r := by
  refine e_Model_junction hF ?_
  obtain ⟨x2, M1, k1, h⟩ := iv_ci h; refine (cl_ci k1).trans ?_
  rcases iv_ite h with ⟨hc, h⟩ | ⟨hc, h⟩
  · refine (if_pos hc).trans ?_
    exact h
  · refine (if_neg hc).trans ?_
    obtain ⟨x4, M3, k2, h⟩ := iv_ci h; refine (cl_ci k2).trans ?_
    rcases iv_ite h with ⟨hc, h⟩ | ⟨hc, h⟩
    · refine (if_pos hc).trans ?_
      exact h
    · refine (if_neg hc).trans ?_
      obtain ⟨x6, M5, k3, h⟩ := iv_ci h; refine (cl_ci k3).trans ?_
      rcases iv_ite h with ⟨hc, h⟩ | ⟨hc, h⟩
      · refine (if_pos hc).trans ?_
        exact h
      · refine (if_neg hc).trans ?_
        exact h
theorem s_Model_junction_35 {g : am_G} {F : am_FT} (hF : F = am_F T0 g) (hg : GG g) {v1 : Int32} {v2 : Int32} {v3 : Int32} {v4 : Int32} {M : am_M} {r : am_R} (h : (
  if (fI M 219 0) ≤ v4 then
    if (fI M 219 0) = 24 then
      am_rt 1 ((-4)) M
    else
      am_ok 24 ((fI M 219 0)) <|
      am_lt (wI M 220 ((fI M 219 0)).toNatClampNeg v1) fun M1 =>
      am_ok 24 ((fI M1 219 0)) <|
      am_lt (wI M1 221 ((fI M1 219 0)).toNatClampNeg v2) fun M2 =>
      if v3 = 1 then
        am_ok 24 ((fI M2 219 0)) <|
        am_lt (wI M2 222 ((fI M2 219 0)).toNatClampNeg (vp_nar .boolean 1)) fun M7 =>
        am_lt (fW M7 219 0 (((fI M7 219 0) + 1))) fun M8 =>
        am_ci (F 46 0 [.ref 219, .int 0, .int ((fI M8 219 0) - 1)] [] M8) fun x10 M9 => /- Model_comes -/
        am_rt 1 x10 M9
      else
        am_ok 24 ((fI M2 219 0)) <|
        am_lt (wI M2 222 ((fI M2 219 0)).toNatClampNeg (vp_nar .boolean 0)) fun M3 =>
        am_lt (fW M3 219 0 (((fI M3 219 0) + 1))) fun M4 =>
        am_ci (F 46 0 [.ref 219, .int 0, .int ((fI M4 219 0) - 1)] [] M4) fun x6 M5 => /- Model_comes -/
        am_rt 1 x6 M5
  else
    am_ok 24 v4 <|
    if (rI M 220 v4.toNatClampNeg) = v1 then
      am_ok 24 v4 <|
      if (rI M 221 v4.toNatClampNeg) = v2 then
        am_rt 1 ((-3)) M
      else
        F 124 35 [.ref 219, .int v1, .int v2, .int v3, .int (v4 + 1)] [] M
    else
      F 124 35 [.ref 219, .int v1, .int v2, .int v3, .int (v4 + 1)] [] M) = some r) : F 124 35 [.ref 219, .int v1, .int v2, .int v3, .int v4] [] M = some r := by
  refine e_Model_junction_35 hF ?_
  refine (cl_gI (gk_219 hg)).trans ?_
  rcases iv_ite h with ⟨hc, h⟩ | ⟨hc, h⟩
  · refine (if_pos hc).trans ?_
    refine (cl_gI (gk_219 hg)).trans ?_
    rcases iv_ite h with ⟨hc, h⟩ | ⟨hc, h⟩
    · refine (if_pos hc).trans ?_
      exact h
    · refine (if_neg hc).trans ?_
      refine (cl_gR (gk_219 hg) (gr_219_1 hg)).trans ?_
      refine (cl_gI (gk_219 hg)).trans ?_
      obtain ⟨k1, h⟩ := iv_ok h; refine (cl_is (gk_220 hg) k1).trans ?_
      replace h := iv_lt h
      refine (cl_gR (gk_219 hg) (gr_219_2 hg)).trans ?_
      refine (cl_gI (gk_219 hg)).trans ?_
      obtain ⟨k2, h⟩ := iv_ok h; refine (cl_is (gk_221 hg) k2).trans ?_
      replace h := iv_lt h
      refine (cl_gR (gk_219 hg) (gr_219_3 hg)).trans ?_
      refine (cl_gI (gk_219 hg)).trans ?_
      rcases iv_ite h with ⟨hc, h⟩ | ⟨hc, h⟩
      · refine (if_pos hc).trans ?_
        obtain ⟨k5, h⟩ := iv_ok h; refine (cl_zs (gk_222 hg) k5).trans ?_
        replace h := iv_lt h
        refine (cl_gI (gk_219 hg)).trans ?_
        refine (cl_pI (gk_219 hg)).trans ?_
        replace h := iv_lt h
        refine (cl_gI (gk_219 hg)).trans ?_
        refine (cl_rc (gk_219 hg)).trans ?_
        obtain ⟨x10, M9, k6, h⟩ := iv_ci h; refine (cl_ci k6).trans ?_
        exact h
      · refine (if_neg hc).trans ?_
        obtain ⟨k3, h⟩ := iv_ok h; refine (cl_zs (gk_222 hg) k3).trans ?_
        replace h := iv_lt h
        refine (cl_gI (gk_219 hg)).trans ?_
        refine (cl_pI (gk_219 hg)).trans ?_
        replace h := iv_lt h
        refine (cl_gI (gk_219 hg)).trans ?_
        refine (cl_rc (gk_219 hg)).trans ?_
        obtain ⟨x6, M5, k4, h⟩ := iv_ci h; refine (cl_ci k4).trans ?_
        exact h
  · refine (if_neg hc).trans ?_
    refine (cl_gR (gk_219 hg) (gr_219_1 hg)).trans ?_
    obtain ⟨k7, h⟩ := iv_ok h; refine (cl_ia (gk_220 hg) k7).trans ?_
    rcases iv_ite h with ⟨hc, h⟩ | ⟨hc, h⟩
    · refine (if_pos hc).trans ?_
      refine (cl_gR (gk_219 hg) (gr_219_2 hg)).trans ?_
      obtain ⟨k8, h⟩ := iv_ok h; refine (cl_ia (gk_221 hg) k8).trans ?_
      rcases iv_ite h with ⟨hc, h⟩ | ⟨hc, h⟩
      · refine (if_pos hc).trans ?_
        exact h
      · refine (if_neg hc).trans ?_
        exact h
    · refine (if_neg hc).trans ?_
      exact h
theorem s_Model_leg {g : am_G} {F : am_FT} (hF : F = am_F T0 g) (hg : GG g) {v1 : Int32} {M : am_M} {r : am_R} (h : (
  am_ci (F 53 0 [.int v1, .int 0, .int ((fI M 219 72) - 1)] [] M) fun x2 M1 => /- Model_in -/
  if x2 = 0 then
    am_rt 1 ((-1)) M1
  else
    am_ok 80 v1 <|
    am_rt 1 ((rI M1 265 v1.toNatClampNeg)) M1) = some r) : F 125 0 [.ref 219, .int v1] [] M = some r := by
  refine e_Model_leg hF ?_
  refine (cl_gI (gk_219 hg)).trans ?_
  obtain ⟨x2, M1, k1, h⟩ := iv_ci h; refine (cl_ci k1).trans ?_
  rcases iv_ite h with ⟨hc, h⟩ | ⟨hc, h⟩
  · refine (if_pos hc).trans ?_
    exact h
  · refine (if_neg hc).trans ?_
    refine (cl_gR (gk_219 hg) (gr_219_71 hg)).trans ?_
    obtain ⟨k2, h⟩ := iv_ok h; refine (cl_ia (gk_265 hg) k2).trans ?_
    exact h
theorem s_Model_number {g : am_G} {F : am_FT} (hF : F = am_F T0 g) (hg : GG g) {M : am_M} {r : am_R} (h : (
  F 126 4 [.ref 219, .int 0, .int 0] [] M) = some r) : F 126 0 [.ref 219] [] M = some r := by
  refine e_Model_number hF ?_
  exact h
theorem s_Model_number_4 {g : am_G} {F : am_FT} (hF : F = am_F T0 g) (hg : GG g) {v1 : Int32} {v2 : Int32} {M : am_M} {r : am_R} (h : (
  if (fI M 219 92) = 0 then
    if 4 ≤ v2 then
      if (fI M 219 92) = 0 then
        if v2 = 0 then
          okb 1 <|
          am_lt (fW M 219 92 1) fun M6 =>
          am_rt 1 v1 M6
        else
          okb 0 <|
          am_lt (fW M 219 92 0) fun M5 =>
          am_rt 1 v1 M5
      else
        okb 1 <|
        am_lt (fW M 219 92 1) fun M4 =>
        am_rt 1 v1 M4
    else
      am_ci (F 52 0 [.ref 219] [] M) fun x8 M7 => /- Model_here -/
      am_ci (F 53 0 [.int x8, .int 48, .int 57] [] M7) fun x10 M9 => /- Model_in -/
      if x10 = 0 then
        if (fI M9 219 92) = 0 then
          if v2 = 0 then
            okb 1 <|
            am_lt (fW M9 219 92 1) fun M13 =>
            am_rt 1 v1 M13
          else
            okb 0 <|
            am_lt (fW M9 219 92 0) fun M12 =>
            am_rt 1 v1 M12
        else
          okb 1 <|
          am_lt (fW M9 219 92 1) fun M11 =>
          am_rt 1 v1 M11
      else
        am_ci (F 52 0 [.ref 219] [] M9) fun x15 M14 => /- Model_here -/
        am_lt (fW M14 219 75 (((fI M14 219 75) + 1))) fun M16 =>
        F 126 4 [.ref 219, .int (((10 * v1) + x15) - 48), .int (v2 + 1)] [] M16
  else
    if (fI M 219 92) = 0 then
      if v2 = 0 then
        okb 1 <|
        am_lt (fW M 219 92 1) fun M3 =>
        am_rt 1 v1 M3
      else
        okb 0 <|
        am_lt (fW M 219 92 0) fun M2 =>
        am_rt 1 v1 M2
    else
      okb 1 <|
      am_lt (fW M 219 92 1) fun M1 =>
      am_rt 1 v1 M1) = some r) : F 126 4 [.ref 219, .int v1, .int v2] [] M = some r := by
  refine e_Model_number_4 hF ?_
  refine (cl_gI (gk_219 hg)).trans ?_
  rcases iv_ite h with ⟨hc, h⟩ | ⟨hc, h⟩
  · refine (if_pos hc).trans ?_
    rcases iv_ite h with ⟨hc, h⟩ | ⟨hc, h⟩
    · refine (if_pos hc).trans ?_
      refine (cl_gI (gk_219 hg)).trans ?_
      rcases iv_ite h with ⟨hc, h⟩ | ⟨hc, h⟩
      · refine (if_pos hc).trans ?_
        rcases iv_ite h with ⟨hc, h⟩ | ⟨hc, h⟩
        · refine (if_pos hc).trans ?_
          obtain ⟨k6, h⟩ := iv_okb h; refine (cl_pZ k6 (gk_219 hg)).trans ?_
          replace h := iv_lt h
          exact h
        · refine (if_neg hc).trans ?_
          obtain ⟨k5, h⟩ := iv_okb h; refine (cl_pZ k5 (gk_219 hg)).trans ?_
          replace h := iv_lt h
          exact h
      · refine (if_neg hc).trans ?_
        obtain ⟨k4, h⟩ := iv_okb h; refine (cl_pZ k4 (gk_219 hg)).trans ?_
        replace h := iv_lt h
        exact h
    · refine (if_neg hc).trans ?_
      refine (cl_rc (gk_219 hg)).trans ?_
      obtain ⟨x8, M7, k7, h⟩ := iv_ci h; refine (cl_ci k7).trans ?_
      obtain ⟨x10, M9, k8, h⟩ := iv_ci h; refine (cl_ci k8).trans ?_
      rcases iv_ite h with ⟨hc, h⟩ | ⟨hc, h⟩
      · refine (if_pos hc).trans ?_
        refine (cl_gI (gk_219 hg)).trans ?_
        rcases iv_ite h with ⟨hc, h⟩ | ⟨hc, h⟩
        · refine (if_pos hc).trans ?_
          rcases iv_ite h with ⟨hc, h⟩ | ⟨hc, h⟩
          · refine (if_pos hc).trans ?_
            obtain ⟨k11, h⟩ := iv_okb h; refine (cl_pZ k11 (gk_219 hg)).trans ?_
            replace h := iv_lt h
            exact h
          · refine (if_neg hc).trans ?_
            obtain ⟨k10, h⟩ := iv_okb h; refine (cl_pZ k10 (gk_219 hg)).trans ?_
            replace h := iv_lt h
            exact h
        · refine (if_neg hc).trans ?_
          obtain ⟨k9, h⟩ := iv_okb h; refine (cl_pZ k9 (gk_219 hg)).trans ?_
          replace h := iv_lt h
          exact h
      · refine (if_neg hc).trans ?_
        refine (cl_rc (gk_219 hg)).trans ?_
        obtain ⟨x15, M14, k12, h⟩ := iv_ci h; refine (cl_ci k12).trans ?_
        refine (cl_gI (gk_219 hg)).trans ?_
        refine (cl_pI (gk_219 hg)).trans ?_
        replace h := iv_lt h
        exact h
  · refine (if_neg hc).trans ?_
    refine (cl_gI (gk_219 hg)).trans ?_
    rcases iv_ite h with ⟨hc, h⟩ | ⟨hc, h⟩
    · refine (if_pos hc).trans ?_
      rcases iv_ite h with ⟨hc, h⟩ | ⟨hc, h⟩
      · refine (if_pos hc).trans ?_
        obtain ⟨k3, h⟩ := iv_okb h; refine (cl_pZ k3 (gk_219 hg)).trans ?_
        replace h := iv_lt h
        exact h
      · refine (if_neg hc).trans ?_
        obtain ⟨k2, h⟩ := iv_okb h; refine (cl_pZ k2 (gk_219 hg)).trans ?_
        replace h := iv_lt h
        exact h
    · refine (if_neg hc).trans ?_
      obtain ⟨k1, h⟩ := iv_okb h; refine (cl_pZ k1 (gk_219 hg)).trans ?_
      replace h := iv_lt h
      exact h
theorem s_Model_off {g : am_G} {F : am_FT} (hF : F = am_F T0 g) (hg : GG g) {v1 : Int32} {M : am_M} {r : am_R} (h : (
  am_ci (F 50 0 [.ref 219, .int v1] [] M) fun x2 M1 => /- Model_end -/
  am_ok 24 x2 <|
  am_ci (F 50 0 [.ref 219, .int v1] [] M1) fun x4 M3 => /- Model_end -/
  am_ok 24 x4 <|
  am_ci (F 49 0 [.int ((fI M 219 69) - (fI M 219 67)), .int ((fI M 219 70) - (fI M 219 68)), .int ((rI M1 220 x2.toNatClampNeg) - (fI M1 219 67)), .int ((rI M3 221 x4.toNatClampNeg) - (fI M3 219 68))] [] M3) fun x6 M5 => /- Model_cross -/
  if 0 ≤ x6 then
    some (some (.long x6.toInt64), M5)
  else
    some (some (.long (((-x6)).toInt64)), M5)) = some r) : F 127 0 [.ref 219, .int v1] [] M = some r := by
  refine e_Model_off hF ?_
  refine (cl_gI (gk_219 hg)).trans ?_
  refine (cl_gI (gk_219 hg)).trans ?_
  refine (cl_gI (gk_219 hg)).trans ?_
  refine (cl_gI (gk_219 hg)).trans ?_
  refine (cl_gR (gk_219 hg) (gr_219_1 hg)).trans ?_
  refine (cl_rc (gk_219 hg)).trans ?_
  obtain ⟨x2, M1, k1, h⟩ := iv_ci h; refine (cl_ci k1).trans ?_
  obtain ⟨k2, h⟩ := iv_ok h; refine (cl_ia (gk_220 hg) k2).trans ?_
  refine (cl_gI (gk_219 hg)).trans ?_
  refine (cl_gR (gk_219 hg) (gr_219_2 hg)).trans ?_
  refine (cl_rc (gk_219 hg)).trans ?_
  obtain ⟨x4, M3, k3, h⟩ := iv_ci h; refine (cl_ci k3).trans ?_
  obtain ⟨k4, h⟩ := iv_ok h; refine (cl_ia (gk_221 hg) k4).trans ?_
  refine (cl_gI (gk_219 hg)).trans ?_
  obtain ⟨x6, M5, k5, h⟩ := iv_ci h; refine (cl_ci k5).trans ?_
  rcases iv_ite h with ⟨hc, h⟩ | ⟨hc, h⟩
  · refine (if_pos hc).trans ?_
    exact h
  · refine (if_neg hc).trans ?_
    exact h
theorem s_Model_pass {g : am_G} {F : am_FT} (hF : F = am_F T0 g) (hg : GG g) {v1 : Int32} {M : am_M} {r : am_R} (h : (
  am_ci (F 53 0 [.int v1, .int 1, .int 100] [] M) fun x2 M1 => /- Model_in -/
  if x2 = 0 then
    am_rt 1 ((-2)) M1
  else
    if ((fI M1 219 14) + v1) ≤ 299 then
      am_lt (fW M1 219 14 (((fI M1 219 14) + v1))) fun M3 =>
      am_rt 1 ((fI M3 219 14)) M3
    else
      am_rt 1 ((-4)) M1) = some r) : F 128 0 [.ref 219, .int v1] [] M = some r := by
  refine e_Model_pass hF ?_
  obtain ⟨x2, M1, k1, h⟩ := iv_ci h; refine (cl_ci k1).trans ?_
  rcases iv_ite h with ⟨hc, h⟩ | ⟨hc, h⟩
  · refine (if_pos hc).trans ?_
    exact h
  · refine (if_neg hc).trans ?_
    refine (cl_gI (gk_219 hg)).trans ?_
    rcases iv_ite h with ⟨hc, h⟩ | ⟨hc, h⟩
    · refine (if_pos hc).trans ?_
      refine (cl_gI (gk_219 hg)).trans ?_
      refine (cl_pI (gk_219 hg)).trans ?_
      replace h := iv_lt h
      refine (cl_gI (gk_219 hg)).trans ?_
      exact h
    · refine (if_neg hc).trans ?_
      exact h
theorem s_Model_planned {g : am_G} {F : am_FT} (hF : F = am_F T0 g) (hg : GG g) {v1 : Int32} {M : am_M} {r : am_R} (h : (
  am_ci (F 53 0 [.int v1, .int 0, .int ((fI M 219 89) - 1)] [] M) fun x2 M1 => /- Model_in -/
  if x2 = 0 then
    am_rt 1 ((-1)) M1
  else
    am_ok 4 v1 <|
    am_rt 1 ((rI M1 273 v1.toNatClampNeg)) M1) = some r) : F 129 0 [.ref 219, .int v1] [] M = some r := by
  refine e_Model_planned hF ?_
  refine (cl_gI (gk_219 hg)).trans ?_
  obtain ⟨x2, M1, k1, h⟩ := iv_ci h; refine (cl_ci k1).trans ?_
  rcases iv_ite h with ⟨hc, h⟩ | ⟨hc, h⟩
  · refine (if_pos hc).trans ?_
    exact h
  · refine (if_neg hc).trans ?_
    refine (cl_gR (gk_219 hg) (gr_219_88 hg)).trans ?_
    obtain ⟨k2, h⟩ := iv_ok h; refine (cl_ia (gk_273 hg) k2).trans ?_
    exact h
theorem s_Model_priceOf {g : am_G} {F : am_FT} (hF : F = am_F T0 g) (hg : GG g) {v1 : Int32} {v2 : Int32} {M : am_M} {r : am_R} (h : (
  am_ok 40 v1 <|
  am_ok 40 v1 <|
  if (rI M 223 v1.toNatClampNeg) = 0 then
    am_rt 1 ((rI M 226 v1.toNatClampNeg)) M
  else
  if (rI M 223 v1.toNatClampNeg) = 1 then
    am_rt 1 (((rI M 226 v1.toNatClampNeg) + 20)) M
  else
  if (rI M 223 v1.toNatClampNeg) = 2 then
    am_dv 10 <|
    am_rt 1 (((rI M 226 v1.toNatClampNeg) + ((rI M 226 v1.toNatClampNeg) / 10))) M
  else
  if (rI M 223 v1.toNatClampNeg) = 3 then
    am_ci (F 53 0 [.int v2, .int 8, .int 16] [] M) fun x2 M1 => /- Model_in -/
    if x2 = 0 then
      am_rt 1 ((((rI M 226 v1.toNatClampNeg) + 20) + 0)) M1
    else
      am_rt 1 ((((rI M 226 v1.toNatClampNeg) + 20) + 10)) M1
  else
    am_dv 10 <|
    am_ci (F 53 0 [.int v2, .int 7, .int 9] [] M) fun x4 M3 => /- Model_in -/
    if x4 = 0 then
      am_ok 40 v1 <|
      if (rI M3 223 v1.toNatClampNeg) = 5 then
        am_rt 1 (((((rI M 226 v1.toNatClampNeg) + ((rI M 226 v1.toNatClampNeg) / 10)) * 1) + 100)) M3
      else
        am_rt 1 ((((rI M 226 v1.toNatClampNeg) + ((rI M 226 v1.toNatClampNeg) / 10)) * 1)) M3
    else
      am_ok 40 v1 <|
      if (rI M3 223 v1.toNatClampNeg) = 5 then
        am_rt 1 (((((rI M 226 v1.toNatClampNeg) + ((rI M 226 v1.toNatClampNeg) / 10)) * 2) + 100)) M3
      else
        am_rt 1 ((((rI M 226 v1.toNatClampNeg) + ((rI M 226 v1.toNatClampNeg) / 10)) * 2)) M3) = some r) : F 130 0 [.ref 219, .int v1, .int v2] [] M = some r := by
  refine e_Model_priceOf hF ?_
  refine (cl_gR (gk_219 hg) (gr_219_8 hg)).trans ?_
  obtain ⟨k1, h⟩ := iv_ok h; refine (cl_ia (gk_226 hg) k1).trans ?_
  refine (cl_gR (gk_219 hg) (gr_219_5 hg)).trans ?_
  obtain ⟨k2, h⟩ := iv_ok h; refine (cl_ia (gk_223 hg) k2).trans ?_
  rcases iv_ite h with ⟨hc, h⟩ | ⟨hc, h⟩
  · refine (if_pos hc).trans ?_
    exact h
  · refine (if_neg hc).trans ?_
    rcases iv_ite h with ⟨hc, h⟩ | ⟨hc, h⟩
    · refine (if_pos hc).trans ?_
      exact h
    · refine (if_neg hc).trans ?_
      rcases iv_ite h with ⟨hc, h⟩ | ⟨hc, h⟩
      · refine (if_pos hc).trans ?_
        obtain ⟨k3, h⟩ := iv_dv h; refine (cl_dv k3).trans ?_
        exact h
      · refine (if_neg hc).trans ?_
        rcases iv_ite h with ⟨hc, h⟩ | ⟨hc, h⟩
        · refine (if_pos hc).trans ?_
          obtain ⟨x2, M1, k4, h⟩ := iv_ci h; refine (cl_ci k4).trans ?_
          rcases iv_ite h with ⟨hc, h⟩ | ⟨hc, h⟩
          · refine (if_pos hc).trans ?_
            exact h
          · refine (if_neg hc).trans ?_
            exact h
        · refine (if_neg hc).trans ?_
          obtain ⟨k5, h⟩ := iv_dv h; refine (cl_dv k5).trans ?_
          obtain ⟨x4, M3, k6, h⟩ := iv_ci h; refine (cl_ci k6).trans ?_
          rcases iv_ite h with ⟨hc, h⟩ | ⟨hc, h⟩
          · refine (if_pos hc).trans ?_
            refine (cl_gR (gk_219 hg) (gr_219_5 hg)).trans ?_
            obtain ⟨k7, h⟩ := iv_ok h; refine (cl_ia (gk_223 hg) k7).trans ?_
            rcases iv_ite h with ⟨hc, h⟩ | ⟨hc, h⟩
            · refine (if_pos hc).trans ?_
              exact h
            · refine (if_neg hc).trans ?_
              exact h
          · refine (if_neg hc).trans ?_
            refine (cl_gR (gk_219 hg) (gr_219_5 hg)).trans ?_
            obtain ⟨k8, h⟩ := iv_ok h; refine (cl_ia (gk_223 hg) k8).trans ?_
            rcases iv_ite h with ⟨hc, h⟩ | ⟨hc, h⟩
            · refine (if_pos hc).trans ?_
              exact h
            · refine (if_neg hc).trans ?_
              exact h
theorem s_Model_pupil {g : am_G} {F : am_FT} (hF : F = am_F T0 g) (hg : GG g) {v1 : Int32} {M : am_M} {r : am_R} (h : (
  am_ci (F 53 0 [.int v1, .int 1, .int 30] [] M) fun x2 M1 => /- Model_in -/
  if x2 = 0 then
    am_rt 1 ((-2)) M1
  else
    if (fI M1 219 41) = 4 then
      am_rt 1 ((-4)) M1
    else
      am_ok 4 ((fI M1 219 41)) <|
      am_lt (wI M1 250 ((fI M1 219 41)).toNatClampNeg v1) fun M3 =>
      am_lt (fW M3 219 41 (((fI M3 219 41) + 1))) fun M4 =>
      am_rt 1 (((fI M4 219 41) - 1)) M4) = some r) : F 131 0 [.ref 219, .int v1] [] M = some r := by
  refine e_Model_pupil hF ?_
  obtain ⟨x2, M1, k1, h⟩ := iv_ci h; refine (cl_ci k1).trans ?_
  rcases iv_ite h with ⟨hc, h⟩ | ⟨hc, h⟩
  · refine (if_pos hc).trans ?_
    exact h
  · refine (if_neg hc).trans ?_
    refine (cl_gI (gk_219 hg)).trans ?_
    rcases iv_ite h with ⟨hc, h⟩ | ⟨hc, h⟩
    · refine (if_pos hc).trans ?_
      exact h
    · refine (if_neg hc).trans ?_
      refine (cl_gR (gk_219 hg) (gr_219_42 hg)).trans ?_
      refine (cl_gI (gk_219 hg)).trans ?_
      obtain ⟨k2, h⟩ := iv_ok h; refine (cl_is (gk_250 hg) k2).trans ?_
      replace h := iv_lt h
      refine (cl_gI (gk_219 hg)).trans ?_
      refine (cl_pI (gk_219 hg)).trans ?_
      replace h := iv_lt h
      refine (cl_gI (gk_219 hg)).trans ?_
      exact h
theorem s_Model_quarter {g : am_G} {F : am_FT} (hF : F = am_F T0 g) (hg : GG g) {v0 : Int32} {v1 : Int32} {v2 : Int32} {v3 : Int32} {M : am_M} {r : am_R} (h : (
  am_ci (F 49 0 [.int v0, .int v1, .int v2, .int v3] [] M) fun x2 M1 => /- Model_cross -/
  if 0 ≤ x2 then
    if x2 ≤ 0 then
      if ((v0 * v2) + (v1 * v3)) ≤ 0 then
        am_rt 1 2 M1
      else
        am_rt 1 0 M1
    else
      am_rt 1 3 M1
  else
    am_rt 1 1 M1) = some r) : F 132 0 [.int v0, .int v1, .int v2, .int v3] [] M = some r := by
  refine e_Model_quarter hF ?_
  obtain ⟨x2, M1, k1, h⟩ := iv_ci h; refine (cl_ci k1).trans ?_
  rcases iv_ite h with ⟨hc, h⟩ | ⟨hc, h⟩
  · refine (if_pos hc).trans ?_
    rcases iv_ite h with ⟨hc, h⟩ | ⟨hc, h⟩
    · refine (if_pos hc).trans ?_
      rcases iv_ite h with ⟨hc, h⟩ | ⟨hc, h⟩
      · refine (if_pos hc).trans ?_
        exact h
      · refine (if_neg hc).trans ?_
        exact h
    · refine (if_neg hc).trans ?_
      exact h
  · refine (if_neg hc).trans ?_
    exact h
theorem s_Model_read {g : am_G} {F : am_FT} (hF : F = am_F T0 g) (hg : GG g) {v1 : Int32} {v2 : Int32} {M : am_M} {r : am_R} (h : (
  am_ci (F 53 0 [.int v1, .int 0, .int 3] [] M) fun x2 M1 => /- Model_in -/
  if x2 = 0 then
    am_rt 1 ((-2)) M1
  else
    am_ok 4 v1 <|
    am_ci (F 53 0 [.int v2, .int 0, .int ((rI M1 260 v1.toNatClampNeg) - 1)] [] M1) fun x4 M3 => /- Model_in -/
    if x4 = 0 then
      am_rt 1 0 M3
    else
      am_ok 400 (((100 * v1) + v2)) <|
      am_rt 1 ((rI M3 261 (((100 * v1) + v2)).toNatClampNeg)) M3) = some r) : F 133 0 [.ref 219, .int v1, .int v2] [] M = some r := by
  refine e_Model_read hF ?_
  obtain ⟨x2, M1, k1, h⟩ := iv_ci h; refine (cl_ci k1).trans ?_
  rcases iv_ite h with ⟨hc, h⟩ | ⟨hc, h⟩
  · refine (if_pos hc).trans ?_
    exact h
  · refine (if_neg hc).trans ?_
    refine (cl_gR (gk_219 hg) (gr_219_54 hg)).trans ?_
    obtain ⟨k2, h⟩ := iv_ok h; refine (cl_ia (gk_260 hg) k2).trans ?_
    obtain ⟨x4, M3, k3, h⟩ := iv_ci h; refine (cl_ci k3).trans ?_
    rcases iv_ite h with ⟨hc, h⟩ | ⟨hc, h⟩
    · refine (if_pos hc).trans ?_
      exact h
    · refine (if_neg hc).trans ?_
      refine (cl_gR (gk_219 hg) (gr_219_55 hg)).trans ?_
      obtain ⟨k4, h⟩ := iv_ok h; refine (cl_ia (gk_261 hg) k4).trans ?_
      exact h
theorem s_Model_reads {g : am_G} {F : am_FT} (hF : F = am_F T0 g) (hg : GG g) {M : am_M} {r : am_R} (h : (
  am_cv (F 61 0 [.ref 219] [] M) fun M1 => /- Model_skips -/
  am_lt (fX M1 219 77 0) fun M2 =>
  F 134 11 [.ref 219, .int 0] [] M2) = some r) : F 134 0 [.ref 219] [] M = some r := by
  refine e_Model_reads hF ?_
  refine (cl_rc (gk_219 hg)).trans ?_
  obtain ⟨M1, k1, h⟩ := iv_cv h; refine (cl_cv k1).trans ?_
  refine (cl_pJ (gk_219 hg)).trans ?_
  replace h := iv_lt h
  exact h
theorem s_Model_reads_11 {g : am_G} {F : am_FT} (hF : F = am_F T0 g) (hg : GG g) {v1 : Int32} {M : am_M} {r : am_R} (h : (
  if (fI M 219 36) ≤ (fI M 219 75) then
    if v1 ≤ 8 then
      am_lt (fX M 219 77 ((fJ M 219 77))) fun M1 =>
      some (none, M1)
    else
      am_lt (fX M 219 77 0) fun M2 =>
      some (none, M2)
  else
    am_ok 160 ((fI M 219 75)) <|
    am_ci (F 53 0 [.int (rI M 246 ((fI M 219 75)).toNatClampNeg), .int 97, .int 122] [] M) fun x4 M3 => /- Model_in -/
    if x4 = 0 then
      if v1 ≤ 8 then
        am_lt (fX M3 219 77 ((fJ M3 219 77))) fun M5 =>
        some (none, M5)
      else
        am_lt (fX M3 219 77 0) fun M6 =>
        some (none, M6)
    else
      if 8 ≤ v1 then
        am_lt (fX M3 219 77 ((fJ M3 219 77))) fun M7 =>
        am_lt (fW M7 219 75 (((fI M7 219 75) + 1))) fun M8 =>
        F 134 11 [.ref 219, .int (v1 + 1)] [] M8
      else
        am_ok 160 ((fI M3 219 75)) <|
        am_lt (fX M3 219 77 ((((fJ M3 219 77) <<< ((8 : Int32).toInt64 &&& 63)) ||| ((rI M3 246 ((fI M3 219 75)).toNatClampNeg)).toInt64))) fun M9 =>
        am_lt (fW M9 219 75 (((fI M9 219 75) + 1))) fun M10 =>
        F 134 11 [.ref 219, .int (v1 + 1)] [] M10) = some r) : F 134 11 [.ref 219, .int v1] [] M = some r := by
  refine e_Model_reads_11 hF ?_
  refine (cl_gI (gk_219 hg)).trans ?_
  refine (cl_gI (gk_219 hg)).trans ?_
  rcases iv_ite h with ⟨hc, h⟩ | ⟨hc, h⟩
  · refine (if_pos hc).trans ?_
    rcases iv_ite h with ⟨hc, h⟩ | ⟨hc, h⟩
    · refine (if_pos hc).trans ?_
      refine (cl_gJ (gk_219 hg)).trans ?_
      refine (cl_pJ (gk_219 hg)).trans ?_
      replace h := iv_lt h
      exact h
    · refine (if_neg hc).trans ?_
      refine (cl_pJ (gk_219 hg)).trans ?_
      replace h := iv_lt h
      exact h
  · refine (if_neg hc).trans ?_
    refine (cl_gR (gk_219 hg) (gr_219_35 hg)).trans ?_
    refine (cl_gI (gk_219 hg)).trans ?_
    obtain ⟨k1, h⟩ := iv_ok h; refine (cl_ia (gk_246 hg) k1).trans ?_
    obtain ⟨x4, M3, k2, h⟩ := iv_ci h; refine (cl_ci k2).trans ?_
    rcases iv_ite h with ⟨hc, h⟩ | ⟨hc, h⟩
    · refine (if_pos hc).trans ?_
      rcases iv_ite h with ⟨hc, h⟩ | ⟨hc, h⟩
      · refine (if_pos hc).trans ?_
        refine (cl_gJ (gk_219 hg)).trans ?_
        refine (cl_pJ (gk_219 hg)).trans ?_
        replace h := iv_lt h
        exact h
      · refine (if_neg hc).trans ?_
        refine (cl_pJ (gk_219 hg)).trans ?_
        replace h := iv_lt h
        exact h
    · refine (if_neg hc).trans ?_
      rcases iv_ite h with ⟨hc, h⟩ | ⟨hc, h⟩
      · refine (if_pos hc).trans ?_
        refine (cl_gJ (gk_219 hg)).trans ?_
        refine (cl_pJ (gk_219 hg)).trans ?_
        replace h := iv_lt h
        refine (cl_gI (gk_219 hg)).trans ?_
        refine (cl_pI (gk_219 hg)).trans ?_
        replace h := iv_lt h
        exact h
      · refine (if_neg hc).trans ?_
        refine (cl_gJ (gk_219 hg)).trans ?_
        refine (cl_gR (gk_219 hg) (gr_219_35 hg)).trans ?_
        refine (cl_gI (gk_219 hg)).trans ?_
        obtain ⟨k3, h⟩ := iv_ok h; refine (cl_ia (gk_246 hg) k3).trans ?_
        refine (cl_pJ (gk_219 hg)).trans ?_
        replace h := iv_lt h
        refine (cl_gI (gk_219 hg)).trans ?_
        refine (cl_pI (gk_219 hg)).trans ?_
        replace h := iv_lt h
        exact h
theorem s_Model_rides {g : am_G} {F : am_FT} (hF : F = am_F T0 g) (hg : GG g) {v1 : Int32} {v2 : Int32} {v3 : Int32} {M : am_M} {r : am_R} (h : (
  F 135 3 [.ref 219, .int v1, .int v2, .int v3, .int 0] [] M) = some r) : F 135 0 [.ref 219, .int v1, .int v2, .int v3] [] M = some r := by
  refine e_Model_rides hF ?_
  exact h
theorem s_Model_rides_3 {g : am_G} {F : am_FT} (hF : F = am_F T0 g) (hg : GG g) {v1 : Int32} {v2 : Int32} {v3 : Int32} {v4 : Int32} {M : am_M} {r : am_R} (h : (
  am_ok 10 v2 <|
  if ((rI M 247 v2.toNatClampNeg) - 1) ≤ v4 then
    some (none, M)
  else
    am_ci (F 60 0 [.ref 219, .int v2, .int v4] [] M) fun x2 M1 => /- Model_linkOf -/
    if x2 = (-1) then
      F 135 3 [.ref 219, .int v1, .int v2, .int v3, .int (v4 + 1)] [] M1
    else
      am_ok 25600 (((6400 * v1) + x2)) <|
      am_ok 25600 (((6400 * v1) + x2)) <|
      if 6 ≤ (rI M1 251 (((6400 * v1) + x2)).toNatClampNeg) then
        am_ok 25600 (((6400 * v1) + x2)) <|
        am_lt (wI M1 251 (((6400 * v1) + x2)).toNatClampNeg (((rI M1 251 (((6400 * v1) + x2)).toNatClampNeg) + 0))) fun M3 =>
        am_ok 25600 (((6400 * v1) + x2)) <|
        am_lt (wI M3 252 (((6400 * v1) + x2)).toNatClampNeg v3) fun M4 =>
        F 135 3 [.ref 219, .int v1, .int v2, .int v3, .int (v4 + 1)] [] M4
      else
        am_ok 25600 (((6400 * v1) + x2)) <|
        am_lt (wI M1 251 (((6400 * v1) + x2)).toNatClampNeg (((rI M1 251 (((6400 * v1) + x2)).toNatClampNeg) + 1))) fun M5 =>
        am_ok 25600 (((6400 * v1) + x2)) <|
        am_lt (wI M5 252 (((6400 * v1) + x2)).toNatClampNeg v3) fun M6 =>
        F 135 3 [.ref 219, .int v1, .int v2, .int v3, .int (v4 + 1)] [] M6) = some r) : F 135 3 [.ref 219, .int v1, .int v2, .int v3, .int v4] [] M = some r := by
  refine e_Model_rides_3 hF ?_
  refine (cl_gR (gk_219 hg) (gr_219_38 hg)).trans ?_
  obtain ⟨k1, h⟩ := iv_ok h; refine (cl_ia (gk_247 hg) k1).trans ?_
  rcases iv_ite h with ⟨hc, h⟩ | ⟨hc, h⟩
  · refine (if_pos hc).trans ?_
    exact h
  · refine (if_neg hc).trans ?_
    refine (cl_rc (gk_219 hg)).trans ?_
    obtain ⟨x2, M1, k2, h⟩ := iv_ci h; refine (cl_ci k2).trans ?_
    rcases iv_ite h with ⟨hc, h⟩ | ⟨hc, h⟩
    · refine (if_pos hc).trans ?_
      exact h
    · refine (if_neg hc).trans ?_
      refine (cl_gR (gk_219 hg) (gr_219_43 hg)).trans ?_
      obtain ⟨k3, h⟩ := iv_ok h; refine (cl_ia (gk_251 hg) k3).trans ?_
      refine (cl_gR (gk_219 hg) (gr_219_43 hg)).trans ?_
      obtain ⟨k4, h⟩ := iv_ok h; refine (cl_ia (gk_251 hg) k4).trans ?_
      rcases iv_ite h with ⟨hc, h⟩ | ⟨hc, h⟩
      · refine (if_pos hc).trans ?_
        obtain ⟨k5, h⟩ := iv_ok h; refine (cl_is (gk_251 hg) k5).trans ?_
        replace h := iv_lt h
        refine (cl_gR (gk_219 hg) (gr_219_44 hg)).trans ?_
        obtain ⟨k6, h⟩ := iv_ok h; refine (cl_is (gk_252 hg) k6).trans ?_
        replace h := iv_lt h
        exact h
      · refine (if_neg hc).trans ?_
        obtain ⟨k7, h⟩ := iv_ok h; refine (cl_is (gk_251 hg) k7).trans ?_
        replace h := iv_lt h
        refine (cl_gR (gk_219 hg) (gr_219_44 hg)).trans ?_
        obtain ⟨k8, h⟩ := iv_ok h; refine (cl_is (gk_252 hg) k8).trans ?_
        replace h := iv_lt h
        exact h
theorem s_Model_ring {g : am_G} {F : am_FT} (hF : F = am_F T0 g) (hg : GG g) {v1 : Int32} {v2 : Int32} {M : am_M} {r : am_R} (h : (
  am_ci (F 53 0 [.int v1, .int 0, .int ((fI M 219 0) - 1)] [] M) fun x2 M1 => /- Model_in -/
  if x2 = 0 then
    am_rt 1 ((-1)) M1
  else
    am_ci (F 53 0 [.int v2, .int 0, .int 1] [] M1) fun x4 M3 => /- Model_in -/
    if x4 = 0 then
      am_rt 1 ((-2)) M3
    else
      am_ok 24 v1 <|
      if (rI M3 222 v1.toNatClampNeg) = 0 then
        if v2 = 1 then
          am_ok 24 v1 <|
          am_lt (wI M3 222 v1.toNatClampNeg (vp_nar .boolean 1)) fun M6 =>
          am_rt 1 0 M6
        else
          am_ok 24 v1 <|
          am_lt (wI M3 222 v1.toNatClampNeg (vp_nar .boolean 0)) fun M5 =>
          am_rt 1 0 M5
      else
        if v2 = 1 then
          am_ok 24 v1 <|
          am_lt (wI M3 222 v1.toNatClampNeg (vp_nar .boolean 1)) fun M8 =>
          am_rt 1 1 M8
        else
          am_ok 24 v1 <|
          am_lt (wI M3 222 v1.toNatClampNeg (vp_nar .boolean 0)) fun M7 =>
          am_rt 1 1 M7) = some r) : F 136 0 [.ref 219, .int v1, .int v2] [] M = some r := by
  refine e_Model_ring hF ?_
  refine (cl_gI (gk_219 hg)).trans ?_
  obtain ⟨x2, M1, k1, h⟩ := iv_ci h; refine (cl_ci k1).trans ?_
  rcases iv_ite h with ⟨hc, h⟩ | ⟨hc, h⟩
  · refine (if_pos hc).trans ?_
    exact h
  · refine (if_neg hc).trans ?_
    obtain ⟨x4, M3, k2, h⟩ := iv_ci h; refine (cl_ci k2).trans ?_
    rcases iv_ite h with ⟨hc, h⟩ | ⟨hc, h⟩
    · refine (if_pos hc).trans ?_
      exact h
    · refine (if_neg hc).trans ?_
      refine (cl_gR (gk_219 hg) (gr_219_3 hg)).trans ?_
      obtain ⟨k3, h⟩ := iv_ok h; refine (cl_za (gk_222 hg) k3).trans ?_
      rcases iv_ite h with ⟨hc, h⟩ | ⟨hc, h⟩
      · refine (if_pos hc).trans ?_
        refine (cl_gR (gk_219 hg) (gr_219_3 hg)).trans ?_
        rcases iv_ite h with ⟨hc, h⟩ | ⟨hc, h⟩
        · refine (if_pos hc).trans ?_
          obtain ⟨k5, h⟩ := iv_ok h; refine (cl_zs (gk_222 hg) k5).trans ?_
          replace h := iv_lt h
          exact h
        · refine (if_neg hc).trans ?_
          obtain ⟨k4, h⟩ := iv_ok h; refine (cl_zs (gk_222 hg) k4).trans ?_
          replace h := iv_lt h
          exact h
      · refine (if_neg hc).trans ?_
        refine (cl_gR (gk_219 hg) (gr_219_3 hg)).trans ?_
        rcases iv_ite h with ⟨hc, h⟩ | ⟨hc, h⟩
        · refine (if_pos hc).trans ?_
          obtain ⟨k7, h⟩ := iv_ok h; refine (cl_zs (gk_222 hg) k7).trans ?_
          replace h := iv_lt h
          exact h
        · refine (if_neg hc).trans ?_
          obtain ⟨k6, h⟩ := iv_ok h; refine (cl_zs (gk_222 hg) k6).trans ?_
          replace h := iv_lt h
          exact h
theorem s_Model_run {g : am_G} {F : am_FT} (hF : F = am_F T0 g) (hg : GG g) {v1 : Int32} {v2 : Int32} {M : am_M} {r : am_R} (h : (
  am_ci (F 53 0 [.int v1, .int 0, .int ((fI M 219 37) - 1)] [] M) fun x2 M1 => /- Model_in -/
  if x2 = 0 then
    am_rt 1 ((-1)) M1
  else
    am_ok 10 v1 <|
    am_ci (F 53 0 [.int v2, .int (-1), .int ((rI M1 247 v1.toNatClampNeg) - 1)] [] M1) fun x4 M3 => /- Model_in -/
    if x4 = 0 then
      am_rt 1 ((-2)) M3
    else
      if v2 = (-1) then
        am_ok 10 v1 <|
        am_rt 1 ((rI M3 247 v1.toNatClampNeg)) M3
      else
        am_ok 210 (((21 * v1) + v2)) <|
        am_rt 1 ((rI M3 248 (((21 * v1) + v2)).toNatClampNeg)) M3) = some r) : F 137 0 [.ref 219, .int v1, .int v2] [] M = some r := by
  refine e_Model_run hF ?_
  refine (cl_gI (gk_219 hg)).trans ?_
  obtain ⟨x2, M1, k1, h⟩ := iv_ci h; refine (cl_ci k1).trans ?_
  rcases iv_ite h with ⟨hc, h⟩ | ⟨hc, h⟩
  · refine (if_pos hc).trans ?_
    exact h
  · refine (if_neg hc).trans ?_
    refine (cl_gR (gk_219 hg) (gr_219_38 hg)).trans ?_
    obtain ⟨k2, h⟩ := iv_ok h; refine (cl_ia (gk_247 hg) k2).trans ?_
    obtain ⟨x4, M3, k3, h⟩ := iv_ci h; refine (cl_ci k3).trans ?_
    rcases iv_ite h with ⟨hc, h⟩ | ⟨hc, h⟩
    · refine (if_pos hc).trans ?_
      exact h
    · refine (if_neg hc).trans ?_
      rcases iv_ite h with ⟨hc, h⟩ | ⟨hc, h⟩
      · refine (if_pos hc).trans ?_
        refine (cl_gR (gk_219 hg) (gr_219_38 hg)).trans ?_
        obtain ⟨k5, h⟩ := iv_ok h; refine (cl_ia (gk_247 hg) k5).trans ?_
        exact h
      · refine (if_neg hc).trans ?_
        refine (cl_gR (gk_219 hg) (gr_219_39 hg)).trans ?_
        obtain ⟨k4, h⟩ := iv_ok h; refine (cl_ia (gk_248 hg) k4).trans ?_
        exact h
theorem s_Model_runTold {g : am_G} {F : am_FT} (hF : F = am_F T0 g) (hg : GG g) {v1 : Int32} {v2 : Int32} {M : am_M} {r : am_R} (h : (
  am_ci (F 53 0 [.int v1, .int 0, .int ((fI M 219 37) - 1)] [] M) fun x2 M1 => /- Model_in -/
  if x2 = 0 then
    am_rt 1 ((-1)) M1
  else
    am_ci (F 53 0 [.int v2, .int 0, .int 5] [] M1) fun x4 M3 => /- Model_in -/
    if x4 = 0 then
      am_rt 1 ((-2)) M3
    else
      am_ok 60 (((6 * v1) + v2)) <|
      am_rt 1 ((rI M3 249 (((6 * v1) + v2)).toNatClampNeg)) M3) = some r) : F 138 0 [.ref 219, .int v1, .int v2] [] M = some r := by
  refine e_Model_runTold hF ?_
  refine (cl_gI (gk_219 hg)).trans ?_
  obtain ⟨x2, M1, k1, h⟩ := iv_ci h; refine (cl_ci k1).trans ?_
  rcases iv_ite h with ⟨hc, h⟩ | ⟨hc, h⟩
  · refine (if_pos hc).trans ?_
    exact h
  · refine (if_neg hc).trans ?_
    obtain ⟨x4, M3, k2, h⟩ := iv_ci h; refine (cl_ci k2).trans ?_
    rcases iv_ite h with ⟨hc, h⟩ | ⟨hc, h⟩
    · refine (if_pos hc).trans ?_
      exact h
    · refine (if_neg hc).trans ?_
      refine (cl_gR (gk_219 hg) (gr_219_40 hg)).trans ?_
      obtain ⟨k3, h⟩ := iv_ok h; refine (cl_ia (gk_249 hg) k3).trans ?_
      exact h
theorem s_Model_sheet {g : am_G} {F : am_FT} (hF : F = am_F T0 g) (hg : GG g) {v1 : Int32} {v2 : Int32} {v3 : Int32} {M : am_M} {r : am_R} (h : (
  am_ci (F 53 0 [.int v1, .int 0, .int 3] [] M) fun x2 M1 => /- Model_in -/
  if x2 = 0 then
    am_rt 1 ((-2)) M1
  else
    am_ci (F 53 0 [.int v2, .int (-1), .int 2] [] M1) fun x4 M3 => /- Model_in -/
    if x4 = 0 then
      am_rt 1 ((-2)) M3
    else
      if v2 = (-1) then
        if v2 = (-1) then
          am_ok 4 v1 <|
          am_lt (wI M3 259 v1.toNatClampNeg v2) fun M5 =>
          if v2 = (-1) then
            am_ok 4 v1 <|
            am_lt (wI M5 260 v1.toNatClampNeg 0) fun M7 =>
            F 139 70 [.ref 219, .int v1, .int 0] [] M7
          else
            am_ok 4 v1 <|
            am_lt (wI M5 260 v1.toNatClampNeg v3) fun M6 =>
            F 139 70 [.ref 219, .int v1, .int 0] [] M6
        else
          if 0 ≤ v3 then
            am_ok 4 v1 <|
            am_lt (wI M3 259 v1.toNatClampNeg v2) fun M8 =>
            if v2 = (-1) then
              am_ok 4 v1 <|
              am_lt (wI M8 260 v1.toNatClampNeg 0) fun M10 =>
              F 139 70 [.ref 219, .int v1, .int 0] [] M10
            else
              am_ok 4 v1 <|
              am_lt (wI M8 260 v1.toNatClampNeg v3) fun M9 =>
              F 139 70 [.ref 219, .int v1, .int 0] [] M9
          else
            am_rt 1 ((-14)) M3
      else
        if v3 ≤ 100 then
          if v2 = (-1) then
            am_ok 4 v1 <|
            am_lt (wI M3 259 v1.toNatClampNeg v2) fun M11 =>
            if v2 = (-1) then
              am_ok 4 v1 <|
              am_lt (wI M11 260 v1.toNatClampNeg 0) fun M13 =>
              F 139 70 [.ref 219, .int v1, .int 0] [] M13
            else
              am_ok 4 v1 <|
              am_lt (wI M11 260 v1.toNatClampNeg v3) fun M12 =>
              F 139 70 [.ref 219, .int v1, .int 0] [] M12
          else
            if 0 ≤ v3 then
              am_ok 4 v1 <|
              am_lt (wI M3 259 v1.toNatClampNeg v2) fun M14 =>
              if v2 = (-1) then
                am_ok 4 v1 <|
                am_lt (wI M14 260 v1.toNatClampNeg 0) fun M16 =>
                F 139 70 [.ref 219, .int v1, .int 0] [] M16
              else
                am_ok 4 v1 <|
                am_lt (wI M14 260 v1.toNatClampNeg v3) fun M15 =>
                F 139 70 [.ref 219, .int v1, .int 0] [] M15
            else
              am_rt 1 ((-14)) M3
        else
          am_rt 1 ((-2)) M3) = some r) : F 139 0 [.ref 219, .int v1, .int v2, .int v3] [] M = some r := by
  refine e_Model_sheet hF ?_
  obtain ⟨x2, M1, k1, h⟩ := iv_ci h; refine (cl_ci k1).trans ?_
  rcases iv_ite h with ⟨hc, h⟩ | ⟨hc, h⟩
  · refine (if_pos hc).trans ?_
    exact h
  · refine (if_neg hc).trans ?_
    obtain ⟨x4, M3, k2, h⟩ := iv_ci h; refine (cl_ci k2).trans ?_
    rcases iv_ite h with ⟨hc, h⟩ | ⟨hc, h⟩
    · refine (if_pos hc).trans ?_
      exact h
    · refine (if_neg hc).trans ?_
      rcases iv_ite h with ⟨hc, h⟩ | ⟨hc, h⟩
      · refine (if_pos hc).trans ?_
        rcases iv_ite h with ⟨hc, h⟩ | ⟨hc, h⟩
        · refine (if_pos hc).trans ?_
          refine (cl_gR (gk_219 hg) (gr_219_53 hg)).trans ?_
          obtain ⟨k3, h⟩ := iv_ok h; refine (cl_is (gk_259 hg) k3).trans ?_
          replace h := iv_lt h
          refine (cl_gR (gk_219 hg) (gr_219_54 hg)).trans ?_
          rcases iv_ite h with ⟨hc, h⟩ | ⟨hc, h⟩
          · refine (if_pos hc).trans ?_
            obtain ⟨k5, h⟩ := iv_ok h; refine (cl_is (gk_260 hg) k5).trans ?_
            replace h := iv_lt h
            exact h
          · refine (if_neg hc).trans ?_
            obtain ⟨k4, h⟩ := iv_ok h; refine (cl_is (gk_260 hg) k4).trans ?_
            replace h := iv_lt h
            exact h
        · refine (if_neg hc).trans ?_
          rcases iv_ite h with ⟨hc, h⟩ | ⟨hc, h⟩
          · refine (if_pos hc).trans ?_
            refine (cl_gR (gk_219 hg) (gr_219_53 hg)).trans ?_
            obtain ⟨k6, h⟩ := iv_ok h; refine (cl_is (gk_259 hg) k6).trans ?_
            replace h := iv_lt h
            refine (cl_gR (gk_219 hg) (gr_219_54 hg)).trans ?_
            rcases iv_ite h with ⟨hc, h⟩ | ⟨hc, h⟩
            · refine (if_pos hc).trans ?_
              obtain ⟨k8, h⟩ := iv_ok h; refine (cl_is (gk_260 hg) k8).trans ?_
              replace h := iv_lt h
              exact h
            · refine (if_neg hc).trans ?_
              obtain ⟨k7, h⟩ := iv_ok h; refine (cl_is (gk_260 hg) k7).trans ?_
              replace h := iv_lt h
              exact h
          · refine (if_neg hc).trans ?_
            exact h
      · refine (if_neg hc).trans ?_
        rcases iv_ite h with ⟨hc, h⟩ | ⟨hc, h⟩
        · refine (if_pos hc).trans ?_
          rcases iv_ite h with ⟨hc, h⟩ | ⟨hc, h⟩
          · refine (if_pos hc).trans ?_
            refine (cl_gR (gk_219 hg) (gr_219_53 hg)).trans ?_
            obtain ⟨k9, h⟩ := iv_ok h; refine (cl_is (gk_259 hg) k9).trans ?_
            replace h := iv_lt h
            refine (cl_gR (gk_219 hg) (gr_219_54 hg)).trans ?_
            rcases iv_ite h with ⟨hc, h⟩ | ⟨hc, h⟩
            · refine (if_pos hc).trans ?_
              obtain ⟨k11, h⟩ := iv_ok h; refine (cl_is (gk_260 hg) k11).trans ?_
              replace h := iv_lt h
              exact h
            · refine (if_neg hc).trans ?_
              obtain ⟨k10, h⟩ := iv_ok h; refine (cl_is (gk_260 hg) k10).trans ?_
              replace h := iv_lt h
              exact h
          · refine (if_neg hc).trans ?_
            rcases iv_ite h with ⟨hc, h⟩ | ⟨hc, h⟩
            · refine (if_pos hc).trans ?_
              refine (cl_gR (gk_219 hg) (gr_219_53 hg)).trans ?_
              obtain ⟨k12, h⟩ := iv_ok h; refine (cl_is (gk_259 hg) k12).trans ?_
              replace h := iv_lt h
              refine (cl_gR (gk_219 hg) (gr_219_54 hg)).trans ?_
              rcases iv_ite h with ⟨hc, h⟩ | ⟨hc, h⟩
              · refine (if_pos hc).trans ?_
                obtain ⟨k14, h⟩ := iv_ok h; refine (cl_is (gk_260 hg) k14).trans ?_
                replace h := iv_lt h
                exact h
              · refine (if_neg hc).trans ?_
                obtain ⟨k13, h⟩ := iv_ok h; refine (cl_is (gk_260 hg) k13).trans ?_
                replace h := iv_lt h
                exact h
            · refine (if_neg hc).trans ?_
              exact h
        · refine (if_neg hc).trans ?_
          exact h
theorem s_Model_sheet_70 {g : am_G} {F : am_FT} (hF : F = am_F T0 g) (hg : GG g) {v1 : Int32} {v4 : Int32} {M : am_M} {r : am_R} (h : (
  if 100 ≤ v4 then
    am_rt 1 1 M
  else
    am_ok 400 (((100 * v1) + v4)) <|
    am_lt (wI M 261 (((100 * v1) + v4)).toNatClampNeg 0) fun M1 =>
    F 139 70 [.ref 219, .int v1, .int (v4 + 1)] [] M1) = some r) : F 139 70 [.ref 219, .int v1, .int v4] [] M = some r := by
  refine e_Model_sheet_70 hF ?_
  rcases iv_ite h with ⟨hc, h⟩ | ⟨hc, h⟩
  · refine (if_pos hc).trans ?_
    exact h
  · refine (if_neg hc).trans ?_
    refine (cl_gR (gk_219 hg) (gr_219_55 hg)).trans ?_
    obtain ⟨k1, h⟩ := iv_ok h; refine (cl_is (gk_261 hg) k1).trans ?_
    replace h := iv_lt h
    exact h
theorem s_Model_taken {g : am_G} {F : am_FT} (hF : F = am_F T0 g) (hg : GG g) {v1 : Int32} {v2 : Int32} {M : am_M} {r : am_R} (h : (
  am_ci (F 53 0 [.int v2, .int 0, .int 8] [] M) fun x2 M1 => /- Model_in -/
  if x2 = 0 then
    am_rt 1 ((-2)) M1
  else
    am_lt (fW M1 219 34 (((fI M1 219 34) + 1))) fun M3 =>
    am_ci (F 53 0 [.int v1, .int 0, .int ((fI M3 219 31) - 1)] [] M3) fun x5 M4 => /- Model_in -/
    if x5 = 0 then
      am_rt 1 ((-11)) M4
    else
      am_ok 72 v1 <|
      am_ok 72 v1 <|
      if v2 = 8 then
        am_rt 1 ((rI M4 244 v1.toNatClampNeg)) M4
      else
        if v2 < 6 then
          if (rI M4 244 v1.toNatClampNeg) = 1 then
            am_ok 40 ((rI M4 245 v1.toNatClampNeg)) <|
            am_ci (F 58 0 [.int (rI M4 223 ((rI M4 245 v1.toNatClampNeg)).toNatClampNeg), .int v2] [] M4) fun x7 M6 => /- Model_isUnder -/
            if x7 = 0 then
              am_rt 1 ((-13)) M6
            else
              am_ok 40 ((rI M4 245 v1.toNatClampNeg)) <|
              am_rt 1 ((rI M6 226 ((rI M4 245 v1.toNatClampNeg)).toNatClampNeg)) M6
          else
            am_rt 1 ((-13)) M4
        else
          if v2 = 6 then
            if (rI M4 244 v1.toNatClampNeg) = 0 then
              if v2 = 6 then
                am_ok 24 ((rI M4 245 v1.toNatClampNeg)) <|
                am_rt 1 ((rI M4 220 ((rI M4 245 v1.toNatClampNeg)).toNatClampNeg)) M4
              else
                am_ok 8 ((rI M4 245 v1.toNatClampNeg)) <|
                am_rt 1 ((rI M4 229 ((rI M4 245 v1.toNatClampNeg)).toNatClampNeg)) M4
            else
              am_rt 1 ((-13)) M4
          else
            if (rI M4 244 v1.toNatClampNeg) = 2 then
              if v2 = 6 then
                am_ok 24 ((rI M4 245 v1.toNatClampNeg)) <|
                am_rt 1 ((rI M4 220 ((rI M4 245 v1.toNatClampNeg)).toNatClampNeg)) M4
              else
                am_ok 8 ((rI M4 245 v1.toNatClampNeg)) <|
                am_rt 1 ((rI M4 229 ((rI M4 245 v1.toNatClampNeg)).toNatClampNeg)) M4
            else
              am_rt 1 ((-13)) M4) = some r) : F 140 0 [.ref 219, .int v1, .int v2] [] M = some r := by
  refine e_Model_taken hF ?_
  obtain ⟨x2, M1, k1, h⟩ := iv_ci h; refine (cl_ci k1).trans ?_
  rcases iv_ite h with ⟨hc, h⟩ | ⟨hc, h⟩
  · refine (if_pos hc).trans ?_
    exact h
  · refine (if_neg hc).trans ?_
    refine (cl_gI (gk_219 hg)).trans ?_
    refine (cl_pI (gk_219 hg)).trans ?_
    replace h := iv_lt h
    refine (cl_gI (gk_219 hg)).trans ?_
    obtain ⟨x5, M4, k2, h⟩ := iv_ci h; refine (cl_ci k2).trans ?_
    rcases iv_ite h with ⟨hc, h⟩ | ⟨hc, h⟩
    · refine (if_pos hc).trans ?_
      exact h
    · refine (if_neg hc).trans ?_
      refine (cl_gR (gk_219 hg) (gr_219_32 hg)).trans ?_
      obtain ⟨k3, h⟩ := iv_ok h; refine (cl_ia (gk_244 hg) k3).trans ?_
      refine (cl_gR (gk_219 hg) (gr_219_33 hg)).trans ?_
      obtain ⟨k4, h⟩ := iv_ok h; refine (cl_ia (gk_245 hg) k4).trans ?_
      rcases iv_ite h with ⟨hc, h⟩ | ⟨hc, h⟩
      · refine (if_pos hc).trans ?_
        exact h
      · refine (if_neg hc).trans ?_
        rcases iv_ite h with ⟨hc, h⟩ | ⟨hc, h⟩
        · refine (if_pos hc).trans ?_
          rcases iv_ite h with ⟨hc, h⟩ | ⟨hc, h⟩
          · refine (if_pos hc).trans ?_
            refine (cl_gR (gk_219 hg) (gr_219_5 hg)).trans ?_
            obtain ⟨k5, h⟩ := iv_ok h; refine (cl_ia (gk_223 hg) k5).trans ?_
            obtain ⟨x7, M6, k6, h⟩ := iv_ci h; refine (cl_ci k6).trans ?_
            rcases iv_ite h with ⟨hc, h⟩ | ⟨hc, h⟩
            · refine (if_pos hc).trans ?_
              exact h
            · refine (if_neg hc).trans ?_
              refine (cl_gR (gk_219 hg) (gr_219_8 hg)).trans ?_
              obtain ⟨k7, h⟩ := iv_ok h; refine (cl_ia (gk_226 hg) k7).trans ?_
              exact h
          · refine (if_neg hc).trans ?_
            exact h
        · refine (if_neg hc).trans ?_
          rcases iv_ite h with ⟨hc, h⟩ | ⟨hc, h⟩
          · refine (if_pos hc).trans ?_
            rcases iv_ite h with ⟨hc, h⟩ | ⟨hc, h⟩
            · refine (if_pos hc).trans ?_
              rcases iv_ite h with ⟨hc, h⟩ | ⟨hc, h⟩
              · refine (if_pos hc).trans ?_
                refine (cl_gR (gk_219 hg) (gr_219_1 hg)).trans ?_
                obtain ⟨k11, h⟩ := iv_ok h; refine (cl_ia (gk_220 hg) k11).trans ?_
                exact h
              · refine (if_neg hc).trans ?_
                refine (cl_gR (gk_219 hg) (gr_219_12 hg)).trans ?_
                obtain ⟨k10, h⟩ := iv_ok h; refine (cl_ia (gk_229 hg) k10).trans ?_
                exact h
            · refine (if_neg hc).trans ?_
              exact h
          · refine (if_neg hc).trans ?_
            rcases iv_ite h with ⟨hc, h⟩ | ⟨hc, h⟩
            · refine (if_pos hc).trans ?_
              rcases iv_ite h with ⟨hc, h⟩ | ⟨hc, h⟩
              · refine (if_pos hc).trans ?_
                refine (cl_gR (gk_219 hg) (gr_219_1 hg)).trans ?_
                obtain ⟨k9, h⟩ := iv_ok h; refine (cl_ia (gk_220 hg) k9).trans ?_
                exact h
              · refine (if_neg hc).trans ?_
                refine (cl_gR (gk_219 hg) (gr_219_12 hg)).trans ?_
                obtain ⟨k8, h⟩ := iv_ok h; refine (cl_ia (gk_229 hg) k8).trans ?_
                exact h
            · refine (if_neg hc).trans ?_
              exact h
theorem s_Model_way {g : am_G} {F : am_FT} (hF : F = am_F T0 g) (hg : GG g) {v1 : Int32} {v2 : Int32} {v3 : Int32} {v4 : Int32} {v5 : Int32} {M : am_M} {r : am_R} (h : (
  am_ci (F 53 0 [.int v2, .int 0, .int ((fI M 219 0) - 1)] [] M) fun x2 M1 => /- Model_in -/
  if x2 = 0 then
    am_rt 1 ((-1)) M1
  else
    am_ci (F 53 0 [.int v3, .int 0, .int ((fI M1 219 0) - 1)] [] M1) fun x4 M3 => /- Model_in -/
    if x4 = 0 then
      am_rt 1 ((-1)) M3
    else
      am_ci (F 53 0 [.int v1, .int 0, .int 5] [] M3) fun x6 M5 => /- Model_in -/
      if x6 = 0 then
        am_rt 1 ((-2)) M5
      else
        if v2 = v3 then
          am_rt 1 ((-2)) M5
        else
          am_ci (F 53 0 [.int v4, .int 2, .int 999] [] M5) fun x8 M7 => /- Model_in -/
          if x8 = 0 then
            am_rt 1 ((-2)) M7
          else
            am_ci (F 53 0 [.int v5, .int 0, .int 1] [] M7) fun x10 M9 => /- Model_in -/
            if x10 = 0 then
              am_rt 1 ((-2)) M9
            else
              if (fI M9 219 4) = 40 then
                am_rt 1 ((-4)) M9
              else
                am_ok 40 ((fI M9 219 4)) <|
                am_lt (wI M9 223 ((fI M9 219 4)).toNatClampNeg v1) fun M11 =>
                am_ok 40 ((fI M11 219 4)) <|
                am_lt (wI M11 224 ((fI M11 219 4)).toNatClampNeg v2) fun M12 =>
                am_ok 40 ((fI M12 219 4)) <|
                am_lt (wI M12 225 ((fI M12 219 4)).toNatClampNeg v3) fun M13 =>
                am_ok 40 ((fI M13 219 4)) <|
                am_lt (wI M13 226 ((fI M13 219 4)).toNatClampNeg v4) fun M14 =>
                if v5 = 1 then
                  am_ok 40 ((fI M14 219 4)) <|
                  am_lt (wI M14 227 ((fI M14 219 4)).toNatClampNeg (vp_nar .boolean 1)) fun M19 =>
                  am_lt (fW M19 219 4 (((fI M19 219 4) + 1))) fun M20 =>
                  am_ci (F 46 0 [.ref 219, .int 1, .int ((fI M20 219 4) - 1)] [] M20) fun x22 M21 => /- Model_comes -/
                  am_rt 1 x22 M21
                else
                  am_ok 40 ((fI M14 219 4)) <|
                  am_lt (wI M14 227 ((fI M14 219 4)).toNatClampNeg (vp_nar .boolean 0)) fun M15 =>
                  am_lt (fW M15 219 4 (((fI M15 219 4) + 1))) fun M16 =>
                  am_ci (F 46 0 [.ref 219, .int 1, .int ((fI M16 219 4) - 1)] [] M16) fun x18 M17 => /- Model_comes -/
                  am_rt 1 x18 M17) = some r) : F 141 0 [.ref 219, .int v1, .int v2, .int v3, .int v4, .int v5] [] M = some r := by
  refine e_Model_way hF ?_
  refine (cl_gI (gk_219 hg)).trans ?_
  obtain ⟨x2, M1, k1, h⟩ := iv_ci h; refine (cl_ci k1).trans ?_
  rcases iv_ite h with ⟨hc, h⟩ | ⟨hc, h⟩
  · refine (if_pos hc).trans ?_
    exact h
  · refine (if_neg hc).trans ?_
    refine (cl_gI (gk_219 hg)).trans ?_
    obtain ⟨x4, M3, k2, h⟩ := iv_ci h; refine (cl_ci k2).trans ?_
    rcases iv_ite h with ⟨hc, h⟩ | ⟨hc, h⟩
    · refine (if_pos hc).trans ?_
      exact h
    · refine (if_neg hc).trans ?_
      obtain ⟨x6, M5, k3, h⟩ := iv_ci h; refine (cl_ci k3).trans ?_
      rcases iv_ite h with ⟨hc, h⟩ | ⟨hc, h⟩
      · refine (if_pos hc).trans ?_
        exact h
      · refine (if_neg hc).trans ?_
        rcases iv_ite h with ⟨hc, h⟩ | ⟨hc, h⟩
        · refine (if_pos hc).trans ?_
          exact h
        · refine (if_neg hc).trans ?_
          obtain ⟨x8, M7, k4, h⟩ := iv_ci h; refine (cl_ci k4).trans ?_
          rcases iv_ite h with ⟨hc, h⟩ | ⟨hc, h⟩
          · refine (if_pos hc).trans ?_
            exact h
          · refine (if_neg hc).trans ?_
            obtain ⟨x10, M9, k5, h⟩ := iv_ci h; refine (cl_ci k5).trans ?_
            rcases iv_ite h with ⟨hc, h⟩ | ⟨hc, h⟩
            · refine (if_pos hc).trans ?_
              exact h
            · refine (if_neg hc).trans ?_
              refine (cl_gI (gk_219 hg)).trans ?_
              rcases iv_ite h with ⟨hc, h⟩ | ⟨hc, h⟩
              · refine (if_pos hc).trans ?_
                exact h
              · refine (if_neg hc).trans ?_
                refine (cl_gR (gk_219 hg) (gr_219_5 hg)).trans ?_
                refine (cl_gI (gk_219 hg)).trans ?_
                obtain ⟨k6, h⟩ := iv_ok h; refine (cl_is (gk_223 hg) k6).trans ?_
                replace h := iv_lt h
                refine (cl_gR (gk_219 hg) (gr_219_6 hg)).trans ?_
                refine (cl_gI (gk_219 hg)).trans ?_
                obtain ⟨k7, h⟩ := iv_ok h; refine (cl_is (gk_224 hg) k7).trans ?_
                replace h := iv_lt h
                refine (cl_gR (gk_219 hg) (gr_219_7 hg)).trans ?_
                refine (cl_gI (gk_219 hg)).trans ?_
                obtain ⟨k8, h⟩ := iv_ok h; refine (cl_is (gk_225 hg) k8).trans ?_
                replace h := iv_lt h
                refine (cl_gR (gk_219 hg) (gr_219_8 hg)).trans ?_
                refine (cl_gI (gk_219 hg)).trans ?_
                obtain ⟨k9, h⟩ := iv_ok h; refine (cl_is (gk_226 hg) k9).trans ?_
                replace h := iv_lt h
                refine (cl_gR (gk_219 hg) (gr_219_9 hg)).trans ?_
                refine (cl_gI (gk_219 hg)).trans ?_
                rcases iv_ite h with ⟨hc, h⟩ | ⟨hc, h⟩
                · refine (if_pos hc).trans ?_
                  obtain ⟨k12, h⟩ := iv_ok h; refine (cl_zs (gk_227 hg) k12).trans ?_
                  replace h := iv_lt h
                  refine (cl_gI (gk_219 hg)).trans ?_
                  refine (cl_pI (gk_219 hg)).trans ?_
                  replace h := iv_lt h
                  refine (cl_gI (gk_219 hg)).trans ?_
                  refine (cl_rc (gk_219 hg)).trans ?_
                  obtain ⟨x22, M21, k13, h⟩ := iv_ci h; refine (cl_ci k13).trans ?_
                  exact h
                · refine (if_neg hc).trans ?_
                  obtain ⟨k10, h⟩ := iv_ok h; refine (cl_zs (gk_227 hg) k10).trans ?_
                  replace h := iv_lt h
                  refine (cl_gI (gk_219 hg)).trans ?_
                  refine (cl_pI (gk_219 hg)).trans ?_
                  replace h := iv_lt h
                  refine (cl_gI (gk_219 hg)).trans ?_
                  refine (cl_rc (gk_219 hg)).trans ?_
                  obtain ⟨x18, M17, k11, h⟩ := iv_ci h; refine (cl_ci k11).trans ?_
                  exact h
theorem s_Model_whyLast {g : am_G} {F : am_FT} (hF : F = am_F T0 g) (hg : GG g) {v1 : Int32} {v2 : Int32} {M : am_M} {r : am_R} (h : (
  am_ok 21 ((fI M 219 78)) <|
  am_dv 2 <|
  am_ok 8 v2 <|
  if ((rI M 268 ((fI M 219 78)).toNatClampNeg) / 2) = (rI M 228 v2.toNatClampNeg) then
    if (fI M 219 78) = 0 then
      am_ci (F 45 0 [.ref 219, .int v1, .int v2, .int (rI M 268 ((fI M 219 78)).toNatClampNeg)] [] M) fun x2 M1 => /- Model_between -/
      if 0 ≤ x2 then
        am_ok 8 v2 <|
        am_dv 2 <|
        if (rI M1 230 v2.toNatClampNeg) = ((rI M 268 ((fI M 219 78)).toNatClampNeg) - (rI M 268 ((fI M 219 78)).toNatClampNeg) / 2 * 2) then
          if (fI M1 219 82) = 1 then
            am_rt 1 0 M1
          else
            am_rt 1 7 M1
        else
          if (fI M1 219 82) = 0 then
            am_rt 1 0 M1
          else
            am_rt 1 7 M1
      else
        am_rt 1 6 M1
    else
      am_ok 8 v2 <|
      am_dv 2 <|
      if (rI M 230 v2.toNatClampNeg) = ((rI M 268 ((fI M 219 78)).toNatClampNeg) - (rI M 268 ((fI M 219 78)).toNatClampNeg) / 2 * 2) then
        if (fI M 219 82) = 1 then
          am_rt 1 0 M
        else
          am_rt 1 7 M
      else
        if (fI M 219 82) = 0 then
          am_rt 1 0 M
        else
          am_rt 1 7 M
  else
    am_rt 1 6 M) = some r) : F 142 0 [.ref 219, .int v1, .int v2] [] M = some r := by
  refine e_Model_whyLast hF ?_
  refine (cl_gR (gk_219 hg) (gr_219_83 hg)).trans ?_
  refine (cl_gI (gk_219 hg)).trans ?_
  obtain ⟨k1, h⟩ := iv_ok h; refine (cl_ia (gk_268 hg) k1).trans ?_
  obtain ⟨k2, h⟩ := iv_dv h; refine (cl_dv k2).trans ?_
  refine (cl_gR (gk_219 hg) (gr_219_11 hg)).trans ?_
  obtain ⟨k3, h⟩ := iv_ok h; refine (cl_ia (gk_228 hg) k3).trans ?_
  rcases iv_ite h with ⟨hc, h⟩ | ⟨hc, h⟩
  · refine (if_pos hc).trans ?_
    refine (cl_gI (gk_219 hg)).trans ?_
    rcases iv_ite h with ⟨hc, h⟩ | ⟨hc, h⟩
    · refine (if_pos hc).trans ?_
      refine (cl_rc (gk_219 hg)).trans ?_
      obtain ⟨x2, M1, k6, h⟩ := iv_ci h; refine (cl_ci k6).trans ?_
      rcases iv_ite h with ⟨hc, h⟩ | ⟨hc, h⟩
      · refine (if_pos hc).trans ?_
        refine (cl_gI (gk_219 hg)).trans ?_
        refine (cl_gR (gk_219 hg) (gr_219_13 hg)).trans ?_
        obtain ⟨k7, h⟩ := iv_ok h; refine (cl_ia (gk_230 hg) k7).trans ?_
        obtain ⟨k8, h⟩ := iv_dv h; refine (cl_dv k8).trans ?_
        rcases iv_ite h with ⟨hc, h⟩ | ⟨hc, h⟩
        · refine (if_pos hc).trans ?_
          rcases iv_ite h with ⟨hc, h⟩ | ⟨hc, h⟩
          · refine (if_pos hc).trans ?_
            exact h
          · refine (if_neg hc).trans ?_
            exact h
        · refine (if_neg hc).trans ?_
          rcases iv_ite h with ⟨hc, h⟩ | ⟨hc, h⟩
          · refine (if_pos hc).trans ?_
            exact h
          · refine (if_neg hc).trans ?_
            exact h
      · refine (if_neg hc).trans ?_
        exact h
    · refine (if_neg hc).trans ?_
      refine (cl_gI (gk_219 hg)).trans ?_
      refine (cl_gR (gk_219 hg) (gr_219_13 hg)).trans ?_
      obtain ⟨k4, h⟩ := iv_ok h; refine (cl_ia (gk_230 hg) k4).trans ?_
      obtain ⟨k5, h⟩ := iv_dv h; refine (cl_dv k5).trans ?_
      rcases iv_ite h with ⟨hc, h⟩ | ⟨hc, h⟩
      · refine (if_pos hc).trans ?_
        rcases iv_ite h with ⟨hc, h⟩ | ⟨hc, h⟩
        · refine (if_pos hc).trans ?_
          exact h
        · refine (if_neg hc).trans ?_
          exact h
      · refine (if_neg hc).trans ?_
        rcases iv_ite h with ⟨hc, h⟩ | ⟨hc, h⟩
        · refine (if_pos hc).trans ?_
          exact h
        · refine (if_neg hc).trans ?_
          exact h
  · refine (if_neg hc).trans ?_
    exact h
theorem s_Model_about {g : am_G} {F : am_FT} (hF : F = am_F T0 g) (hg : GG g) {v1 : Int32} {v2 : Int32} {v3 : Int32} {M : am_M} {r : am_R} (h : (
  am_ci (F 122 0 [.ref 219, .int v1] [] M) fun x2 M1 => /- Model_isWay -/
  if x2 = 0 then
    am_rt 1 ((-1)) M1
  else
    am_ci (F 116 0 [.int v3] [] M1) fun x4 M3 => /- Model_isHour -/
    if x4 = 0 then
      am_rt 1 ((-2)) M3
    else
      if v2 = 0 then
        am_ok 40 v1 <|
        am_rt 1 ((rI M3 223 v1.toNatClampNeg)) M3
      else
      if v2 = 1 then
        am_ok 40 v1 <|
        am_rt 1 ((rI M3 224 v1.toNatClampNeg)) M3
      else
      if v2 = 2 then
        am_ok 40 v1 <|
        am_rt 1 ((rI M3 225 v1.toNatClampNeg)) M3
      else
      if v2 = 3 then
        am_ok 40 v1 <|
        am_rt 1 ((rI M3 226 v1.toNatClampNeg)) M3
      else
      if v2 = 4 then
        am_ok 40 v1 <|
        if (rI M3 227 v1.toNatClampNeg) = 0 then
          am_rt 1 0 M3
        else
          am_rt 1 1 M3
      else
      if v2 = 5 then
        am_ci (F 130 0 [.ref 219, .int v1, .int v3] [] M3) fun x6 M5 => /- Model_priceOf -/
        am_rt 1 x6 M5
      else
      if v2 = 6 then
        am_ci (F 118 0 [.ref 219, .int v1, .int v3] [] M3) fun x8 M7 => /- Model_isOpen -/
        if x8 = 0 then
          am_rt 1 0 M7
        else
          am_rt 1 1 M7
      else
        am_rt 1 ((-2)) M3) = some r) : F 177 0 [.ref 219, .int v1, .int v2, .int v3] [] M = some r := by
  refine e_Model_about hF ?_
  refine (cl_rc (gk_219 hg)).trans ?_
  obtain ⟨x2, M1, k1, h⟩ := iv_ci h; refine (cl_ci k1).trans ?_
  rcases iv_ite h with ⟨hc, h⟩ | ⟨hc, h⟩
  · refine (if_pos hc).trans ?_
    exact h
  · refine (if_neg hc).trans ?_
    obtain ⟨x4, M3, k2, h⟩ := iv_ci h; refine (cl_ci k2).trans ?_
    rcases iv_ite h with ⟨hc, h⟩ | ⟨hc, h⟩
    · refine (if_pos hc).trans ?_
      exact h
    · refine (if_neg hc).trans ?_
      rcases iv_ite h with ⟨hc, h⟩ | ⟨hc, h⟩
      · refine (if_pos hc).trans ?_
        refine (cl_gR (gk_219 hg) (gr_219_5 hg)).trans ?_
        obtain ⟨k3, h⟩ := iv_ok h; refine (cl_ia (gk_223 hg) k3).trans ?_
        exact h
      · refine (if_neg hc).trans ?_
        rcases iv_ite h with ⟨hc, h⟩ | ⟨hc, h⟩
        · refine (if_pos hc).trans ?_
          refine (cl_gR (gk_219 hg) (gr_219_6 hg)).trans ?_
          obtain ⟨k4, h⟩ := iv_ok h; refine (cl_ia (gk_224 hg) k4).trans ?_
          exact h
        · refine (if_neg hc).trans ?_
          rcases iv_ite h with ⟨hc, h⟩ | ⟨hc, h⟩
          · refine (if_pos hc).trans ?_
            refine (cl_gR (gk_219 hg) (gr_219_7 hg)).trans ?_
            obtain ⟨k5, h⟩ := iv_ok h; refine (cl_ia (gk_225 hg) k5).trans ?_
            exact h
          · refine (if_neg hc).trans ?_
            rcases iv_ite h with ⟨hc, h⟩ | ⟨hc, h⟩
            · refine (if_pos hc).trans ?_
              refine (cl_gR (gk_219 hg) (gr_219_8 hg)).trans ?_
              obtain ⟨k6, h⟩ := iv_ok h; refine (cl_ia (gk_226 hg) k6).trans ?_
              exact h
            · refine (if_neg hc).trans ?_
              rcases iv_ite h with ⟨hc, h⟩ | ⟨hc, h⟩
              · refine (if_pos hc).trans ?_
                refine (cl_gR (gk_219 hg) (gr_219_9 hg)).trans ?_
                obtain ⟨k7, h⟩ := iv_ok h; refine (cl_za (gk_227 hg) k7).trans ?_
                rcases iv_ite h with ⟨hc, h⟩ | ⟨hc, h⟩
                · refine (if_pos hc).trans ?_
                  exact h
                · refine (if_neg hc).trans ?_
                  exact h
              · refine (if_neg hc).trans ?_
                rcases iv_ite h with ⟨hc, h⟩ | ⟨hc, h⟩
                · refine (if_pos hc).trans ?_
                  refine (cl_rc (gk_219 hg)).trans ?_
                  obtain ⟨x6, M5, k8, h⟩ := iv_ci h; refine (cl_ci k8).trans ?_
                  exact h
                · refine (if_neg hc).trans ?_
                  rcases iv_ite h with ⟨hc, h⟩ | ⟨hc, h⟩
                  · refine (if_pos hc).trans ?_
                    refine (cl_rc (gk_219 hg)).trans ?_
                    obtain ⟨x8, M7, k9, h⟩ := iv_ci h; refine (cl_ci k9).trans ?_
                    rcases iv_ite h with ⟨hc, h⟩ | ⟨hc, h⟩
                    · refine (if_pos hc).trans ?_
                      exact h
                    · refine (if_neg hc).trans ?_
                      exact h
                  · refine (if_neg hc).trans ?_
                    exact h
theorem s_Model_answers {g : am_G} {F : am_FT} (hF : F = am_F T0 g) (hg : GG g) {v1 : Int32} {w2 : Int64} {v4 : Int32} {M : am_M} {r : am_R} (h : (
  am_ci (F 122 0 [.ref 219, .int v1] [] M) fun x2 M1 => /- Model_isWay -/
  if x2 = 0 then
    am_rt 1 ((-1)) M1
  else
    am_ci (F 123 0 [.long w2] [] M1) fun x4 M3 => /- Model_isWord -/
    if x4 = 0 then
      am_rt 1 ((-2)) M3
    else
      am_ci (F 53 0 [.int v4, .int 0, .int (fI M3 219 14)] [] M3) fun x6 M5 => /- Model_in -/
      if x6 = 0 then
        am_rt 1 ((-2)) M5
      else
        am_ci (F 40 0 [.ref 219, .int v1, .long w2, .int v4] [] M5) fun x8 M7 => /- Model_answersTo -/
        if x8 = 0 then
          am_rt 1 0 M7
        else
          am_rt 1 1 M7) = some r) : F 178 0 [.ref 219, .int v1, .long w2, .int v4] [] M = some r := by
  refine e_Model_answers hF ?_
  refine (cl_rc (gk_219 hg)).trans ?_
  obtain ⟨x2, M1, k1, h⟩ := iv_ci h; refine (cl_ci k1).trans ?_
  rcases iv_ite h with ⟨hc, h⟩ | ⟨hc, h⟩
  · refine (if_pos hc).trans ?_
    exact h
  · refine (if_neg hc).trans ?_
    obtain ⟨x4, M3, k2, h⟩ := iv_ci h; refine (cl_ci k2).trans ?_
    rcases iv_ite h with ⟨hc, h⟩ | ⟨hc, h⟩
    · refine (if_pos hc).trans ?_
      exact h
    · refine (if_neg hc).trans ?_
      refine (cl_gI (gk_219 hg)).trans ?_
      obtain ⟨x6, M5, k3, h⟩ := iv_ci h; refine (cl_ci k3).trans ?_
      rcases iv_ite h with ⟨hc, h⟩ | ⟨hc, h⟩
      · refine (if_pos hc).trans ?_
        exact h
      · refine (if_neg hc).trans ?_
        refine (cl_rc (gk_219 hg)).trans ?_
        obtain ⟨x8, M7, k4, h⟩ := iv_ci h; refine (cl_ci k4).trans ?_
        rcases iv_ite h with ⟨hc, h⟩ | ⟨hc, h⟩
        · refine (if_pos hc).trans ?_
          exact h
        · refine (if_neg hc).trans ?_
          exact h
theorem s_Model_ban {g : am_G} {F : am_FT} (hF : F = am_F T0 g) (hg : GG g) {v1 : Int32} {v2 : Int32} {v3 : Int32} {v4 : Int32} {M : am_M} {r : am_R} (h : (
  am_ci (F 117 0 [.ref 219, .int v1] [] M) fun x2 M1 => /- Model_isLeg -/
  if x2 = 0 then
    am_rt 1 ((-1)) M1
  else
    am_ci (F 117 0 [.ref 219, .int v2] [] M1) fun x4 M3 => /- Model_isLeg -/
    if x4 = 0 then
      am_rt 1 ((-1)) M3
    else
      am_dv 100 <|
      am_dv 100 <|
      if v3 < 0 then
        am_rt 1 ((-2)) M3
      else
        if (v3 - v3 / 100 * 100) ≤ (v3 / 100) then
          am_rt 1 ((-2)) M3
        else
          if 24 < (v3 - v3 / 100 * 100) then
            am_rt 1 ((-2)) M3
          else
            am_ci (F 53 0 [.int v4, .int 1, .int 127] [] M3) fun x6 M5 => /- Model_in -/
            if x6 = 0 then
              am_rt 1 ((-2)) M5
            else
              am_ci (F 113 0 [.ref 219, .int v1, .int v2] [] M5) fun x8 M7 => /- Model_follows -/
              if x8 = 0 then
                am_rt 1 ((-3)) M7
              else
                if (fI M7 219 24) = 40 then
                  am_rt 1 ((-4)) M7
                else
                  am_ok 40 ((fI M7 219 24)) <|
                  am_lt (wI M7 238 ((fI M7 219 24)).toNatClampNeg v1) fun M9 =>
                  am_ok 40 ((fI M9 219 24)) <|
                  am_lt (wI M9 239 ((fI M9 219 24)).toNatClampNeg v2) fun M10 =>
                  am_ok 40 ((fI M10 219 24)) <|
                  am_lt (wI M10 240 ((fI M10 219 24)).toNatClampNeg ((v3 / 100))) fun M11 =>
                  am_ok 40 ((fI M11 219 24)) <|
                  am_lt (wI M11 241 ((fI M11 219 24)).toNatClampNeg ((v3 - v3 / 100 * 100))) fun M12 =>
                  am_ok 40 ((fI M12 219 24)) <|
                  am_lt (wI M12 242 ((fI M12 219 24)).toNatClampNeg v4) fun M13 =>
                  am_ok 40 ((fI M13 219 24)) <|
                  am_lt (wI M13 243 ((fI M13 219 24)).toNatClampNeg ((fI M13 219 14))) fun M14 =>
                  am_lt (fW M14 219 24 (((fI M14 219 24) + 1))) fun M15 =>
                  am_rt 1 (((fI M15 219 24) - 1)) M15) = some r) : F 179 0 [.ref 219, .int v1, .int v2, .int v3, .int v4] [] M = some r := by
  refine e_Model_ban hF ?_
  refine (cl_rc (gk_219 hg)).trans ?_
  obtain ⟨x2, M1, k1, h⟩ := iv_ci h; refine (cl_ci k1).trans ?_
  rcases iv_ite h with ⟨hc, h⟩ | ⟨hc, h⟩
  · refine (if_pos hc).trans ?_
    exact h
  · refine (if_neg hc).trans ?_
    refine (cl_rc (gk_219 hg)).trans ?_
    obtain ⟨x4, M3, k2, h⟩ := iv_ci h; refine (cl_ci k2).trans ?_
    rcases iv_ite h with ⟨hc, h⟩ | ⟨hc, h⟩
    · refine (if_pos hc).trans ?_
      exact h
    · refine (if_neg hc).trans ?_
      obtain ⟨k3, h⟩ := iv_dv h; refine (cl_dv k3).trans ?_
      obtain ⟨k4, h⟩ := iv_dv h; refine (cl_dv k4).trans ?_
      rcases iv_ite h with ⟨hc, h⟩ | ⟨hc, h⟩
      · refine (if_pos hc).trans ?_
        exact h
      · refine (if_neg hc).trans ?_
        rcases iv_ite h with ⟨hc, h⟩ | ⟨hc, h⟩
        · refine (if_pos hc).trans ?_
          exact h
        · refine (if_neg hc).trans ?_
          rcases iv_ite h with ⟨hc, h⟩ | ⟨hc, h⟩
          · refine (if_pos hc).trans ?_
            exact h
          · refine (if_neg hc).trans ?_
            obtain ⟨x6, M5, k5, h⟩ := iv_ci h; refine (cl_ci k5).trans ?_
            rcases iv_ite h with ⟨hc, h⟩ | ⟨hc, h⟩
            · refine (if_pos hc).trans ?_
              exact h
            · refine (if_neg hc).trans ?_
              refine (cl_rc (gk_219 hg)).trans ?_
              obtain ⟨x8, M7, k6, h⟩ := iv_ci h; refine (cl_ci k6).trans ?_
              rcases iv_ite h with ⟨hc, h⟩ | ⟨hc, h⟩
              · refine (if_pos hc).trans ?_
                exact h
              · refine (if_neg hc).trans ?_
                refine (cl_gI (gk_219 hg)).trans ?_
                rcases iv_ite h with ⟨hc, h⟩ | ⟨hc, h⟩
                · refine (if_pos hc).trans ?_
                  exact h
                · refine (if_neg hc).trans ?_
                  refine (cl_gR (gk_219 hg) (gr_219_25 hg)).trans ?_
                  refine (cl_gI (gk_219 hg)).trans ?_
                  obtain ⟨k7, h⟩ := iv_ok h; refine (cl_is (gk_238 hg) k7).trans ?_
                  replace h := iv_lt h
                  refine (cl_gR (gk_219 hg) (gr_219_26 hg)).trans ?_
                  refine (cl_gI (gk_219 hg)).trans ?_
                  obtain ⟨k8, h⟩ := iv_ok h; refine (cl_is (gk_239 hg) k8).trans ?_
                  replace h := iv_lt h
                  refine (cl_gR (gk_219 hg) (gr_219_27 hg)).trans ?_
                  refine (cl_gI (gk_219 hg)).trans ?_
                  obtain ⟨k9, h⟩ := iv_ok h; refine (cl_is (gk_240 hg) k9).trans ?_
                  replace h := iv_lt h
                  refine (cl_gR (gk_219 hg) (gr_219_28 hg)).trans ?_
                  refine (cl_gI (gk_219 hg)).trans ?_
                  obtain ⟨k10, h⟩ := iv_ok h; refine (cl_is (gk_241 hg) k10).trans ?_
                  replace h := iv_lt h
                  refine (cl_gR (gk_219 hg) (gr_219_29 hg)).trans ?_
                  refine (cl_gI (gk_219 hg)).trans ?_
                  obtain ⟨k11, h⟩ := iv_ok h; refine (cl_is (gk_242 hg) k11).trans ?_
                  replace h := iv_lt h
                  refine (cl_gR (gk_219 hg) (gr_219_30 hg)).trans ?_
                  refine (cl_gI (gk_219 hg)).trans ?_
                  refine (cl_gI (gk_219 hg)).trans ?_
                  obtain ⟨k12, h⟩ := iv_ok h; refine (cl_is (gk_243 hg) k12).trans ?_
                  replace h := iv_lt h
                  refine (cl_gI (gk_219 hg)).trans ?_
                  refine (cl_pI (gk_219 hg)).trans ?_
                  replace h := iv_lt h
                  refine (cl_gI (gk_219 hg)).trans ?_
                  exact h
theorem s_Model_door {g : am_G} {F : am_FT} (hF : F = am_F T0 g) (hg : GG g) {v1 : Int32} {v2 : Int32} {v3 : Int32} {M : am_M} {r : am_R} (h : (
  am_ci (F 122 0 [.ref 219, .int v1] [] M) fun x2 M1 => /- Model_isWay -/
  if x2 = 0 then
    am_rt 1 ((-1)) M1
  else
    am_ok 40 v1 <|
    am_ci (F 53 0 [.int v2, .int 1, .int ((rI M1 226 v1.toNatClampNeg) - 1)] [] M1) fun x4 M3 => /- Model_in -/
    if x4 = 0 then
      am_rt 1 ((-2)) M3
    else
      am_ci (F 53 0 [.int v3, .int 0, .int 1] [] M3) fun x6 M5 => /- Model_in -/
      if x6 = 0 then
        am_rt 1 ((-2)) M5
      else
        if (fI M5 219 10) = 8 then
          am_rt 1 ((-4)) M5
        else
          am_ok 8 ((fI M5 219 10)) <|
          am_lt (wI M5 228 ((fI M5 219 10)).toNatClampNeg v1) fun M7 =>
          am_ok 8 ((fI M7 219 10)) <|
          am_lt (wI M7 229 ((fI M7 219 10)).toNatClampNeg v2) fun M8 =>
          am_ok 8 ((fI M8 219 10)) <|
          am_lt (wI M8 230 ((fI M8 219 10)).toNatClampNeg v3) fun M9 =>
          am_lt (fW M9 219 10 (((fI M9 219 10) + 1))) fun M10 =>
          am_ci (F 46 0 [.ref 219, .int 2, .int ((fI M10 219 10) - 1)] [] M10) fun x12 M11 => /- Model_comes -/
          am_rt 1 x12 M11) = some r) : F 180 0 [.ref 219, .int v1, .int v2, .int v3] [] M = some r := by
  refine e_Model_door hF ?_
  refine (cl_rc (gk_219 hg)).trans ?_
  obtain ⟨x2, M1, k1, h⟩ := iv_ci h; refine (cl_ci k1).trans ?_
  rcases iv_ite h with ⟨hc, h⟩ | ⟨hc, h⟩
  · refine (if_pos hc).trans ?_
    exact h
  · refine (if_neg hc).trans ?_
    refine (cl_gR (gk_219 hg) (gr_219_8 hg)).trans ?_
    obtain ⟨k2, h⟩ := iv_ok h; refine (cl_ia (gk_226 hg) k2).trans ?_
    obtain ⟨x4, M3, k3, h⟩ := iv_ci h; refine (cl_ci k3).trans ?_
    rcases iv_ite h with ⟨hc, h⟩ | ⟨hc, h⟩
    · refine (if_pos hc).trans ?_
      exact h
    · refine (if_neg hc).trans ?_
      obtain ⟨x6, M5, k4, h⟩ := iv_ci h; refine (cl_ci k4).trans ?_
      rcases iv_ite h with ⟨hc, h⟩ | ⟨hc, h⟩
      · refine (if_pos hc).trans ?_
        exact h
      · refine (if_neg hc).trans ?_
        refine (cl_gI (gk_219 hg)).trans ?_
        rcases iv_ite h with ⟨hc, h⟩ | ⟨hc, h⟩
        · refine (if_pos hc).trans ?_
          exact h
        · refine (if_neg hc).trans ?_
          refine (cl_gR (gk_219 hg) (gr_219_11 hg)).trans ?_
          refine (cl_gI (gk_219 hg)).trans ?_
          obtain ⟨k5, h⟩ := iv_ok h; refine (cl_is (gk_228 hg) k5).trans ?_
          replace h := iv_lt h
          refine (cl_gR (gk_219 hg) (gr_219_12 hg)).trans ?_
          refine (cl_gI (gk_219 hg)).trans ?_
          obtain ⟨k6, h⟩ := iv_ok h; refine (cl_is (gk_229 hg) k6).trans ?_
          replace h := iv_lt h
          refine (cl_gR (gk_219 hg) (gr_219_13 hg)).trans ?_
          refine (cl_gI (gk_219 hg)).trans ?_
          obtain ⟨k7, h⟩ := iv_ok h; refine (cl_is (gk_230 hg) k7).trans ?_
          replace h := iv_lt h
          refine (cl_gI (gk_219 hg)).trans ?_
          refine (cl_pI (gk_219 hg)).trans ?_
          replace h := iv_lt h
          refine (cl_gI (gk_219 hg)).trans ?_
          refine (cl_rc (gk_219 hg)).trans ?_
          obtain ⟨x12, M11, k8, h⟩ := iv_ci h; refine (cl_ci k8).trans ?_
          exact h
theorem s_Model_eats4 {g : am_G} {F : am_FT} (hF : F = am_F T0 g) (hg : GG g) {v1 : Int32} {v2 : Int32} {v3 : Int32} {v4 : Int32} {M : am_M} {r : am_R} (h : (
  am_cv (F 110 0 [.ref 219, .int v1] [] M) fun M1 => /- Model_eats -/
  am_cv (F 110 0 [.ref 219, .int v2] [] M1) fun M2 => /- Model_eats -/
  am_cv (F 110 0 [.ref 219, .int v3] [] M2) fun M3 => /- Model_eats -/
  am_cv (F 110 0 [.ref 219, .int v4] [] M3) fun M4 => /- Model_eats -/
  some (none, M4)) = some r) : F 181 0 [.ref 219, .int v1, .int v2, .int v3, .int v4] [] M = some r := by
  refine e_Model_eats4 hF ?_
  refine (cl_rc (gk_219 hg)).trans ?_
  obtain ⟨M1, k1, h⟩ := iv_cv h; refine (cl_cv k1).trans ?_
  refine (cl_rc (gk_219 hg)).trans ?_
  obtain ⟨M2, k2, h⟩ := iv_cv h; refine (cl_cv k2).trans ?_
  refine (cl_rc (gk_219 hg)).trans ?_
  obtain ⟨M3, k3, h⟩ := iv_cv h; refine (cl_cv k3).trans ?_
  refine (cl_rc (gk_219 hg)).trans ?_
  obtain ⟨M4, k4, h⟩ := iv_cv h; refine (cl_cv k4).trans ?_
  exact h
theorem s_Model_holds {g : am_G} {F : am_FT} (hF : F = am_F T0 g) (hg : GG g) {v1 : Int32} {v2 : Int32} {v3 : Int32} {v4 : Int32} {M : am_M} {r : am_R} (h : (
  am_ci (F 119 0 [.ref 219, .int v1] [] M) fun x2 M1 => /- Model_isPupil -/
  if x2 = 0 then
    am_rt 1 ((-1)) M1
  else
    am_ci (F 117 0 [.ref 219, .int v2] [] M1) fun x4 M3 => /- Model_isLeg -/
    if x4 = 0 then
      am_rt 1 ((-1)) M3
    else
      am_ci (F 117 0 [.ref 219, .int v3] [] M3) fun x6 M5 => /- Model_isLeg -/
      if x6 = 0 then
        am_rt 1 ((-1)) M5
      else
        am_ci (F 53 0 [.int v4, .int (fI M5 219 14), .int 2000] [] M5) fun x8 M7 => /- Model_in -/
        if x8 = 0 then
          am_rt 1 ((-2)) M7
        else
          am_ci (F 55 0 [.ref 219, .int v1, .int v2, .int v3, .int v4] [] M7) fun x10 M9 => /- Model_isHeld -/
          if x10 = 0 then
            am_rt 1 0 M9
          else
            am_rt 1 1 M9) = some r) : F 182 0 [.ref 219, .int v1, .int v2, .int v3, .int v4] [] M = some r := by
  refine e_Model_holds hF ?_
  refine (cl_rc (gk_219 hg)).trans ?_
  obtain ⟨x2, M1, k1, h⟩ := iv_ci h; refine (cl_ci k1).trans ?_
  rcases iv_ite h with ⟨hc, h⟩ | ⟨hc, h⟩
  · refine (if_pos hc).trans ?_
    exact h
  · refine (if_neg hc).trans ?_
    refine (cl_rc (gk_219 hg)).trans ?_
    obtain ⟨x4, M3, k2, h⟩ := iv_ci h; refine (cl_ci k2).trans ?_
    rcases iv_ite h with ⟨hc, h⟩ | ⟨hc, h⟩
    · refine (if_pos hc).trans ?_
      exact h
    · refine (if_neg hc).trans ?_
      refine (cl_rc (gk_219 hg)).trans ?_
      obtain ⟨x6, M5, k3, h⟩ := iv_ci h; refine (cl_ci k3).trans ?_
      rcases iv_ite h with ⟨hc, h⟩ | ⟨hc, h⟩
      · refine (if_pos hc).trans ?_
        exact h
      · refine (if_neg hc).trans ?_
        refine (cl_gI (gk_219 hg)).trans ?_
        obtain ⟨x8, M7, k4, h⟩ := iv_ci h; refine (cl_ci k4).trans ?_
        rcases iv_ite h with ⟨hc, h⟩ | ⟨hc, h⟩
        · refine (if_pos hc).trans ?_
          exact h
        · refine (if_neg hc).trans ?_
          refine (cl_rc (gk_219 hg)).trans ?_
          obtain ⟨x10, M9, k5, h⟩ := iv_ci h; refine (cl_ci k5).trans ?_
          rcases iv_ite h with ⟨hc, h⟩ | ⟨hc, h⟩
          · refine (if_pos hc).trans ?_
            exact h
          · refine (if_neg hc).trans ?_
            exact h
theorem s_Model_isAhead {g : am_G} {F : am_FT} (hF : F = am_F T0 g) (hg : GG g) {v1 : Int32} {v2 : Int32} {v3 : Int32} {M : am_M} {r : am_R} (h : (
  am_ci (F 108 0 [.ref 219, .int v1] [] M) fun x2 M1 => /- Model_dx -/
  am_ci (F 109 0 [.ref 219, .int v1] [] M1) fun x4 M3 => /- Model_dy -/
  am_ci (F 108 0 [.ref 219, .int v2] [] M3) fun x6 M5 => /- Model_dx -/
  am_ci (F 109 0 [.ref 219, .int v2] [] M5) fun x8 M7 => /- Model_dy -/
  am_ci (F 132 0 [.int (-x2), .int (-x4), .int x6, .int x8] [] M7) fun x10 M9 => /- Model_quarter -/
  am_ci (F 108 0 [.ref 219, .int v1] [] M9) fun x12 M11 => /- Model_dx -/
  am_ci (F 109 0 [.ref 219, .int v1] [] M11) fun x14 M13 => /- Model_dy -/
  am_ci (F 108 0 [.ref 219, .int v3] [] M13) fun x16 M15 => /- Model_dx -/
  am_ci (F 109 0 [.ref 219, .int v3] [] M15) fun x18 M17 => /- Model_dy -/
  am_ci (F 132 0 [.int (-x12), .int (-x14), .int x16, .int x18] [] M17) fun x20 M19 => /- Model_quarter -/
  if x10 = x20 then
    am_ci (F 108 0 [.ref 219, .int v2] [] M19) fun x22 M21 => /- Model_dx -/
    am_ci (F 109 0 [.ref 219, .int v2] [] M21) fun x24 M23 => /- Model_dy -/
    am_ci (F 108 0 [.ref 219, .int v3] [] M23) fun x26 M25 => /- Model_dx -/
    am_ci (F 109 0 [.ref 219, .int v3] [] M25) fun x28 M27 => /- Model_dy -/
    am_ci (F 49 0 [.int x22, .int x24, .int x26, .int x28] [] M27) fun x30 M29 => /- Model_cross -/
    if x30 = 0 then
      if v3 ≤ v2 then
        am_rt 2 0 M29
      else
        am_rt 2 1 M29
    else
      if 0 ≤ x30 then
        am_rt 2 0 M29
      else
        am_rt 2 1 M29
  else
    if x20 ≤ x10 then
      am_rt 2 0 M19
    else
      am_rt 2 1 M19) = some r) : F 183 0 [.ref 219, .int v1, .int v2, .int v3] [] M = some r := by
  refine e_Model_isAhead hF ?_
  refine (cl_rc (gk_219 hg)).trans ?_
  obtain ⟨x2, M1, k1, h⟩ := iv_ci h; refine (cl_ci k1).trans ?_
  refine (cl_rc (gk_219 hg)).trans ?_
  obtain ⟨x4, M3, k2, h⟩ := iv_ci h; refine (cl_ci k2).trans ?_
  refine (cl_rc (gk_219 hg)).trans ?_
  obtain ⟨x6, M5, k3, h⟩ := iv_ci h; refine (cl_ci k3).trans ?_
  refine (cl_rc (gk_219 hg)).trans ?_
  obtain ⟨x8, M7, k4, h⟩ := iv_ci h; refine (cl_ci k4).trans ?_
  obtain ⟨x10, M9, k5, h⟩ := iv_ci h; refine (cl_ci k5).trans ?_
  refine (cl_rc (gk_219 hg)).trans ?_
  obtain ⟨x12, M11, k6, h⟩ := iv_ci h; refine (cl_ci k6).trans ?_
  refine (cl_rc (gk_219 hg)).trans ?_
  obtain ⟨x14, M13, k7, h⟩ := iv_ci h; refine (cl_ci k7).trans ?_
  refine (cl_rc (gk_219 hg)).trans ?_
  obtain ⟨x16, M15, k8, h⟩ := iv_ci h; refine (cl_ci k8).trans ?_
  refine (cl_rc (gk_219 hg)).trans ?_
  obtain ⟨x18, M17, k9, h⟩ := iv_ci h; refine (cl_ci k9).trans ?_
  obtain ⟨x20, M19, k10, h⟩ := iv_ci h; refine (cl_ci k10).trans ?_
  rcases iv_ite h with ⟨hc, h⟩ | ⟨hc, h⟩
  · refine (if_pos hc).trans ?_
    refine (cl_rc (gk_219 hg)).trans ?_
    obtain ⟨x22, M21, k11, h⟩ := iv_ci h; refine (cl_ci k11).trans ?_
    refine (cl_rc (gk_219 hg)).trans ?_
    obtain ⟨x24, M23, k12, h⟩ := iv_ci h; refine (cl_ci k12).trans ?_
    refine (cl_rc (gk_219 hg)).trans ?_
    obtain ⟨x26, M25, k13, h⟩ := iv_ci h; refine (cl_ci k13).trans ?_
    refine (cl_rc (gk_219 hg)).trans ?_
    obtain ⟨x28, M27, k14, h⟩ := iv_ci h; refine (cl_ci k14).trans ?_
    obtain ⟨x30, M29, k15, h⟩ := iv_ci h; refine (cl_ci k15).trans ?_
    rcases iv_ite h with ⟨hc, h⟩ | ⟨hc, h⟩
    · refine (if_pos hc).trans ?_
      rcases iv_ite h with ⟨hc, h⟩ | ⟨hc, h⟩
      · refine (if_pos hc).trans ?_
        exact h
      · refine (if_neg hc).trans ?_
        exact h
    · refine (if_neg hc).trans ?_
      rcases iv_ite h with ⟨hc, h⟩ | ⟨hc, h⟩
      · refine (if_pos hc).trans ?_
        exact h
      · refine (if_neg hc).trans ?_
        exact h
  · refine (if_neg hc).trans ?_
    rcases iv_ite h with ⟨hc, h⟩ | ⟨hc, h⟩
    · refine (if_pos hc).trans ?_
      exact h
    · refine (if_neg hc).trans ?_
      exact h
theorem s_Model_isDrivable {g : am_G} {F : am_FT} (hF : F = am_F T0 g) (hg : GG g) {v1 : Int32} {v2 : Int32} {v3 : Int32} {v4 : Int32} {M : am_M} {r : am_R} (h : (
  am_dv 2 <|
  am_ok 40 ((v1 / 2)) <|
  if (rI M 227 ((v1 / 2)).toNatClampNeg) = 0 then
    am_ci (F 118 0 [.ref 219, .int (v1 / 2), .int v3] [] M) fun x2 M1 => /- Model_isOpen -/
    if x2 = 0 then
      am_rt 2 0 M1
    else
      am_ci (F 57 0 [.ref 219, .int (v1 / 2), .int v2, .int v4] [] M1) fun x4 M3 => /- Model_isShut -/
      if x4 = 0 then
        am_rt 2 1 M3
      else
        am_rt 2 0 M3
  else
    am_dv 2 <|
    if (v1 - v1 / 2 * 2) = 1 then
      am_rt 2 0 M
    else
      am_ci (F 118 0 [.ref 219, .int (v1 / 2), .int v3] [] M) fun x6 M5 => /- Model_isOpen -/
      if x6 = 0 then
        am_rt 2 0 M5
      else
        am_ci (F 57 0 [.ref 219, .int (v1 / 2), .int v2, .int v4] [] M5) fun x8 M7 => /- Model_isShut -/
        if x8 = 0 then
          am_rt 2 1 M7
        else
          am_rt 2 0 M7) = some r) : F 184 0 [.ref 219, .int v1, .int v2, .int v3, .int v4] [] M = some r := by
  refine e_Model_isDrivable hF ?_
  obtain ⟨k1, h⟩ := iv_dv h; refine (cl_dv k1).trans ?_
  refine (cl_gR (gk_219 hg) (gr_219_9 hg)).trans ?_
  obtain ⟨k2, h⟩ := iv_ok h; refine (cl_za (gk_227 hg) k2).trans ?_
  rcases iv_ite h with ⟨hc, h⟩ | ⟨hc, h⟩
  · refine (if_pos hc).trans ?_
    refine (cl_rc (gk_219 hg)).trans ?_
    obtain ⟨x2, M1, k3, h⟩ := iv_ci h; refine (cl_ci k3).trans ?_
    rcases iv_ite h with ⟨hc, h⟩ | ⟨hc, h⟩
    · refine (if_pos hc).trans ?_
      exact h
    · refine (if_neg hc).trans ?_
      refine (cl_rc (gk_219 hg)).trans ?_
      obtain ⟨x4, M3, k4, h⟩ := iv_ci h; refine (cl_ci k4).trans ?_
      rcases iv_ite h with ⟨hc, h⟩ | ⟨hc, h⟩
      · refine (if_pos hc).trans ?_
        exact h
      · refine (if_neg hc).trans ?_
        exact h
  · refine (if_neg hc).trans ?_
    obtain ⟨k5, h⟩ := iv_dv h; refine (cl_dv k5).trans ?_
    rcases iv_ite h with ⟨hc, h⟩ | ⟨hc, h⟩
    · refine (if_pos hc).trans ?_
      exact h
    · refine (if_neg hc).trans ?_
      refine (cl_rc (gk_219 hg)).trans ?_
      obtain ⟨x6, M5, k6, h⟩ := iv_ci h; refine (cl_ci k6).trans ?_
      rcases iv_ite h with ⟨hc, h⟩ | ⟨hc, h⟩
      · refine (if_pos hc).trans ?_
        exact h
      · refine (if_neg hc).trans ?_
        refine (cl_rc (gk_219 hg)).trans ?_
        obtain ⟨x8, M7, k7, h⟩ := iv_ci h; refine (cl_ci k7).trans ?_
        rcases iv_ite h with ⟨hc, h⟩ | ⟨hc, h⟩
        · refine (if_pos hc).trans ?_
          exact h
        · refine (if_neg hc).trans ?_
          exact h
theorem s_Model_junctions {g : am_G} {F : am_FT} (hF : F = am_F T0 g) (hg : GG g) {v1 : Int32} {v2 : Int32} {v3 : Int32} {v4 : Int32} {M : am_M} {r : am_R} (h : (
  am_ci (F 53 0 [.int v1, .int 0, .int 3] [] M) fun x2 M1 => /- Model_in -/
  if x2 = 0 then
    am_rt 1 ((-2)) M1
  else
    am_ci (F 53 0 [.int v2, .int 0, .int 2] [] M1) fun x4 M3 => /- Model_in -/
    if x4 = 0 then
      am_rt 1 ((-2)) M3
    else
      am_ci (F 53 0 [.int v4, .int 0, .int 30] [] M3) fun x6 M5 => /- Model_in -/
      if x6 = 0 then
        am_rt 1 ((-2)) M5
      else
        am_ok 4 v1 <|
        if (rI M5 259 v1.toNatClampNeg) = (-1) then
          am_rt 1 ((-11)) M5
        else
          am_ok 4 v1 <|
          if (rI M5 259 v1.toNatClampNeg) = v2 then
            F 185 64 [.ref 219, .int v1, .int v3, .int v4, .int 0, .int 0] [] M5
          else
            am_rt 1 ((-13)) M5) = some r) : F 185 0 [.ref 219, .int v1, .int v2, .int v3, .int v4] [] M = some r := by
  refine e_Model_junctions hF ?_
  obtain ⟨x2, M1, k1, h⟩ := iv_ci h; refine (cl_ci k1).trans ?_
  rcases iv_ite h with ⟨hc, h⟩ | ⟨hc, h⟩
  · refine (if_pos hc).trans ?_
    exact h
  · refine (if_neg hc).trans ?_
    obtain ⟨x4, M3, k2, h⟩ := iv_ci h; refine (cl_ci k2).trans ?_
    rcases iv_ite h with ⟨hc, h⟩ | ⟨hc, h⟩
    · refine (if_pos hc).trans ?_
      exact h
    · refine (if_neg hc).trans ?_
      obtain ⟨x6, M5, k3, h⟩ := iv_ci h; refine (cl_ci k3).trans ?_
      rcases iv_ite h with ⟨hc, h⟩ | ⟨hc, h⟩
      · refine (if_pos hc).trans ?_
        exact h
      · refine (if_neg hc).trans ?_
        refine (cl_gR (gk_219 hg) (gr_219_53 hg)).trans ?_
        obtain ⟨k4, h⟩ := iv_ok h; refine (cl_ia (gk_259 hg) k4).trans ?_
        rcases iv_ite h with ⟨hc, h⟩ | ⟨hc, h⟩
        · refine (if_pos hc).trans ?_
          exact h
        · refine (if_neg hc).trans ?_
          refine (cl_gR (gk_219 hg) (gr_219_53 hg)).trans ?_
          obtain ⟨k5, h⟩ := iv_ok h; refine (cl_ia (gk_259 hg) k5).trans ?_
          rcases iv_ite h with ⟨hc, h⟩ | ⟨hc, h⟩
          · refine (if_pos hc).trans ?_
            exact h
          · refine (if_neg hc).trans ?_
            exact h
theorem s_Model_junctions_64 {g : am_G} {F : am_FT} (hF : F = am_F T0 g) (hg : GG g) {v1 : Int32} {v3 : Int32} {v4 : Int32} {v5 : Int32} {v6 : Int32} {M : am_M} {r : am_R} (h : (
  if v4 ≤ v6 then
    am_rt 1 v5 M
  else
    if v3 < 0 then
      am_rt 1 ((-12)) M
    else
      am_ok 4 v1 <|
      if ((rI M 260 v1.toNatClampNeg) - 3) < (v3 + (3 * v6)) then
        am_rt 1 ((-12)) M
      else
        if v3 ≤ (v3 + (3 * v6)) then
          am_ok 400 (((100 * v1) + (v3 + (3 * v6)))) <|
          am_ok 400 ((((100 * v1) + (v3 + (3 * v6))) + 1)) <|
          am_ok 400 ((((100 * v1) + (v3 + (3 * v6))) + 2)) <|
          am_ci (F 124 0 [.ref 219, .int (rI M 261 (((100 * v1) + (v3 + (3 * v6)))).toNatClampNeg), .int (rI M 261 ((((100 * v1) + (v3 + (3 * v6))) + 1)).toNatClampNeg), .int (rI M 261 ((((100 * v1) + (v3 + (3 * v6))) + 2)).toNatClampNeg)] [] M) fun x2 M1 => /- Model_junction -/
          if x2 < 0 then
            F 185 64 [.ref 219, .int v1, .int v3, .int v4, .int (v5 + 0), .int (v6 + 1)] [] M1
          else
            F 185 64 [.ref 219, .int v1, .int v3, .int v4, .int (v5 + 1), .int (v6 + 1)] [] M1
        else
          am_rt 1 ((-12)) M) = some r) : F 185 64 [.ref 219, .int v1, .int v3, .int v4, .int v5, .int v6] [] M = some r := by
  refine e_Model_junctions_64 hF ?_
  rcases iv_ite h with ⟨hc, h⟩ | ⟨hc, h⟩
  · refine (if_pos hc).trans ?_
    exact h
  · refine (if_neg hc).trans ?_
    rcases iv_ite h with ⟨hc, h⟩ | ⟨hc, h⟩
    · refine (if_pos hc).trans ?_
      exact h
    · refine (if_neg hc).trans ?_
      refine (cl_gR (gk_219 hg) (gr_219_54 hg)).trans ?_
      obtain ⟨k1, h⟩ := iv_ok h; refine (cl_ia (gk_260 hg) k1).trans ?_
      rcases iv_ite h with ⟨hc, h⟩ | ⟨hc, h⟩
      · refine (if_pos hc).trans ?_
        exact h
      · refine (if_neg hc).trans ?_
        rcases iv_ite h with ⟨hc, h⟩ | ⟨hc, h⟩
        · refine (if_pos hc).trans ?_
          refine (cl_gR (gk_219 hg) (gr_219_55 hg)).trans ?_
          obtain ⟨k2, h⟩ := iv_ok h; refine (cl_ia (gk_261 hg) k2).trans ?_
          refine (cl_gR (gk_219 hg) (gr_219_55 hg)).trans ?_
          obtain ⟨k3, h⟩ := iv_ok h; refine (cl_ia (gk_261 hg) k3).trans ?_
          refine (cl_gR (gk_219 hg) (gr_219_55 hg)).trans ?_
          obtain ⟨k4, h⟩ := iv_ok h; refine (cl_ia (gk_261 hg) k4).trans ?_
          refine (cl_rc (gk_219 hg)).trans ?_
          obtain ⟨x2, M1, k5, h⟩ := iv_ci h; refine (cl_ci k5).trans ?_
          rcases iv_ite h with ⟨hc, h⟩ | ⟨hc, h⟩
          · refine (if_pos hc).trans ?_
            exact h
          · refine (if_neg hc).trans ?_
            exact h
        · refine (if_neg hc).trans ?_
          exact h
theorem s_Model_keepsSaid {g : am_G} {F : am_FT} (hF : F = am_F T0 g) (hg : GG g) {v1 : Int32} {v2 : Int32} {v3 : Int32} {M : am_M} {r : am_R} (h : (
  am_ok 8 v1 <|
  am_ok 40 ((rI M 228 v1.toNatClampNeg)) <|
  am_ok 24 ((rI M 224 ((rI M 228 v1.toNatClampNeg)).toNatClampNeg)) <|
  am_lt (fW M 219 67 ((rI M 220 ((rI M 224 ((rI M 228 v1.toNatClampNeg)).toNatClampNeg)).toNatClampNeg))) fun M1 =>
  am_ok 8 v1 <|
  am_ok 40 ((rI M1 228 v1.toNatClampNeg)) <|
  am_ok 24 ((rI M1 224 ((rI M1 228 v1.toNatClampNeg)).toNatClampNeg)) <|
  am_lt (fW M1 219 68 ((rI M1 221 ((rI M1 224 ((rI M1 228 v1.toNatClampNeg)).toNatClampNeg)).toNatClampNeg))) fun M2 =>
  am_ok 8 v2 <|
  am_ok 40 ((rI M2 228 v2.toNatClampNeg)) <|
  am_ok 24 ((rI M2 224 ((rI M2 228 v2.toNatClampNeg)).toNatClampNeg)) <|
  am_lt (fW M2 219 69 ((rI M2 220 ((rI M2 224 ((rI M2 228 v2.toNatClampNeg)).toNatClampNeg)).toNatClampNeg))) fun M3 =>
  am_ok 8 v2 <|
  am_ok 40 ((rI M3 228 v2.toNatClampNeg)) <|
  am_ok 24 ((rI M3 224 ((rI M3 228 v2.toNatClampNeg)).toNatClampNeg)) <|
  am_lt (fW M3 219 70 ((rI M3 221 ((rI M3 224 ((rI M3 228 v2.toNatClampNeg)).toNatClampNeg)).toNatClampNeg))) fun M4 =>
  if (fI M4 219 78) = 0 then
    am_ok 21 0 <|
    am_ci (F 45 0 [.ref 219, .int v1, .int v2, .int (fI M4 268 0)] [] M4) fun x10 M9 => /- Model_between -/
    F 186 138 [.ref 219, .int v1, .int v2, .int v3, .long 0, .long x10.toInt64, .int 0] [] M9
  else
    am_ok 21 0 <|
    am_ci (F 51 0 [.ref 219, .int v1, .int (fI M4 268 0)] [] M4) fun x6 M5 => /- Model_fromDoor -/
    am_ok 21 ((fI M5 219 78)) <|
    am_ci (F 63 0 [.ref 219, .int v2, .int (rI M5 268 ((fI M5 219 78)).toNatClampNeg)] [] M5) fun x8 M7 => /- Model_toDoor -/
    F 186 138 [.ref 219, .int v1, .int v2, .int v3, .long 0, .long (((x6 + x8)).toInt64), .int 0] [] M7) = some r) : F 186 0 [.ref 219, .int v1, .int v2, .int v3] [] M = some r := by
  refine e_Model_keepsSaid hF ?_
  refine (cl_gR (gk_219 hg) (gr_219_1 hg)).trans ?_
  refine (cl_gR (gk_219 hg) (gr_219_6 hg)).trans ?_
  refine (cl_gR (gk_219 hg) (gr_219_11 hg)).trans ?_
  obtain ⟨k1, h⟩ := iv_ok h; refine (cl_ia (gk_228 hg) k1).trans ?_
  obtain ⟨k2, h⟩ := iv_ok h; refine (cl_ia (gk_224 hg) k2).trans ?_
  obtain ⟨k3, h⟩ := iv_ok h; refine (cl_ia (gk_220 hg) k3).trans ?_
  refine (cl_pI (gk_219 hg)).trans ?_
  replace h := iv_lt h
  refine (cl_gR (gk_219 hg) (gr_219_2 hg)).trans ?_
  refine (cl_gR (gk_219 hg) (gr_219_6 hg)).trans ?_
  refine (cl_gR (gk_219 hg) (gr_219_11 hg)).trans ?_
  obtain ⟨k4, h⟩ := iv_ok h; refine (cl_ia (gk_228 hg) k4).trans ?_
  obtain ⟨k5, h⟩ := iv_ok h; refine (cl_ia (gk_224 hg) k5).trans ?_
  obtain ⟨k6, h⟩ := iv_ok h; refine (cl_ia (gk_221 hg) k6).trans ?_
  refine (cl_pI (gk_219 hg)).trans ?_
  replace h := iv_lt h
  refine (cl_gR (gk_219 hg) (gr_219_1 hg)).trans ?_
  refine (cl_gR (gk_219 hg) (gr_219_6 hg)).trans ?_
  refine (cl_gR (gk_219 hg) (gr_219_11 hg)).trans ?_
  obtain ⟨k7, h⟩ := iv_ok h; refine (cl_ia (gk_228 hg) k7).trans ?_
  obtain ⟨k8, h⟩ := iv_ok h; refine (cl_ia (gk_224 hg) k8).trans ?_
  obtain ⟨k9, h⟩ := iv_ok h; refine (cl_ia (gk_220 hg) k9).trans ?_
  refine (cl_pI (gk_219 hg)).trans ?_
  replace h := iv_lt h
  refine (cl_gR (gk_219 hg) (gr_219_2 hg)).trans ?_
  refine (cl_gR (gk_219 hg) (gr_219_6 hg)).trans ?_
  refine (cl_gR (gk_219 hg) (gr_219_11 hg)).trans ?_
  obtain ⟨k10, h⟩ := iv_ok h; refine (cl_ia (gk_228 hg) k10).trans ?_
  obtain ⟨k11, h⟩ := iv_ok h; refine (cl_ia (gk_224 hg) k11).trans ?_
  obtain ⟨k12, h⟩ := iv_ok h; refine (cl_ia (gk_221 hg) k12).trans ?_
  refine (cl_pI (gk_219 hg)).trans ?_
  replace h := iv_lt h
  refine (cl_gI (gk_219 hg)).trans ?_
  rcases iv_ite h with ⟨hc, h⟩ | ⟨hc, h⟩
  · refine (if_pos hc).trans ?_
    refine (cl_gR (gk_219 hg) (gr_219_83 hg)).trans ?_
    obtain ⟨k17, h⟩ := iv_ok h; refine (cl_ia (gk_268 hg) k17).trans ?_
    refine (cl_rc (gk_219 hg)).trans ?_
    obtain ⟨x10, M9, k18, h⟩ := iv_ci h; refine (cl_ci k18).trans ?_
    exact h
  · refine (if_neg hc).trans ?_
    refine (cl_gR (gk_219 hg) (gr_219_83 hg)).trans ?_
    obtain ⟨k13, h⟩ := iv_ok h; refine (cl_ia (gk_268 hg) k13).trans ?_
    refine (cl_rc (gk_219 hg)).trans ?_
    obtain ⟨x6, M5, k14, h⟩ := iv_ci h; refine (cl_ci k14).trans ?_
    refine (cl_gR (gk_219 hg) (gr_219_83 hg)).trans ?_
    refine (cl_gI (gk_219 hg)).trans ?_
    obtain ⟨k15, h⟩ := iv_ok h; refine (cl_ia (gk_268 hg) k15).trans ?_
    refine (cl_rc (gk_219 hg)).trans ?_
    obtain ⟨x8, M7, k16, h⟩ := iv_ci h; refine (cl_ci k16).trans ?_
    exact h
theorem s_Model_keepsSaid_138 {g : am_G} {F : am_FT} (hF : F = am_F T0 g) (hg : GG g) {v1 : Int32} {v2 : Int32} {v3 : Int32} {w4 : Int64} {w6 : Int64} {v8 : Int32} {M : am_M} {r : am_R} (h : (
  if (fI M 219 78) < v8 then
    am_ok 10 ((fI M 219 37)) <|
    am_lt (wI M 247 ((fI M 219 37)).toNatClampNeg (((fI M 219 78) + 1))) fun M1 =>
    am_ok 60 ((6 * (fI M1 219 37))) <|
    am_lt (wI M1 249 ((6 * (fI M1 219 37))).toNatClampNeg v1) fun M2 =>
    am_ok 60 (((6 * (fI M1 219 37)) + 1)) <|
    am_lt (wI M2 249 (((6 * (fI M1 219 37)) + 1)).toNatClampNeg v2) fun M3 =>
    am_ok 60 (((6 * (fI M1 219 37)) + 2)) <|
    am_lt (wI M3 249 (((6 * (fI M1 219 37)) + 2)).toNatClampNeg ((fI M3 219 14))) fun M4 =>
    am_ok 60 (((6 * (fI M1 219 37)) + 3)) <|
    am_lt (wI M4 249 (((6 * (fI M1 219 37)) + 3)).toNatClampNeg v3) fun M5 =>
    am_ok 60 (((6 * (fI M1 219 37)) + 4)) <|
    am_lt (wI M5 249 (((6 * (fI M1 219 37)) + 4)).toNatClampNeg w6.toInt32) fun M6 =>
    am_ok 60 (((6 * (fI M1 219 37)) + 5)) <|
    am_lt (wI M6 249 (((6 * (fI M1 219 37)) + 5)).toNatClampNeg w4.toInt32) fun M7 =>
    am_lt (fW M7 219 37 (((fI M7 219 37) + 1))) fun M8 =>
    some (none, M8)
  else
    am_ok 21 v8 <|
    am_ok 210 (((21 * (fI M 219 37)) + v8)) <|
    am_lt (wI M 248 (((21 * (fI M 219 37)) + v8)).toNatClampNeg ((rI M 268 v8.toNatClampNeg))) fun M9 =>
    if (fI M9 219 78) ≤ v8 then
      if v8 ≤ 0 then
        F 186 138 [.ref 219, .int v1, .int v2, .int v3, .long (w4 + 0), .long (w6 + 0), .int (v8 + 1)] [] M9
      else
        if (fI M9 219 78) ≤ v8 then
          F 186 138 [.ref 219, .int v1, .int v2, .int v3, .long (w4 + 0), .long (w6 + 0), .int (v8 + 1)] [] M9
        else
          am_ok 21 v8 <|
          am_dv 2 <|
          am_ci (F 130 0 [.ref 219, .int ((rI M9 268 v8.toNatClampNeg) / 2), .int v3] [] M9) fun x11 M10 => /- Model_priceOf -/
          F 186 138 [.ref 219, .int v1, .int v2, .int v3, .long (w4 + 0), .long (w6 + x11.toInt64), .int (v8 + 1)] [] M10
    else
      am_ok 21 v8 <|
      am_cj (F 127 0 [.ref 219, .int (rI M9 268 v8.toNatClampNeg)] [] M9) fun l13 M12 => /- Model_off -/
      if v8 ≤ 0 then
        F 186 138 [.ref 219, .int v1, .int v2, .int v3, .long (w4 + l13), .long (w6 + 0), .int (v8 + 1)] [] M12
      else
        if (fI M12 219 78) ≤ v8 then
          F 186 138 [.ref 219, .int v1, .int v2, .int v3, .long (w4 + l13), .long (w6 + 0), .int (v8 + 1)] [] M12
        else
          am_ok 21 v8 <|
          am_dv 2 <|
          am_ci (F 130 0 [.ref 219, .int ((rI M12 268 v8.toNatClampNeg) / 2), .int v3] [] M12) fun x15 M14 => /- Model_priceOf -/
          F 186 138 [.ref 219, .int v1, .int v2, .int v3, .long (w4 + l13), .long (w6 + x15.toInt64), .int (v8 + 1)] [] M14) = some r) : F 186 138 [.ref 219, .int v1, .int v2, .int v3, .long w4, .long w6, .int v8] [] M = some r := by
  refine e_Model_keepsSaid_138 hF ?_
  refine (cl_gI (gk_219 hg)).trans ?_
  rcases iv_ite h with ⟨hc, h⟩ | ⟨hc, h⟩
  · refine (if_pos hc).trans ?_
    refine (cl_gR (gk_219 hg) (gr_219_38 hg)).trans ?_
    refine (cl_gI (gk_219 hg)).trans ?_
    refine (cl_gI (gk_219 hg)).trans ?_
    obtain ⟨k1, h⟩ := iv_ok h; refine (cl_is (gk_247 hg) k1).trans ?_
    replace h := iv_lt h
    refine (cl_gI (gk_219 hg)).trans ?_
    refine (cl_gR (gk_219 hg) (gr_219_40 hg)).trans ?_
    obtain ⟨k2, h⟩ := iv_ok h; refine (cl_is (gk_249 hg) k2).trans ?_
    replace h := iv_lt h
    refine (cl_gR (gk_219 hg) (gr_219_40 hg)).trans ?_
    obtain ⟨k3, h⟩ := iv_ok h; refine (cl_is (gk_249 hg) k3).trans ?_
    replace h := iv_lt h
    refine (cl_gR (gk_219 hg) (gr_219_40 hg)).trans ?_
    refine (cl_gI (gk_219 hg)).trans ?_
    obtain ⟨k4, h⟩ := iv_ok h; refine (cl_is (gk_249 hg) k4).trans ?_
    replace h := iv_lt h
    refine (cl_gR (gk_219 hg) (gr_219_40 hg)).trans ?_
    obtain ⟨k5, h⟩ := iv_ok h; refine (cl_is (gk_249 hg) k5).trans ?_
    replace h := iv_lt h
    refine (cl_gR (gk_219 hg) (gr_219_40 hg)).trans ?_
    obtain ⟨k6, h⟩ := iv_ok h; refine (cl_is (gk_249 hg) k6).trans ?_
    replace h := iv_lt h
    refine (cl_gR (gk_219 hg) (gr_219_40 hg)).trans ?_
    obtain ⟨k7, h⟩ := iv_ok h; refine (cl_is (gk_249 hg) k7).trans ?_
    replace h := iv_lt h
    refine (cl_gI (gk_219 hg)).trans ?_
    refine (cl_pI (gk_219 hg)).trans ?_
    replace h := iv_lt h
    exact h
  · refine (if_neg hc).trans ?_
    refine (cl_gR (gk_219 hg) (gr_219_39 hg)).trans ?_
    refine (cl_gI (gk_219 hg)).trans ?_
    refine (cl_gR (gk_219 hg) (gr_219_83 hg)).trans ?_
    obtain ⟨k8, h⟩ := iv_ok h; refine (cl_ia (gk_268 hg) k8).trans ?_
    obtain ⟨k9, h⟩ := iv_ok h; refine (cl_is (gk_248 hg) k9).trans ?_
    replace h := iv_lt h
    refine (cl_gI (gk_219 hg)).trans ?_
    rcases iv_ite h with ⟨hc, h⟩ | ⟨hc, h⟩
    · refine (if_pos hc).trans ?_
      rcases iv_ite h with ⟨hc, h⟩ | ⟨hc, h⟩
      · refine (if_pos hc).trans ?_
        exact h
      · refine (if_neg hc).trans ?_
        refine (cl_gI (gk_219 hg)).trans ?_
        rcases iv_ite h with ⟨hc, h⟩ | ⟨hc, h⟩
        · refine (if_pos hc).trans ?_
          exact h
        · refine (if_neg hc).trans ?_
          refine (cl_gR (gk_219 hg) (gr_219_83 hg)).trans ?_
          obtain ⟨k10, h⟩ := iv_ok h; refine (cl_ia (gk_268 hg) k10).trans ?_
          obtain ⟨k11, h⟩ := iv_dv h; refine (cl_dv k11).trans ?_
          refine (cl_rc (gk_219 hg)).trans ?_
          obtain ⟨x11, M10, k12, h⟩ := iv_ci h; refine (cl_ci k12).trans ?_
          exact h
    · refine (if_neg hc).trans ?_
      refine (cl_gR (gk_219 hg) (gr_219_83 hg)).trans ?_
      obtain ⟨k13, h⟩ := iv_ok h; refine (cl_ia (gk_268 hg) k13).trans ?_
      refine (cl_rc (gk_219 hg)).trans ?_
      obtain ⟨l13, M12, k14, h⟩ := iv_cj h; refine (cl_cj k14).trans ?_
      rcases iv_ite h with ⟨hc, h⟩ | ⟨hc, h⟩
      · refine (if_pos hc).trans ?_
        exact h
      · refine (if_neg hc).trans ?_
        refine (cl_gI (gk_219 hg)).trans ?_
        rcases iv_ite h with ⟨hc, h⟩ | ⟨hc, h⟩
        · refine (if_pos hc).trans ?_
          exact h
        · refine (if_neg hc).trans ?_
          refine (cl_gR (gk_219 hg) (gr_219_83 hg)).trans ?_
          obtain ⟨k15, h⟩ := iv_ok h; refine (cl_ia (gk_268 hg) k15).trans ?_
          obtain ⟨k16, h⟩ := iv_dv h; refine (cl_dv k16).trans ?_
          refine (cl_rc (gk_219 hg)).trans ?_
          obtain ⟨x15, M14, k17, h⟩ := iv_ci h; refine (cl_ci k17).trans ?_
          exact h
theorem s_Model_knows {g : am_G} {F : am_FT} (hF : F = am_F T0 g) (hg : GG g) {v1 : Int32} {v2 : Int32} {M : am_M} {r : am_R} (h : (
  am_ci (F 119 0 [.ref 219, .int v1] [] M) fun x2 M1 => /- Model_isPupil -/
  if x2 = 0 then
    am_rt 1 ((-1)) M1
  else
    am_ci (F 53 0 [.int v2, .int (fI M1 219 14), .int 2000] [] M1) fun x4 M3 => /- Model_in -/
    if x4 = 0 then
      am_rt 1 ((-2)) M3
    else
      am_ci (F 114 0 [.ref 219, .int v1, .int v2] [] M3) fun x6 M5 => /- Model_heldOn -/
      am_rt 1 x6 M5) = some r) : F 187 0 [.ref 219, .int v1, .int v2] [] M = some r := by
  refine e_Model_knows hF ?_
  refine (cl_rc (gk_219 hg)).trans ?_
  obtain ⟨x2, M1, k1, h⟩ := iv_ci h; refine (cl_ci k1).trans ?_
  rcases iv_ite h with ⟨hc, h⟩ | ⟨hc, h⟩
  · refine (if_pos hc).trans ?_
    exact h
  · refine (if_neg hc).trans ?_
    refine (cl_gI (gk_219 hg)).trans ?_
    obtain ⟨x4, M3, k2, h⟩ := iv_ci h; refine (cl_ci k2).trans ?_
    rcases iv_ite h with ⟨hc, h⟩ | ⟨hc, h⟩
    · refine (if_pos hc).trans ?_
      exact h
    · refine (if_neg hc).trans ?_
      refine (cl_rc (gk_219 hg)).trans ?_
      obtain ⟨x6, M5, k3, h⟩ := iv_ci h; refine (cl_ci k3).trans ?_
      exact h
theorem s_Model_leftRight {g : am_G} {F : am_FT} (hF : F = am_F T0 g) (hg : GG g) {M : am_M} {r : am_R} (h : (
  am_ci (F 120 0 [.ref 219, .int 108, .int 101, .int 102, .int 116, .int 0] [] M) fun x2 M1 => /- Model_isSaid -/
  if x2 = 0 then
    am_ci (F 120 0 [.ref 219, .int 114, .int 105, .int 103, .int 104, .int 116] [] M1) fun x4 M3 => /- Model_isSaid -/
    if x4 = 0 then
      am_rt 1 ((-1)) M3
    else
      am_rt 1 1 M3
  else
    am_rt 1 0 M1) = some r) : F 188 0 [.ref 219] [] M = some r := by
  refine e_Model_leftRight hF ?_
  refine (cl_rc (gk_219 hg)).trans ?_
  obtain ⟨x2, M1, k1, h⟩ := iv_ci h; refine (cl_ci k1).trans ?_
  rcases iv_ite h with ⟨hc, h⟩ | ⟨hc, h⟩
  · refine (if_pos hc).trans ?_
    refine (cl_rc (gk_219 hg)).trans ?_
    obtain ⟨x4, M3, k2, h⟩ := iv_ci h; refine (cl_ci k2).trans ?_
    rcases iv_ite h with ⟨hc, h⟩ | ⟨hc, h⟩
    · refine (if_pos hc).trans ?_
      exact h
    · refine (if_neg hc).trans ?_
      exact h
  · refine (if_neg hc).trans ?_
    exact h
theorem s_Model_lets {g : am_G} {F : am_FT} (hF : F = am_F T0 g) (hg : GG g) {v1 : Int32} {w2 : Int64} {w4 : Int64} {M : am_M} {r : am_R} (h : (
  am_cj (F 127 0 [.ref 219, .int v1] [] M) fun l2 M1 => /- Model_off -/
  am_ok 80 v1 <|
  am_ok 80 v1 <|
  am_ci (F 56 0 [.ref 219, .long (w2 + l2), .long w4, .long (rJ M1 262 v1.toNatClampNeg), .long (rJ M1 263 v1.toNatClampNeg)] [] M1) fun x4 M3 => /- Model_isLess -/
  if x4 = 0 then
    am_rt 2 0 M3
  else
    am_ok 80 v1 <|
    am_lt (wJ M3 262 v1.toNatClampNeg ((w2 + l2))) fun M5 =>
    am_ok 80 v1 <|
    am_lt (wJ M5 263 v1.toNatClampNeg w4) fun M6 =>
    am_rt 2 1 M6) = some r) : F 189 0 [.ref 219, .int v1, .long w2, .long w4] [] M = some r := by
  refine e_Model_lets hF ?_
  refine (cl_rc (gk_219 hg)).trans ?_
  obtain ⟨l2, M1, k1, h⟩ := iv_cj h; refine (cl_cj k1).trans ?_
  refine (cl_gR (gk_219 hg) (gr_219_61 hg)).trans ?_
  obtain ⟨k2, h⟩ := iv_ok h; refine (cl_la (gk_262 hg) k2).trans ?_
  refine (cl_gR (gk_219 hg) (gr_219_62 hg)).trans ?_
  obtain ⟨k3, h⟩ := iv_ok h; refine (cl_la (gk_263 hg) k3).trans ?_
  refine (cl_rc (gk_219 hg)).trans ?_
  obtain ⟨x4, M3, k4, h⟩ := iv_ci h; refine (cl_ci k4).trans ?_
  rcases iv_ite h with ⟨hc, h⟩ | ⟨hc, h⟩
  · refine (if_pos hc).trans ?_
    exact h
  · refine (if_neg hc).trans ?_
    refine (cl_gR (gk_219 hg) (gr_219_61 hg)).trans ?_
    obtain ⟨k5, h⟩ := iv_ok h; refine (cl_ls (gk_262 hg) k5).trans ?_
    replace h := iv_lt h
    refine (cl_gR (gk_219 hg) (gr_219_62 hg)).trans ?_
    obtain ⟨k6, h⟩ := iv_ok h; refine (cl_ls (gk_263 hg) k6).trans ?_
    replace h := iv_lt h
    exact h
theorem s_Model_name {g : am_G} {F : am_FT} (hF : F = am_F T0 g) (hg : GG g) {v1 : Int32} {w2 : Int64} {M : am_M} {r : am_R} (h : (
  am_ci (F 122 0 [.ref 219, .int v1] [] M) fun x2 M1 => /- Model_isWay -/
  if x2 = 0 then
    am_rt 1 ((-1)) M1
  else
    am_ci (F 123 0 [.long w2] [] M1) fun x4 M3 => /- Model_isWord -/
    if x4 = 0 then
      am_rt 1 ((-2)) M3
    else
      if (fI M3 219 15) = 60 then
        am_rt 1 ((-4)) M3
      else
        am_ok 60 ((fI M3 219 15)) <|
        am_lt (wI M3 231 ((fI M3 219 15)).toNatClampNeg v1) fun M5 =>
        am_ok 60 ((fI M5 219 15)) <|
        am_lt (wJ M5 232 ((fI M5 219 15)).toNatClampNeg w2) fun M6 =>
        am_ok 60 ((fI M6 219 15)) <|
        am_lt (wI M6 233 ((fI M6 219 15)).toNatClampNeg ((fI M6 219 14))) fun M7 =>
        am_lt (fW M7 219 15 (((fI M7 219 15) + 1))) fun M8 =>
        am_rt 1 (((fI M8 219 15) - 1)) M8) = some r) : F 190 0 [.ref 219, .int v1, .long w2] [] M = some r := by
  refine e_Model_name hF ?_
  refine (cl_rc (gk_219 hg)).trans ?_
  obtain ⟨x2, M1, k1, h⟩ := iv_ci h; refine (cl_ci k1).trans ?_
  rcases iv_ite h with ⟨hc, h⟩ | ⟨hc, h⟩
  · refine (if_pos hc).trans ?_
    exact h
  · refine (if_neg hc).trans ?_
    obtain ⟨x4, M3, k2, h⟩ := iv_ci h; refine (cl_ci k2).trans ?_
    rcases iv_ite h with ⟨hc, h⟩ | ⟨hc, h⟩
    · refine (if_pos hc).trans ?_
      exact h
    · refine (if_neg hc).trans ?_
      refine (cl_gI (gk_219 hg)).trans ?_
      rcases iv_ite h with ⟨hc, h⟩ | ⟨hc, h⟩
      · refine (if_pos hc).trans ?_
        exact h
      · refine (if_neg hc).trans ?_
        refine (cl_gR (gk_219 hg) (gr_219_16 hg)).trans ?_
        refine (cl_gI (gk_219 hg)).trans ?_
        obtain ⟨k3, h⟩ := iv_ok h; refine (cl_is (gk_231 hg) k3).trans ?_
        replace h := iv_lt h
        refine (cl_gR (gk_219 hg) (gr_219_17 hg)).trans ?_
        refine (cl_gI (gk_219 hg)).trans ?_
        obtain ⟨k4, h⟩ := iv_ok h; refine (cl_ls (gk_232 hg) k4).trans ?_
        replace h := iv_lt h
        refine (cl_gR (gk_219 hg) (gr_219_18 hg)).trans ?_
        refine (cl_gI (gk_219 hg)).trans ?_
        refine (cl_gI (gk_219 hg)).trans ?_
        obtain ⟨k5, h⟩ := iv_ok h; refine (cl_is (gk_233 hg) k5).trans ?_
        replace h := iv_lt h
        refine (cl_gI (gk_219 hg)).trans ?_
        refine (cl_pI (gk_219 hg)).trans ?_
        replace h := iv_lt h
        refine (cl_gI (gk_219 hg)).trans ?_
        exact h
theorem s_Model_plan {g : am_G} {F : am_FT} (hF : F = am_F T0 g) (hg : GG g) {v1 : Int32} {v2 : Int32} {v3 : Int32} {v4 : Int32} {M : am_M} {r : am_R} (h : (
  am_ci (F 119 0 [.ref 219, .int v1] [] M) fun x2 M1 => /- Model_isPupil -/
  if x2 = 0 then
    am_rt 1 ((-1)) M1
  else
    if v2 < 0 then
      am_rt 1 ((-1)) M1
    else
      if v2 < ((1 : Int32) <<< ((fI M1 219 37) &&& 31)) then
        F 191 30 [.ref 219, .int v1, .int v2, .int v3, .int v4, .int 0, .int 0] [] M1
      else
        am_rt 1 ((-1)) M1) = some r) : F 191 0 [.ref 219, .int v1, .int v2, .int v3, .int v4] [] M = some r := by
  refine e_Model_plan hF ?_
  refine (cl_rc (gk_219 hg)).trans ?_
  obtain ⟨x2, M1, k1, h⟩ := iv_ci h; refine (cl_ci k1).trans ?_
  rcases iv_ite h with ⟨hc, h⟩ | ⟨hc, h⟩
  · refine (if_pos hc).trans ?_
    exact h
  · refine (if_neg hc).trans ?_
    rcases iv_ite h with ⟨hc, h⟩ | ⟨hc, h⟩
    · refine (if_pos hc).trans ?_
      exact h
    · refine (if_neg hc).trans ?_
      refine (cl_gI (gk_219 hg)).trans ?_
      rcases iv_ite h with ⟨hc, h⟩ | ⟨hc, h⟩
      · refine (if_pos hc).trans ?_
        exact h
      · refine (if_neg hc).trans ?_
        exact h
theorem s_Model_plan_30 {g : am_G} {F : am_FT} (hF : F = am_F T0 g) (hg : GG g) {v1 : Int32} {v2 : Int32} {v3 : Int32} {v4 : Int32} {v5 : Int32} {v6 : Int32} {M : am_M} {r : am_R} (h : (
  if (fI M 219 37) ≤ v6 then
    am_ci (F 53 0 [.int v5, .int 1, .int 4] [] M) fun x2 M1 => /- Model_in -/
    if x2 = 0 then
      am_rt 1 ((-2)) M1
    else
      am_ci (F 53 0 [.int v3, .int 1, .int 4] [] M1) fun x4 M3 => /- Model_in -/
      if x4 = 0 then
        am_rt 1 ((-2)) M3
      else
        am_ci (F 53 0 [.int v4, .int (((fI M3 219 14) + v3) - 1), .int 2000] [] M3) fun x6 M5 => /- Model_in -/
        if x6 = 0 then
          am_rt 1 ((-2)) M5
        else
          am_cv (F 59 0 [.ref 219, .int v1, .int 1] [] M5) fun M7 => /- Model_laysBack -/
          F 191 126 [.ref 219, .int v1, .int v3, .int v4, .int v5, .int 1, .int 0] [] M7
  else
    if ((v2 >>> (v6 &&& 31)) &&& 1) = 1 then
      if 4 ≤ v5 then
        F 191 30 [.ref 219, .int v1, .int v2, .int v3, .int v4, .int (v5 + 1), .int (v6 + 1)] [] M
      else
        am_ok 4 v5 <|
        am_lt (wI M 271 v5.toNatClampNeg v6) fun M8 =>
        F 191 30 [.ref 219, .int v1, .int v2, .int v3, .int v4, .int (v5 + 1), .int (v6 + 1)] [] M8
    else
      F 191 30 [.ref 219, .int v1, .int v2, .int v3, .int v4, .int v5, .int (v6 + 1)] [] M) = some r) : F 191 30 [.ref 219, .int v1, .int v2, .int v3, .int v4, .int v5, .int v6] [] M = some r := by
  refine e_Model_plan_30 hF ?_
  refine (cl_gI (gk_219 hg)).trans ?_
  rcases iv_ite h with ⟨hc, h⟩ | ⟨hc, h⟩
  · refine (if_pos hc).trans ?_
    obtain ⟨x2, M1, k1, h⟩ := iv_ci h; refine (cl_ci k1).trans ?_
    rcases iv_ite h with ⟨hc, h⟩ | ⟨hc, h⟩
    · refine (if_pos hc).trans ?_
      exact h
    · refine (if_neg hc).trans ?_
      obtain ⟨x4, M3, k2, h⟩ := iv_ci h; refine (cl_ci k2).trans ?_
      rcases iv_ite h with ⟨hc, h⟩ | ⟨hc, h⟩
      · refine (if_pos hc).trans ?_
        exact h
      · refine (if_neg hc).trans ?_
        refine (cl_gI (gk_219 hg)).trans ?_
        obtain ⟨x6, M5, k3, h⟩ := iv_ci h; refine (cl_ci k3).trans ?_
        rcases iv_ite h with ⟨hc, h⟩ | ⟨hc, h⟩
        · refine (if_pos hc).trans ?_
          exact h
        · refine (if_neg hc).trans ?_
          refine (cl_rc (gk_219 hg)).trans ?_
          obtain ⟨M7, k4, h⟩ := iv_cv h; refine (cl_cv k4).trans ?_
          exact h
  · refine (if_neg hc).trans ?_
    rcases iv_ite h with ⟨hc, h⟩ | ⟨hc, h⟩
    · refine (if_pos hc).trans ?_
      rcases iv_ite h with ⟨hc, h⟩ | ⟨hc, h⟩
      · refine (if_pos hc).trans ?_
        exact h
      · refine (if_neg hc).trans ?_
        refine (cl_gR (gk_219 hg) (gr_219_86 hg)).trans ?_
        obtain ⟨k5, h⟩ := iv_ok h; refine (cl_is (gk_271 hg) k5).trans ?_
        replace h := iv_lt h
        exact h
    · refine (if_neg hc).trans ?_
      exact h
theorem s_Model_plan_126 {g : am_G} {F : am_FT} (hF : F = am_F T0 g) (hg : GG g) {v1 : Int32} {v3 : Int32} {v4 : Int32} {v5 : Int32} {v6 : Int32} {v7 : Int32} {M : am_M} {r : am_R} (h : (
  if v3 ≤ v7 then
    F 191 151 [.ref 219, .int v1, .int v3, .int v4, .int v5, .int v6, .int (-1), .int 0] [] M
  else
    F 191 126 [.ref 219, .int v1, .int v3, .int v4, .int v5, .int (v6 * v5), .int (v7 + 1)] [] M) = some r) : F 191 126 [.ref 219, .int v1, .int v3, .int v4, .int v5, .int v6, .int v7] [] M = some r := by
  refine e_Model_plan_126 hF ?_
  rcases iv_ite h with ⟨hc, h⟩ | ⟨hc, h⟩
  · refine (if_pos hc).trans ?_
    exact h
  · refine (if_neg hc).trans ?_
    exact h
theorem s_Model_plan_151 {g : am_G} {F : am_FT} (hF : F = am_F T0 g) (hg : GG g) {v1 : Int32} {v3 : Int32} {v4 : Int32} {v5 : Int32} {v6 : Int32} {v7 : Int32} {v8 : Int32} {M : am_M} {r : am_R} (h : (
  if v6 ≤ v8 then
    am_lt (fW M 219 89 v3) fun M1 =>
    am_rt 1 v7 M1
  else
    F 191 167 [.ref 219, .int v1, .int v3, .int v4, .int v5, .int v6, .int v7, .int v8, .int v8, .int (v3 - 1)] [] M) = some r) : F 191 151 [.ref 219, .int v1, .int v3, .int v4, .int v5, .int v6, .int v7, .int v8] [] M = some r := by
  refine e_Model_plan_151 hF ?_
  rcases iv_ite h with ⟨hc, h⟩ | ⟨hc, h⟩
  · refine (if_pos hc).trans ?_
    refine (cl_pI (gk_219 hg)).trans ?_
    replace h := iv_lt h
    exact h
  · refine (if_neg hc).trans ?_
    exact h
theorem s_Model_plan_167 {g : am_G} {F : am_FT} (hF : F = am_F T0 g) (hg : GG g) {v1 : Int32} {v3 : Int32} {v4 : Int32} {v5 : Int32} {v6 : Int32} {v7 : Int32} {v8 : Int32} {v9 : Int32} {v10 : Int32} {M : am_M} {r : am_R} (h : (
  if v10 < 0 then
    F 191 205 [.ref 219, .int v1, .int v3, .int v4, .int v5, .int v6, .int v7, .int v8, .int 0] [] M
  else
    am_dv v5 <|
    am_ok 4 ((v9 - v9 / v5 * v5)) <|
    am_ok 4 v10 <|
    am_lt (wI M 272 v10.toNatClampNeg ((rI M 271 ((v9 - v9 / v5 * v5)).toNatClampNeg))) fun M1 =>
    am_dv v5 <|
    F 191 167 [.ref 219, .int v1, .int v3, .int v4, .int v5, .int v6, .int v7, .int v8, .int (v9 / v5), .int (v10 + (-1))] [] M1) = some r) : F 191 167 [.ref 219, .int v1, .int v3, .int v4, .int v5, .int v6, .int v7, .int v8, .int v9, .int v10] [] M = some r := by
  refine e_Model_plan_167 hF ?_
  rcases iv_ite h with ⟨hc, h⟩ | ⟨hc, h⟩
  · refine (if_pos hc).trans ?_
    exact h
  · refine (if_neg hc).trans ?_
    refine (cl_gR (gk_219 hg) (gr_219_87 hg)).trans ?_
    refine (cl_gR (gk_219 hg) (gr_219_86 hg)).trans ?_
    obtain ⟨k1, h⟩ := iv_dv h; refine (cl_dv k1).trans ?_
    obtain ⟨k2, h⟩ := iv_ok h; refine (cl_ia (gk_271 hg) k2).trans ?_
    obtain ⟨k3, h⟩ := iv_ok h; refine (cl_is (gk_272 hg) k3).trans ?_
    replace h := iv_lt h
    obtain ⟨k4, h⟩ := iv_dv h; refine (cl_dv k4).trans ?_
    exact h
theorem s_Model_plan_205 {g : am_G} {F : am_FT} (hF : F = am_F T0 g) (hg : GG g) {v1 : Int32} {v3 : Int32} {v4 : Int32} {v5 : Int32} {v6 : Int32} {v7 : Int32} {v8 : Int32} {v10 : Int32} {M : am_M} {r : am_R} (h : (
  if v3 ≤ v10 then
    am_ci (F 114 0 [.ref 219, .int v1, .int v4] [] M) fun x2 M1 => /- Model_heldOn -/
    am_cv (F 59 0 [.ref 219, .int v1, .int 0] [] M1) fun M3 => /- Model_laysBack -/
    if x2 ≤ v7 then
      F 191 151 [.ref 219, .int v1, .int v3, .int v4, .int v5, .int v6, .int v7, .int (v8 + 1)] [] M3
    else
      F 191 265 [.ref 219, .int v1, .int v3, .int v4, .int v5, .int v6, .int x2, .int v8, .int 0] [] M3
  else
    am_ok 4 v10 <|
    am_cv (F 135 0 [.ref 219, .int v1, .int (rI M 272 v10.toNatClampNeg), .int ((fI M 219 14) + v10)] [] M) fun M4 => /- Model_rides -/
    F 191 205 [.ref 219, .int v1, .int v3, .int v4, .int v5, .int v6, .int v7, .int v8, .int (v10 + 1)] [] M4) = some r) : F 191 205 [.ref 219, .int v1, .int v3, .int v4, .int v5, .int v6, .int v7, .int v8, .int v10] [] M = some r := by
  refine e_Model_plan_205 hF ?_
  rcases iv_ite h with ⟨hc, h⟩ | ⟨hc, h⟩
  · refine (if_pos hc).trans ?_
    refine (cl_rc (gk_219 hg)).trans ?_
    obtain ⟨x2, M1, k1, h⟩ := iv_ci h; refine (cl_ci k1).trans ?_
    refine (cl_rc (gk_219 hg)).trans ?_
    obtain ⟨M3, k2, h⟩ := iv_cv h; refine (cl_cv k2).trans ?_
    rcases iv_ite h with ⟨hc, h⟩ | ⟨hc, h⟩
    · refine (if_pos hc).trans ?_
      exact h
    · refine (if_neg hc).trans ?_
      exact h
  · refine (if_neg hc).trans ?_
    refine (cl_gR (gk_219 hg) (gr_219_87 hg)).trans ?_
    obtain ⟨k3, h⟩ := iv_ok h; refine (cl_ia (gk_272 hg) k3).trans ?_
    refine (cl_gI (gk_219 hg)).trans ?_
    refine (cl_rc (gk_219 hg)).trans ?_
    obtain ⟨M4, k4, h⟩ := iv_cv h; refine (cl_cv k4).trans ?_
    exact h
theorem s_Model_plan_265 {g : am_G} {F : am_FT} (hF : F = am_F T0 g) (hg : GG g) {v1 : Int32} {v3 : Int32} {v4 : Int32} {v5 : Int32} {v6 : Int32} {v7 : Int32} {v8 : Int32} {v11 : Int32} {M : am_M} {r : am_R} (h : (
  if v3 ≤ v11 then
    F 191 151 [.ref 219, .int v1, .int v3, .int v4, .int v5, .int v6, .int v7, .int (v8 + 1)] [] M
  else
    am_ok 4 v11 <|
    am_ok 4 v11 <|
    am_lt (wI M 273 v11.toNatClampNeg ((rI M 272 v11.toNatClampNeg))) fun M1 =>
    F 191 265 [.ref 219, .int v1, .int v3, .int v4, .int v5, .int v6, .int v7, .int v8, .int (v11 + 1)] [] M1) = some r) : F 191 265 [.ref 219, .int v1, .int v3, .int v4, .int v5, .int v6, .int v7, .int v8, .int v11] [] M = some r := by
  refine e_Model_plan_265 hF ?_
  rcases iv_ite h with ⟨hc, h⟩ | ⟨hc, h⟩
  · refine (if_pos hc).trans ?_
    exact h
  · refine (if_neg hc).trans ?_
    refine (cl_gR (gk_219 hg) (gr_219_88 hg)).trans ?_
    refine (cl_gR (gk_219 hg) (gr_219_87 hg)).trans ?_
    obtain ⟨k1, h⟩ := iv_ok h; refine (cl_ia (gk_272 hg) k1).trans ?_
    obtain ⟨k2, h⟩ := iv_ok h; refine (cl_is (gk_273 hg) k2).trans ?_
    replace h := iv_lt h
    exact h
theorem s_Model_ride {g : am_G} {F : am_FT} (hF : F = am_F T0 g) (hg : GG g) {v1 : Int32} {v2 : Int32} {M : am_M} {r : am_R} (h : (
  am_ci (F 119 0 [.ref 219, .int v1] [] M) fun x2 M1 => /- Model_isPupil -/
  if x2 = 0 then
    am_rt 1 ((-1)) M1
  else
    am_ci (F 121 0 [.ref 219, .int v2] [] M1) fun x4 M3 => /- Model_isSaidRun -/
    if x4 = 0 then
      am_rt 1 ((-1)) M3
    else
      am_cv (F 135 0 [.ref 219, .int v1, .int v2, .int (fI M3 219 14)] [] M3) fun M5 => /- Model_rides -/
      am_ci (F 114 0 [.ref 219, .int v1, .int (fI M5 219 14)] [] M5) fun x7 M6 => /- Model_heldOn -/
      am_rt 1 x7 M6) = some r) : F 192 0 [.ref 219, .int v1, .int v2] [] M = some r := by
  refine e_Model_ride hF ?_
  refine (cl_rc (gk_219 hg)).trans ?_
  obtain ⟨x2, M1, k1, h⟩ := iv_ci h; refine (cl_ci k1).trans ?_
  rcases iv_ite h with ⟨hc, h⟩ | ⟨hc, h⟩
  · refine (if_pos hc).trans ?_
    exact h
  · refine (if_neg hc).trans ?_
    refine (cl_rc (gk_219 hg)).trans ?_
    obtain ⟨x4, M3, k2, h⟩ := iv_ci h; refine (cl_ci k2).trans ?_
    rcases iv_ite h with ⟨hc, h⟩ | ⟨hc, h⟩
    · refine (if_pos hc).trans ?_
      exact h
    · refine (if_neg hc).trans ?_
      refine (cl_gI (gk_219 hg)).trans ?_
      refine (cl_rc (gk_219 hg)).trans ?_
      obtain ⟨M5, k3, h⟩ := iv_cv h; refine (cl_cv k3).trans ?_
      refine (cl_gI (gk_219 hg)).trans ?_
      refine (cl_rc (gk_219 hg)).trans ?_
      obtain ⟨x7, M6, k4, h⟩ := iv_ci h; refine (cl_ci k4).trans ?_
      exact h
theorem s_Model_shut {g : am_G} {F : am_FT} (hF : F = am_F T0 g) (hg : GG g) {v1 : Int32} {v2 : Int32} {v3 : Int32} {M : am_M} {r : am_R} (h : (
  am_ci (F 122 0 [.ref 219, .int v1] [] M) fun x2 M1 => /- Model_isWay -/
  if x2 = 0 then
    am_rt 1 ((-1)) M1
  else
    am_ci (F 53 0 [.int v2, .int 0, .int 300] [] M1) fun x4 M3 => /- Model_in -/
    if x4 = 0 then
      am_rt 1 ((-2)) M3
    else
      am_ci (F 53 0 [.int v3, .int (v2 + 1), .int 300] [] M3) fun x6 M5 => /- Model_in -/
      if x6 = 0 then
        am_rt 1 ((-2)) M5
      else
        if (fI M5 219 19) = 40 then
          am_rt 1 ((-4)) M5
        else
          am_ok 40 ((fI M5 219 19)) <|
          am_lt (wI M5 234 ((fI M5 219 19)).toNatClampNeg v1) fun M7 =>
          am_ok 40 ((fI M7 219 19)) <|
          am_lt (wI M7 235 ((fI M7 219 19)).toNatClampNeg v2) fun M8 =>
          am_ok 40 ((fI M8 219 19)) <|
          am_lt (wI M8 236 ((fI M8 219 19)).toNatClampNeg v3) fun M9 =>
          am_ok 40 ((fI M9 219 19)) <|
          am_lt (wI M9 237 ((fI M9 219 19)).toNatClampNeg ((fI M9 219 14))) fun M10 =>
          am_lt (fW M10 219 19 (((fI M10 219 19) + 1))) fun M11 =>
          am_rt 1 (((fI M11 219 19) - 1)) M11) = some r) : F 193 0 [.ref 219, .int v1, .int v2, .int v3] [] M = some r := by
  refine e_Model_shut hF ?_
  refine (cl_rc (gk_219 hg)).trans ?_
  obtain ⟨x2, M1, k1, h⟩ := iv_ci h; refine (cl_ci k1).trans ?_
  rcases iv_ite h with ⟨hc, h⟩ | ⟨hc, h⟩
  · refine (if_pos hc).trans ?_
    exact h
  · refine (if_neg hc).trans ?_
    obtain ⟨x4, M3, k2, h⟩ := iv_ci h; refine (cl_ci k2).trans ?_
    rcases iv_ite h with ⟨hc, h⟩ | ⟨hc, h⟩
    · refine (if_pos hc).trans ?_
      exact h
    · refine (if_neg hc).trans ?_
      obtain ⟨x6, M5, k3, h⟩ := iv_ci h; refine (cl_ci k3).trans ?_
      rcases iv_ite h with ⟨hc, h⟩ | ⟨hc, h⟩
      · refine (if_pos hc).trans ?_
        exact h
      · refine (if_neg hc).trans ?_
        refine (cl_gI (gk_219 hg)).trans ?_
        rcases iv_ite h with ⟨hc, h⟩ | ⟨hc, h⟩
        · refine (if_pos hc).trans ?_
          exact h
        · refine (if_neg hc).trans ?_
          refine (cl_gR (gk_219 hg) (gr_219_20 hg)).trans ?_
          refine (cl_gI (gk_219 hg)).trans ?_
          obtain ⟨k4, h⟩ := iv_ok h; refine (cl_is (gk_234 hg) k4).trans ?_
          replace h := iv_lt h
          refine (cl_gR (gk_219 hg) (gr_219_21 hg)).trans ?_
          refine (cl_gI (gk_219 hg)).trans ?_
          obtain ⟨k5, h⟩ := iv_ok h; refine (cl_is (gk_235 hg) k5).trans ?_
          replace h := iv_lt h
          refine (cl_gR (gk_219 hg) (gr_219_22 hg)).trans ?_
          refine (cl_gI (gk_219 hg)).trans ?_
          obtain ⟨k6, h⟩ := iv_ok h; refine (cl_is (gk_236 hg) k6).trans ?_
          replace h := iv_lt h
          refine (cl_gR (gk_219 hg) (gr_219_23 hg)).trans ?_
          refine (cl_gI (gk_219 hg)).trans ?_
          refine (cl_gI (gk_219 hg)).trans ?_
          obtain ⟨k7, h⟩ := iv_ok h; refine (cl_is (gk_237 hg) k7).trans ?_
          replace h := iv_lt h
          refine (cl_gI (gk_219 hg)).trans ?_
          refine (cl_pI (gk_219 hg)).trans ?_
          replace h := iv_lt h
          refine (cl_gI (gk_219 hg)).trans ?_
          exact h
theorem s_Model_wasShut {g : am_G} {F : am_FT} (hF : F = am_F T0 g) (hg : GG g) {v1 : Int32} {v2 : Int32} {v3 : Int32} {M : am_M} {r : am_R} (h : (
  am_ci (F 122 0 [.ref 219, .int v1] [] M) fun x2 M1 => /- Model_isWay -/
  if x2 = 0 then
    am_rt 1 ((-1)) M1
  else
    am_ci (F 53 0 [.int v2, .int 0, .int 299] [] M1) fun x4 M3 => /- Model_in -/
    if x4 = 0 then
      am_rt 1 ((-2)) M3
    else
      am_ci (F 53 0 [.int v3, .int 0, .int (fI M3 219 14)] [] M3) fun x6 M5 => /- Model_in -/
      if x6 = 0 then
        am_rt 1 ((-2)) M5
      else
        am_ci (F 57 0 [.ref 219, .int v1, .int v2, .int v3] [] M5) fun x8 M7 => /- Model_isShut -/
        if x8 = 0 then
          am_rt 1 0 M7
        else
          am_rt 1 1 M7) = some r) : F 194 0 [.ref 219, .int v1, .int v2, .int v3] [] M = some r := by
  refine e_Model_wasShut hF ?_
  refine (cl_rc (gk_219 hg)).trans ?_
  obtain ⟨x2, M1, k1, h⟩ := iv_ci h; refine (cl_ci k1).trans ?_
  rcases iv_ite h with ⟨hc, h⟩ | ⟨hc, h⟩
  · refine (if_pos hc).trans ?_
    exact h
  · refine (if_neg hc).trans ?_
    obtain ⟨x4, M3, k2, h⟩ := iv_ci h; refine (cl_ci k2).trans ?_
    rcases iv_ite h with ⟨hc, h⟩ | ⟨hc, h⟩
    · refine (if_pos hc).trans ?_
      exact h
    · refine (if_neg hc).trans ?_
      refine (cl_gI (gk_219 hg)).trans ?_
      obtain ⟨x6, M5, k3, h⟩ := iv_ci h; refine (cl_ci k3).trans ?_
      rcases iv_ite h with ⟨hc, h⟩ | ⟨hc, h⟩
      · refine (if_pos hc).trans ?_
        exact h
      · refine (if_neg hc).trans ?_
        refine (cl_rc (gk_219 hg)).trans ?_
        obtain ⟨x8, M7, k4, h⟩ := iv_ci h; refine (cl_ci k4).trans ?_
        rcases iv_ite h with ⟨hc, h⟩ | ⟨hc, h⟩
        · refine (if_pos hc).trans ?_
          exact h
        · refine (if_neg hc).trans ?_
          exact h
theorem s_Model_drivable {g : am_G} {F : am_FT} (hF : F = am_F T0 g) (hg : GG g) {v1 : Int32} {v2 : Int32} {v3 : Int32} {v4 : Int32} {M : am_M} {r : am_R} (h : (
  am_ci (F 117 0 [.ref 219, .int v1] [] M) fun x2 M1 => /- Model_isLeg -/
  if x2 = 0 then
    am_rt 1 ((-1)) M1
  else
    am_ci (F 53 0 [.int v2, .int 0, .int 299] [] M1) fun x4 M3 => /- Model_in -/
    if x4 = 0 then
      am_rt 1 ((-2)) M3
    else
      am_ci (F 116 0 [.int v3] [] M3) fun x6 M5 => /- Model_isHour -/
      if x6 = 0 then
        am_rt 1 ((-2)) M5
      else
        am_ci (F 53 0 [.int v4, .int 0, .int (fI M5 219 14)] [] M5) fun x8 M7 => /- Model_in -/
        if x8 = 0 then
          am_rt 1 ((-2)) M7
        else
          am_ci (F 184 0 [.ref 219, .int v1, .int v2, .int v3, .int v4] [] M7) fun x10 M9 => /- Model_isDrivable -/
          if x10 = 0 then
            am_rt 1 0 M9
          else
            am_rt 1 1 M9) = some r) : F 223 0 [.ref 219, .int v1, .int v2, .int v3, .int v4] [] M = some r := by
  refine e_Model_drivable hF ?_
  refine (cl_rc (gk_219 hg)).trans ?_
  obtain ⟨x2, M1, k1, h⟩ := iv_ci h; refine (cl_ci k1).trans ?_
  rcases iv_ite h with ⟨hc, h⟩ | ⟨hc, h⟩
  · refine (if_pos hc).trans ?_
    exact h
  · refine (if_neg hc).trans ?_
    obtain ⟨x4, M3, k2, h⟩ := iv_ci h; refine (cl_ci k2).trans ?_
    rcases iv_ite h with ⟨hc, h⟩ | ⟨hc, h⟩
    · refine (if_pos hc).trans ?_
      exact h
    · refine (if_neg hc).trans ?_
      obtain ⟨x6, M5, k3, h⟩ := iv_ci h; refine (cl_ci k3).trans ?_
      rcases iv_ite h with ⟨hc, h⟩ | ⟨hc, h⟩
      · refine (if_pos hc).trans ?_
        exact h
      · refine (if_neg hc).trans ?_
        refine (cl_gI (gk_219 hg)).trans ?_
        obtain ⟨x8, M7, k4, h⟩ := iv_ci h; refine (cl_ci k4).trans ?_
        rcases iv_ite h with ⟨hc, h⟩ | ⟨hc, h⟩
        · refine (if_pos hc).trans ?_
          exact h
        · refine (if_neg hc).trans ?_
          refine (cl_rc (gk_219 hg)).trans ?_
          obtain ⟨x10, M9, k5, h⟩ := iv_ci h; refine (cl_ci k5).trans ?_
          rcases iv_ite h with ⟨hc, h⟩ | ⟨hc, h⟩
          · refine (if_pos hc).trans ?_
            exact h
          · refine (if_neg hc).trans ?_
            exact h
theorem s_Model_isWrong {g : am_G} {F : am_FT} (hF : F = am_F T0 g) (hg : GG g) {v1 : Int32} {v2 : Int32} {v3 : Int32} {v4 : Int32} {M : am_M} {r : am_R} (h : (
  F 224 3 [.ref 219, .int v1, .int v2, .int v3, .int v4, .int 0] [] M) = some r) : F 224 0 [.ref 219, .int v1, .int v2, .int v3, .int v4] [] M = some r := by
  refine e_Model_isWrong hF ?_
  exact h
theorem s_Model_isWrong_3 {g : am_G} {F : am_FT} (hF : F = am_F T0 g) (hg : GG g) {v1 : Int32} {v2 : Int32} {v3 : Int32} {v4 : Int32} {v5 : Int32} {M : am_M} {r : am_R} (h : (
  am_ok 192 (((8 * v1) + 6)) <|
  if (rI M 256 (((8 * v1) + 6)).toNatClampNeg) ≤ v5 then
    am_rt 2 0 M
  else
    am_ok 1920 (((80 * v1) + v5)) <|
    am_ci (F 184 0 [.ref 219, .int (rI M 257 (((80 * v1) + v5)).toNatClampNeg), .int v2, .int v3, .int v4] [] M) fun x2 M1 => /- Model_isDrivable -/
    if x2 = 0 then
      am_rt 2 1 M1
    else
      if v5 ≤ 0 then
        F 224 3 [.ref 219, .int v1, .int v2, .int v3, .int v4, .int (v5 + 1)] [] M1
      else
        am_ok 1920 ((((80 * v1) + v5) - 1)) <|
        am_ci (F 54 0 [.ref 219, .int (rI M1 257 ((((80 * v1) + v5) - 1)).toNatClampNeg), .int (rI M 257 (((80 * v1) + v5)).toNatClampNeg), .int v2, .int v3] [] M1) fun x4 M3 => /- Model_isBanned -/
        if x4 = 0 then
          F 224 3 [.ref 219, .int v1, .int v2, .int v3, .int v4, .int (v5 + 1)] [] M3
        else
          am_rt 2 1 M3) = some r) : F 224 3 [.ref 219, .int v1, .int v2, .int v3, .int v4, .int v5] [] M = some r := by
  refine e_Model_isWrong_3 hF ?_
  refine (cl_gR (gk_219 hg) (gr_219_50 hg)).trans ?_
  obtain ⟨k1, h⟩ := iv_ok h; refine (cl_ia (gk_256 hg) k1).trans ?_
  rcases iv_ite h with ⟨hc, h⟩ | ⟨hc, h⟩
  · refine (if_pos hc).trans ?_
    exact h
  · refine (if_neg hc).trans ?_
    refine (cl_gR (gk_219 hg) (gr_219_51 hg)).trans ?_
    obtain ⟨k2, h⟩ := iv_ok h; refine (cl_ia (gk_257 hg) k2).trans ?_
    refine (cl_rc (gk_219 hg)).trans ?_
    obtain ⟨x2, M1, k3, h⟩ := iv_ci h; refine (cl_ci k3).trans ?_
    rcases iv_ite h with ⟨hc, h⟩ | ⟨hc, h⟩
    · refine (if_pos hc).trans ?_
      exact h
    · refine (if_neg hc).trans ?_
      rcases iv_ite h with ⟨hc, h⟩ | ⟨hc, h⟩
      · refine (if_pos hc).trans ?_
        exact h
      · refine (if_neg hc).trans ?_
        refine (cl_gR (gk_219 hg) (gr_219_51 hg)).trans ?_
        obtain ⟨k4, h⟩ := iv_ok h; refine (cl_ia (gk_257 hg) k4).trans ?_
        refine (cl_rc (gk_219 hg)).trans ?_
        obtain ⟨x4, M3, k5, h⟩ := iv_ci h; refine (cl_ci k5).trans ?_
        rcases iv_ite h with ⟨hc, h⟩ | ⟨hc, h⟩
        · refine (if_pos hc).trans ?_
          exact h
        · refine (if_neg hc).trans ?_
          exact h
theorem s_Model_mayGo {g : am_G} {F : am_FT} (hF : F = am_F T0 g) (hg : GG g) {v1 : Int32} {M : am_M} {r : am_R} (h : (
  if (fI M 219 56) = (-1) then
    am_ci (F 184 0 [.ref 219, .int v1, .int (fI M 219 57), .int (fI M 219 58), .int (fI M 219 59)] [] M) fun x6 M5 => /- Model_isDrivable -/
    am_rt 2 x6 M5
  else
    am_dv 2 <|
    am_ok 40 ((v1 / 2)) <|
    if (rI M 227 ((v1 / 2)).toNatClampNeg) = 0 then
      am_dv 2 <|
      am_ci (F 118 0 [.ref 219, .int (v1 / 2), .int (fI M 219 58)] [] M) fun x2 M1 => /- Model_isOpen -/
      if x2 = 0 then
        am_rt 2 0 M1
      else
        am_rt 2 1 M1
    else
      am_dv 2 <|
      if (v1 - v1 / 2 * 2) = 1 then
        am_rt 2 0 M
      else
        am_dv 2 <|
        am_ci (F 118 0 [.ref 219, .int (v1 / 2), .int (fI M 219 58)] [] M) fun x4 M3 => /- Model_isOpen -/
        if x4 = 0 then
          am_rt 2 0 M3
        else
          am_rt 2 1 M3) = some r) : F 225 0 [.ref 219, .int v1] [] M = some r := by
  refine e_Model_mayGo hF ?_
  refine (cl_gI (gk_219 hg)).trans ?_
  rcases iv_ite h with ⟨hc, h⟩ | ⟨hc, h⟩
  · refine (if_pos hc).trans ?_
    refine (cl_gI (gk_219 hg)).trans ?_
    refine (cl_gI (gk_219 hg)).trans ?_
    refine (cl_gI (gk_219 hg)).trans ?_
    refine (cl_rc (gk_219 hg)).trans ?_
    obtain ⟨x6, M5, k8, h⟩ := iv_ci h; refine (cl_ci k8).trans ?_
    exact h
  · refine (if_neg hc).trans ?_
    refine (cl_gR (gk_219 hg) (gr_219_9 hg)).trans ?_
    obtain ⟨k1, h⟩ := iv_dv h; refine (cl_dv k1).trans ?_
    obtain ⟨k2, h⟩ := iv_ok h; refine (cl_za (gk_227 hg) k2).trans ?_
    rcases iv_ite h with ⟨hc, h⟩ | ⟨hc, h⟩
    · refine (if_pos hc).trans ?_
      obtain ⟨k3, h⟩ := iv_dv h; refine (cl_dv k3).trans ?_
      refine (cl_gI (gk_219 hg)).trans ?_
      refine (cl_rc (gk_219 hg)).trans ?_
      obtain ⟨x2, M1, k4, h⟩ := iv_ci h; refine (cl_ci k4).trans ?_
      rcases iv_ite h with ⟨hc, h⟩ | ⟨hc, h⟩
      · refine (if_pos hc).trans ?_
        exact h
      · refine (if_neg hc).trans ?_
        exact h
    · refine (if_neg hc).trans ?_
      obtain ⟨k5, h⟩ := iv_dv h; refine (cl_dv k5).trans ?_
      rcases iv_ite h with ⟨hc, h⟩ | ⟨hc, h⟩
      · refine (if_pos hc).trans ?_
        exact h
      · refine (if_neg hc).trans ?_
        obtain ⟨k6, h⟩ := iv_dv h; refine (cl_dv k6).trans ?_
        refine (cl_gI (gk_219 hg)).trans ?_
        refine (cl_rc (gk_219 hg)).trans ?_
        obtain ⟨x4, M3, k7, h⟩ := iv_ci h; refine (cl_ci k7).trans ?_
        rcases iv_ite h with ⟨hc, h⟩ | ⟨hc, h⟩
        · refine (if_pos hc).trans ?_
          exact h
        · refine (if_neg hc).trans ?_
          exact h
theorem s_Model_testRead {g : am_G} {F : am_FT} (hF : F = am_F T0 g) (hg : GG g) {M : am_M} {r : am_R} (h : (
  am_ci (F 52 0 [.ref 219] [] M) fun x2 M1 => /- Model_here -/
  if x2 = 102 then
    am_cv (F 181 0 [.ref 219, .int 102, .int 101, .int 101, .int 116] [] M1) fun M3 => /- Model_eats4 -/
    F 226 171 [.ref 219, .int 4] [] M3
  else
  if x2 = 111 then
    am_cv (F 181 0 [.ref 219, .int 111, .int 118, .int 101, .int 114] [] M1) fun M4 => /- Model_eats4 -/
    F 226 171 [.ref 219, .int 2] [] M4
  else
  if x2 = 115 then
    am_cv (F 181 0 [.ref 219, .int 115, .int 97, .int 105, .int 100] [] M1) fun M5 => /- Model_eats4 -/
    F 226 171 [.ref 219, .int 0] [] M5
  else
  if x2 = 116 then
    am_cv (F 181 0 [.ref 219, .int 116, .int 117, .int 114, .int 110] [] M1) fun M6 => /- Model_eats4 -/
    am_cv (F 110 0 [.ref 219, .int 115] [] M6) fun M7 => /- Model_eats -/
    F 226 171 [.ref 219, .int 3] [] M7
  else
  if x2 = 119 then
    am_cv (F 181 0 [.ref 219, .int 119, .int 114, .int 111, .int 110] [] M1) fun M8 => /- Model_eats4 -/
    am_cv (F 110 0 [.ref 219, .int 103] [] M8) fun M9 => /- Model_eats -/
    F 226 171 [.ref 219, .int 1] [] M9
  else
    am_cv (F 110 0 [.ref 219, .int 100] [] M1) fun M10 => /- Model_eats -/
    am_cv (F 110 0 [.ref 219, .int 97] [] M10) fun M11 => /- Model_eats -/
    am_cv (F 110 0 [.ref 219, .int 121] [] M11) fun M12 => /- Model_eats -/
    F 226 171 [.ref 219, .int 5] [] M12) = some r) : F 226 0 [.ref 219] [] M = some r := by
  refine e_Model_testRead hF ?_
  refine (cl_rc (gk_219 hg)).trans ?_
  obtain ⟨x2, M1, k1, h⟩ := iv_ci h; refine (cl_ci k1).trans ?_
  rcases iv_ite h with ⟨hc, h⟩ | ⟨hc, h⟩
  · refine (if_pos hc).trans ?_
    refine (cl_rc (gk_219 hg)).trans ?_
    obtain ⟨M3, k2, h⟩ := iv_cv h; refine (cl_cv k2).trans ?_
    exact h
  · refine (if_neg hc).trans ?_
    rcases iv_ite h with ⟨hc, h⟩ | ⟨hc, h⟩
    · refine (if_pos hc).trans ?_
      refine (cl_rc (gk_219 hg)).trans ?_
      obtain ⟨M4, k3, h⟩ := iv_cv h; refine (cl_cv k3).trans ?_
      exact h
    · refine (if_neg hc).trans ?_
      rcases iv_ite h with ⟨hc, h⟩ | ⟨hc, h⟩
      · refine (if_pos hc).trans ?_
        refine (cl_rc (gk_219 hg)).trans ?_
        obtain ⟨M5, k4, h⟩ := iv_cv h; refine (cl_cv k4).trans ?_
        exact h
      · refine (if_neg hc).trans ?_
        rcases iv_ite h with ⟨hc, h⟩ | ⟨hc, h⟩
        · refine (if_pos hc).trans ?_
          refine (cl_rc (gk_219 hg)).trans ?_
          obtain ⟨M6, k5, h⟩ := iv_cv h; refine (cl_cv k5).trans ?_
          refine (cl_rc (gk_219 hg)).trans ?_
          obtain ⟨M7, k6, h⟩ := iv_cv h; refine (cl_cv k6).trans ?_
          exact h
        · refine (if_neg hc).trans ?_
          rcases iv_ite h with ⟨hc, h⟩ | ⟨hc, h⟩
          · refine (if_pos hc).trans ?_
            refine (cl_rc (gk_219 hg)).trans ?_
            obtain ⟨M8, k7, h⟩ := iv_cv h; refine (cl_cv k7).trans ?_
            refine (cl_rc (gk_219 hg)).trans ?_
            obtain ⟨M9, k8, h⟩ := iv_cv h; refine (cl_cv k8).trans ?_
            exact h
          · refine (if_neg hc).trans ?_
            refine (cl_rc (gk_219 hg)).trans ?_
            obtain ⟨M10, k9, h⟩ := iv_cv h; refine (cl_cv k9).trans ?_
            refine (cl_rc (gk_219 hg)).trans ?_
            obtain ⟨M11, k10, h⟩ := iv_cv h; refine (cl_cv k10).trans ?_
            refine (cl_rc (gk_219 hg)).trans ?_
            obtain ⟨M12, k11, h⟩ := iv_cv h; refine (cl_cv k11).trans ?_
            exact h
theorem s_Model_testRead_171 {g : am_G} {F : am_FT} (hF : F = am_F T0 g) (hg : GG g) {v1 : Int32} {M : am_M} {r : am_R} (h : (
  am_ci (F 52 0 [.ref 219] [] M) fun x2 M1 => /- Model_here -/
  if (fI M1 219 92) = 0 then
    if x2 = 61 then
      am_lt (fW M1 219 75 (((fI M1 219 75) + 1))) fun M10 =>
      if x2 = 61 then
        am_ci (F 126 0 [.ref 219] [] M10) fun x16 M15 => /- Model_number -/
        am_rt 1 ((((100000 * v1) + ((10000 : Int32) * 0)) + x16)) M15
      else
        if x2 = 60 then
          am_ci (F 126 0 [.ref 219] [] M10) fun x14 M13 => /- Model_number -/
          am_rt 1 ((((100000 * v1) + ((10000 : Int32) * 1)) + x14)) M13
        else
          am_ci (F 126 0 [.ref 219] [] M10) fun x12 M11 => /- Model_number -/
          am_rt 1 ((((100000 * v1) + ((10000 : Int32) * 2)) + x12)) M11
    else
      if x2 = 60 then
        am_lt (fW M1 219 75 (((fI M1 219 75) + 1))) fun M17 =>
        if x2 = 61 then
          am_ci (F 126 0 [.ref 219] [] M17) fun x23 M22 => /- Model_number -/
          am_rt 1 ((((100000 * v1) + ((10000 : Int32) * 0)) + x23)) M22
        else
          if x2 = 60 then
            am_ci (F 126 0 [.ref 219] [] M17) fun x21 M20 => /- Model_number -/
            am_rt 1 ((((100000 * v1) + ((10000 : Int32) * 1)) + x21)) M20
          else
            am_ci (F 126 0 [.ref 219] [] M17) fun x19 M18 => /- Model_number -/
            am_rt 1 ((((100000 * v1) + ((10000 : Int32) * 2)) + x19)) M18
      else
        if x2 = 62 then
          am_lt (fW M1 219 75 (((fI M1 219 75) + 1))) fun M31 =>
          if x2 = 61 then
            am_ci (F 126 0 [.ref 219] [] M31) fun x37 M36 => /- Model_number -/
            am_rt 1 ((((100000 * v1) + ((10000 : Int32) * 0)) + x37)) M36
          else
            if x2 = 60 then
              am_ci (F 126 0 [.ref 219] [] M31) fun x35 M34 => /- Model_number -/
              am_rt 1 ((((100000 * v1) + ((10000 : Int32) * 1)) + x35)) M34
            else
              am_ci (F 126 0 [.ref 219] [] M31) fun x33 M32 => /- Model_number -/
              am_rt 1 ((((100000 * v1) + ((10000 : Int32) * 2)) + x33)) M32
        else
          okb 1 <|
          am_lt (fW M1 219 92 1) fun M24 =>
          if x2 = 61 then
            am_ci (F 126 0 [.ref 219] [] M24) fun x30 M29 => /- Model_number -/
            am_rt 1 ((((100000 * v1) + ((10000 : Int32) * 0)) + x30)) M29
          else
            if x2 = 60 then
              am_ci (F 126 0 [.ref 219] [] M24) fun x28 M27 => /- Model_number -/
              am_rt 1 ((((100000 * v1) + ((10000 : Int32) * 1)) + x28)) M27
            else
              am_ci (F 126 0 [.ref 219] [] M24) fun x26 M25 => /- Model_number -/
              am_rt 1 ((((100000 * v1) + ((10000 : Int32) * 2)) + x26)) M25
  else
    okb 1 <|
    am_lt (fW M1 219 92 1) fun M3 =>
    if x2 = 61 then
      am_ci (F 126 0 [.ref 219] [] M3) fun x9 M8 => /- Model_number -/
      am_rt 1 ((((100000 * v1) + ((10000 : Int32) * 0)) + x9)) M8
    else
      if x2 = 60 then
        am_ci (F 126 0 [.ref 219] [] M3) fun x7 M6 => /- Model_number -/
        am_rt 1 ((((100000 * v1) + ((10000 : Int32) * 1)) + x7)) M6
      else
        am_ci (F 126 0 [.ref 219] [] M3) fun x5 M4 => /- Model_number -/
        am_rt 1 ((((100000 * v1) + ((10000 : Int32) * 2)) + x5)) M4) = some r) : F 226 171 [.ref 219, .int v1] [] M = some r := by
  refine e_Model_testRead_171 hF ?_
  refine (cl_rc (gk_219 hg)).trans ?_
  obtain ⟨x2, M1, k1, h⟩ := iv_ci h; refine (cl_ci k1).trans ?_
  refine (cl_gI (gk_219 hg)).trans ?_
  rcases iv_ite h with ⟨hc, h⟩ | ⟨hc, h⟩
  · refine (if_pos hc).trans ?_
    rcases iv_ite h with ⟨hc, h⟩ | ⟨hc, h⟩
    · refine (if_pos hc).trans ?_
      refine (cl_gI (gk_219 hg)).trans ?_
      refine (cl_pI (gk_219 hg)).trans ?_
      replace h := iv_lt h
      rcases iv_ite h with ⟨hc, h⟩ | ⟨hc, h⟩
      · refine (if_pos hc).trans ?_
        refine (cl_rc (gk_219 hg)).trans ?_
        obtain ⟨x16, M15, k8, h⟩ := iv_ci h; refine (cl_ci k8).trans ?_
        exact h
      · refine (if_neg hc).trans ?_
        rcases iv_ite h with ⟨hc, h⟩ | ⟨hc, h⟩
        · refine (if_pos hc).trans ?_
          refine (cl_rc (gk_219 hg)).trans ?_
          obtain ⟨x14, M13, k7, h⟩ := iv_ci h; refine (cl_ci k7).trans ?_
          exact h
        · refine (if_neg hc).trans ?_
          refine (cl_rc (gk_219 hg)).trans ?_
          obtain ⟨x12, M11, k6, h⟩ := iv_ci h; refine (cl_ci k6).trans ?_
          exact h
    · refine (if_neg hc).trans ?_
      rcases iv_ite h with ⟨hc, h⟩ | ⟨hc, h⟩
      · refine (if_pos hc).trans ?_
        refine (cl_gI (gk_219 hg)).trans ?_
        refine (cl_pI (gk_219 hg)).trans ?_
        replace h := iv_lt h
        rcases iv_ite h with ⟨hc, h⟩ | ⟨hc, h⟩
        · refine (if_pos hc).trans ?_
          refine (cl_rc (gk_219 hg)).trans ?_
          obtain ⟨x23, M22, k11, h⟩ := iv_ci h; refine (cl_ci k11).trans ?_
          exact h
        · refine (if_neg hc).trans ?_
          rcases iv_ite h with ⟨hc, h⟩ | ⟨hc, h⟩
          · refine (if_pos hc).trans ?_
            refine (cl_rc (gk_219 hg)).trans ?_
            obtain ⟨x21, M20, k10, h⟩ := iv_ci h; refine (cl_ci k10).trans ?_
            exact h
          · refine (if_neg hc).trans ?_
            refine (cl_rc (gk_219 hg)).trans ?_
            obtain ⟨x19, M18, k9, h⟩ := iv_ci h; refine (cl_ci k9).trans ?_
            exact h
      · refine (if_neg hc).trans ?_
        rcases iv_ite h with ⟨hc, h⟩ | ⟨hc, h⟩
        · refine (if_pos hc).trans ?_
          refine (cl_gI (gk_219 hg)).trans ?_
          refine (cl_pI (gk_219 hg)).trans ?_
          replace h := iv_lt h
          rcases iv_ite h with ⟨hc, h⟩ | ⟨hc, h⟩
          · refine (if_pos hc).trans ?_
            refine (cl_rc (gk_219 hg)).trans ?_
            obtain ⟨x37, M36, k18, h⟩ := iv_ci h; refine (cl_ci k18).trans ?_
            exact h
          · refine (if_neg hc).trans ?_
            rcases iv_ite h with ⟨hc, h⟩ | ⟨hc, h⟩
            · refine (if_pos hc).trans ?_
              refine (cl_rc (gk_219 hg)).trans ?_
              obtain ⟨x35, M34, k17, h⟩ := iv_ci h; refine (cl_ci k17).trans ?_
              exact h
            · refine (if_neg hc).trans ?_
              refine (cl_rc (gk_219 hg)).trans ?_
              obtain ⟨x33, M32, k16, h⟩ := iv_ci h; refine (cl_ci k16).trans ?_
              exact h
        · refine (if_neg hc).trans ?_
          obtain ⟨k12, h⟩ := iv_okb h; refine (cl_pZ k12 (gk_219 hg)).trans ?_
          replace h := iv_lt h
          rcases iv_ite h with ⟨hc, h⟩ | ⟨hc, h⟩
          · refine (if_pos hc).trans ?_
            refine (cl_rc (gk_219 hg)).trans ?_
            obtain ⟨x30, M29, k15, h⟩ := iv_ci h; refine (cl_ci k15).trans ?_
            exact h
          · refine (if_neg hc).trans ?_
            rcases iv_ite h with ⟨hc, h⟩ | ⟨hc, h⟩
            · refine (if_pos hc).trans ?_
              refine (cl_rc (gk_219 hg)).trans ?_
              obtain ⟨x28, M27, k14, h⟩ := iv_ci h; refine (cl_ci k14).trans ?_
              exact h
            · refine (if_neg hc).trans ?_
              refine (cl_rc (gk_219 hg)).trans ?_
              obtain ⟨x26, M25, k13, h⟩ := iv_ci h; refine (cl_ci k13).trans ?_
              exact h
  · refine (if_neg hc).trans ?_
    obtain ⟨k2, h⟩ := iv_okb h; refine (cl_pZ k2 (gk_219 hg)).trans ?_
    replace h := iv_lt h
    rcases iv_ite h with ⟨hc, h⟩ | ⟨hc, h⟩
    · refine (if_pos hc).trans ?_
      refine (cl_rc (gk_219 hg)).trans ?_
      obtain ⟨x9, M8, k5, h⟩ := iv_ci h; refine (cl_ci k5).trans ?_
      exact h
    · refine (if_neg hc).trans ?_
      rcases iv_ite h with ⟨hc, h⟩ | ⟨hc, h⟩
      · refine (if_pos hc).trans ?_
        refine (cl_rc (gk_219 hg)).trans ?_
        obtain ⟨x7, M6, k4, h⟩ := iv_ci h; refine (cl_ci k4).trans ?_
        exact h
      · refine (if_neg hc).trans ?_
        refine (cl_rc (gk_219 hg)).trans ?_
        obtain ⟨x5, M4, k3, h⟩ := iv_ci h; refine (cl_ci k3).trans ?_
        exact h
theorem s_Model_turnRead {g : am_G} {F : am_FT} (hF : F = am_F T0 g) (hg : GG g) {M : am_M} {r : am_R} (h : (
  am_ci (F 188 0 [.ref 219] [] M) fun x2 M1 => /- Model_leftRight -/
  if x2 = (-1) then
    am_ci (F 120 0 [.ref 219, .int 97, .int 104, .int 101, .int 97, .int 100] [] M1) fun x13 M12 => /- Model_isSaid -/
    if x13 = 0 then
      if x2 = (-1) then
        am_cj (F 65 0 [.int 99, .int 111, .int 109, .int 112, .int 108] [] M12) fun l19 M18 => /- Model_wordOf -/
        if (lg_cmp ((fJ M12 219 77)) (((l19 <<< ((8 : Int32).toInt64 &&& 63)) ||| 121))) = 0 then
          am_cv (F 61 0 [.ref 219] [] M18) fun M20 => /- Model_skips -/
          if (fI M20 219 36) ≤ ((fI M20 219 75) + 1) then
            F 227 111 [.ref 219] [.int 0] M20
          else
            am_ok 160 (((fI M20 219 75) + 1)) <|
            am_ci (F 53 0 [.int (rI M20 246 (((fI M20 219 75) + 1)).toNatClampNeg), .int 48, .int 57] [] M20) fun x22 M21 => /- Model_in -/
            if x22 = 0 then
              F 227 111 [.ref 219] [.int 0] M21
            else
              F 227 111 [.ref 219] [.int 1] M21
        else
          am_rt 2 0 M18
      else
        am_cv (F 134 0 [.ref 219] [] M12) fun M14 => /- Model_reads -/
        if (lg_cmp ((fJ M14 219 77)) 0) = 0 then
          am_rt 2 0 M14
        else
          am_ok 20 ((fI M14 219 78)) <|
          am_lt (wI M14 266 ((fI M14 219 78)).toNatClampNeg x2) fun M15 =>
          am_ok 20 ((fI M15 219 78)) <|
          am_lt (wJ M15 267 ((fI M15 219 78)).toNatClampNeg ((fJ M15 219 77))) fun M16 =>
          am_lt (fW M16 219 78 (((fI M16 219 78) + 1))) fun M17 =>
          am_rt 2 1 M17
    else
      if (2 : Int32) = (-1) then
        am_cj (F 65 0 [.int 99, .int 111, .int 109, .int 112, .int 108] [] M12) fun l28 M27 => /- Model_wordOf -/
        if (lg_cmp ((fJ M12 219 77)) (((l28 <<< ((8 : Int32).toInt64 &&& 63)) ||| 121))) = 0 then
          am_cv (F 61 0 [.ref 219] [] M27) fun M29 => /- Model_skips -/
          if (fI M29 219 36) ≤ ((fI M29 219 75) + 1) then
            F 227 111 [.ref 219] [.int 0] M29
          else
            am_ok 160 (((fI M29 219 75) + 1)) <|
            am_ci (F 53 0 [.int (rI M29 246 (((fI M29 219 75) + 1)).toNatClampNeg), .int 48, .int 57] [] M29) fun x31 M30 => /- Model_in -/
            if x31 = 0 then
              F 227 111 [.ref 219] [.int 0] M30
            else
              F 227 111 [.ref 219] [.int 1] M30
        else
          am_rt 2 0 M27
      else
        am_cv (F 134 0 [.ref 219] [] M12) fun M23 => /- Model_reads -/
        if (lg_cmp ((fJ M23 219 77)) 0) = 0 then
          am_rt 2 0 M23
        else
          am_ok 20 ((fI M23 219 78)) <|
          am_lt (wI M23 266 ((fI M23 219 78)).toNatClampNeg 2) fun M24 =>
          am_ok 20 ((fI M24 219 78)) <|
          am_lt (wJ M24 267 ((fI M24 219 78)).toNatClampNeg ((fJ M24 219 77))) fun M25 =>
          am_lt (fW M25 219 78 (((fI M25 219 78) + 1))) fun M26 =>
          am_rt 2 1 M26
  else
    if x2 = (-1) then
      am_cj (F 65 0 [.int 99, .int 111, .int 109, .int 112, .int 108] [] M1) fun l8 M7 => /- Model_wordOf -/
      if (lg_cmp ((fJ M1 219 77)) (((l8 <<< ((8 : Int32).toInt64 &&& 63)) ||| 121))) = 0 then
        am_cv (F 61 0 [.ref 219] [] M7) fun M9 => /- Model_skips -/
        if (fI M9 219 36) ≤ ((fI M9 219 75) + 1) then
          F 227 111 [.ref 219] [.int 0] M9
        else
          am_ok 160 (((fI M9 219 75) + 1)) <|
          am_ci (F 53 0 [.int (rI M9 246 (((fI M9 219 75) + 1)).toNatClampNeg), .int 48, .int 57] [] M9) fun x11 M10 => /- Model_in -/
          if x11 = 0 then
            F 227 111 [.ref 219] [.int 0] M10
          else
            F 227 111 [.ref 219] [.int 1] M10
      else
        am_rt 2 0 M7
    else
      am_cv (F 134 0 [.ref 219] [] M1) fun M3 => /- Model_reads -/
      if (lg_cmp ((fJ M3 219 77)) 0) = 0 then
        am_rt 2 0 M3
      else
        am_ok 20 ((fI M3 219 78)) <|
        am_lt (wI M3 266 ((fI M3 219 78)).toNatClampNeg x2) fun M4 =>
        am_ok 20 ((fI M4 219 78)) <|
        am_lt (wJ M4 267 ((fI M4 219 78)).toNatClampNeg ((fJ M4 219 77))) fun M5 =>
        am_lt (fW M5 219 78 (((fI M5 219 78) + 1))) fun M6 =>
        am_rt 2 1 M6) = some r) : F 227 0 [.ref 219] [] M = some r := by
  refine e_Model_turnRead hF ?_
  refine (cl_rc (gk_219 hg)).trans ?_
  obtain ⟨x2, M1, k1, h⟩ := iv_ci h; refine (cl_ci k1).trans ?_
  rcases iv_ite h with ⟨hc, h⟩ | ⟨hc, h⟩
  · refine (if_pos hc).trans ?_
    refine (cl_rc (gk_219 hg)).trans ?_
    obtain ⟨x13, M12, k9, h⟩ := iv_ci h; refine (cl_ci k9).trans ?_
    rcases iv_ite h with ⟨hc, h⟩ | ⟨hc, h⟩
    · refine (if_pos hc).trans ?_
      rcases iv_ite h with ⟨hc, h⟩ | ⟨hc, h⟩
      · refine (if_pos hc).trans ?_
        refine (cl_gJ (gk_219 hg)).trans ?_
        obtain ⟨l19, M18, k13, h⟩ := iv_cj h; refine (cl_cj k13).trans ?_
        rcases iv_ite h with ⟨hc, h⟩ | ⟨hc, h⟩
        · refine (if_pos hc).trans ?_
          refine (cl_rc (gk_219 hg)).trans ?_
          obtain ⟨M20, k14, h⟩ := iv_cv h; refine (cl_cv k14).trans ?_
          refine (cl_gI (gk_219 hg)).trans ?_
          refine (cl_gI (gk_219 hg)).trans ?_
          rcases iv_ite h with ⟨hc, h⟩ | ⟨hc, h⟩
          · refine (if_pos hc).trans ?_
            exact h
          · refine (if_neg hc).trans ?_
            refine (cl_gR (gk_219 hg) (gr_219_35 hg)).trans ?_
            refine (cl_gI (gk_219 hg)).trans ?_
            obtain ⟨k15, h⟩ := iv_ok h; refine (cl_ia (gk_246 hg) k15).trans ?_
            obtain ⟨x22, M21, k16, h⟩ := iv_ci h; refine (cl_ci k16).trans ?_
            rcases iv_ite h with ⟨hc, h⟩ | ⟨hc, h⟩
            · refine (if_pos hc).trans ?_
              exact h
            · refine (if_neg hc).trans ?_
              exact h
        · refine (if_neg hc).trans ?_
          exact h
      · refine (if_neg hc).trans ?_
        refine (cl_rc (gk_219 hg)).trans ?_
        obtain ⟨M14, k10, h⟩ := iv_cv h; refine (cl_cv k10).trans ?_
        refine (cl_gJ (gk_219 hg)).trans ?_
        rcases iv_ite h with ⟨hc, h⟩ | ⟨hc, h⟩
        · refine (if_pos hc).trans ?_
          exact h
        · refine (if_neg hc).trans ?_
          refine (cl_gR (gk_219 hg) (gr_219_79 hg)).trans ?_
          refine (cl_gI (gk_219 hg)).trans ?_
          obtain ⟨k11, h⟩ := iv_ok h; refine (cl_is (gk_266 hg) k11).trans ?_
          replace h := iv_lt h
          refine (cl_gR (gk_219 hg) (gr_219_80 hg)).trans ?_
          refine (cl_gI (gk_219 hg)).trans ?_
          refine (cl_gJ (gk_219 hg)).trans ?_
          obtain ⟨k12, h⟩ := iv_ok h; refine (cl_ls (gk_267 hg) k12).trans ?_
          replace h := iv_lt h
          refine (cl_gI (gk_219 hg)).trans ?_
          refine (cl_pI (gk_219 hg)).trans ?_
          replace h := iv_lt h
          exact h
    · refine (if_neg hc).trans ?_
      rcases iv_ite h with ⟨hc, h⟩ | ⟨hc, h⟩
      · refine (if_pos hc).trans ?_
        refine (cl_gJ (gk_219 hg)).trans ?_
        obtain ⟨l28, M27, k20, h⟩ := iv_cj h; refine (cl_cj k20).trans ?_
        rcases iv_ite h with ⟨hc, h⟩ | ⟨hc, h⟩
        · refine (if_pos hc).trans ?_
          refine (cl_rc (gk_219 hg)).trans ?_
          obtain ⟨M29, k21, h⟩ := iv_cv h; refine (cl_cv k21).trans ?_
          refine (cl_gI (gk_219 hg)).trans ?_
          refine (cl_gI (gk_219 hg)).trans ?_
          rcases iv_ite h with ⟨hc, h⟩ | ⟨hc, h⟩
          · refine (if_pos hc).trans ?_
            exact h
          · refine (if_neg hc).trans ?_
            refine (cl_gR (gk_219 hg) (gr_219_35 hg)).trans ?_
            refine (cl_gI (gk_219 hg)).trans ?_
            obtain ⟨k22, h⟩ := iv_ok h; refine (cl_ia (gk_246 hg) k22).trans ?_
            obtain ⟨x31, M30, k23, h⟩ := iv_ci h; refine (cl_ci k23).trans ?_
            rcases iv_ite h with ⟨hc, h⟩ | ⟨hc, h⟩
            · refine (if_pos hc).trans ?_
              exact h
            · refine (if_neg hc).trans ?_
              exact h
        · refine (if_neg hc).trans ?_
          exact h
      · refine (if_neg hc).trans ?_
        refine (cl_rc (gk_219 hg)).trans ?_
        obtain ⟨M23, k17, h⟩ := iv_cv h; refine (cl_cv k17).trans ?_
        refine (cl_gJ (gk_219 hg)).trans ?_
        rcases iv_ite h with ⟨hc, h⟩ | ⟨hc, h⟩
        · refine (if_pos hc).trans ?_
          exact h
        · refine (if_neg hc).trans ?_
          refine (cl_gR (gk_219 hg) (gr_219_79 hg)).trans ?_
          refine (cl_gI (gk_219 hg)).trans ?_
          obtain ⟨k18, h⟩ := iv_ok h; refine (cl_is (gk_266 hg) k18).trans ?_
          replace h := iv_lt h
          refine (cl_gR (gk_219 hg) (gr_219_80 hg)).trans ?_
          refine (cl_gI (gk_219 hg)).trans ?_
          refine (cl_gJ (gk_219 hg)).trans ?_
          obtain ⟨k19, h⟩ := iv_ok h; refine (cl_ls (gk_267 hg) k19).trans ?_
          replace h := iv_lt h
          refine (cl_gI (gk_219 hg)).trans ?_
          refine (cl_pI (gk_219 hg)).trans ?_
          replace h := iv_lt h
          exact h
  · refine (if_neg hc).trans ?_
    rcases iv_ite h with ⟨hc, h⟩ | ⟨hc, h⟩
    · refine (if_pos hc).trans ?_
      refine (cl_gJ (gk_219 hg)).trans ?_
      obtain ⟨l8, M7, k5, h⟩ := iv_cj h; refine (cl_cj k5).trans ?_
      rcases iv_ite h with ⟨hc, h⟩ | ⟨hc, h⟩
      · refine (if_pos hc).trans ?_
        refine (cl_rc (gk_219 hg)).trans ?_
        obtain ⟨M9, k6, h⟩ := iv_cv h; refine (cl_cv k6).trans ?_
        refine (cl_gI (gk_219 hg)).trans ?_
        refine (cl_gI (gk_219 hg)).trans ?_
        rcases iv_ite h with ⟨hc, h⟩ | ⟨hc, h⟩
        · refine (if_pos hc).trans ?_
          exact h
        · refine (if_neg hc).trans ?_
          refine (cl_gR (gk_219 hg) (gr_219_35 hg)).trans ?_
          refine (cl_gI (gk_219 hg)).trans ?_
          obtain ⟨k7, h⟩ := iv_ok h; refine (cl_ia (gk_246 hg) k7).trans ?_
          obtain ⟨x11, M10, k8, h⟩ := iv_ci h; refine (cl_ci k8).trans ?_
          rcases iv_ite h with ⟨hc, h⟩ | ⟨hc, h⟩
          · refine (if_pos hc).trans ?_
            exact h
          · refine (if_neg hc).trans ?_
            exact h
      · refine (if_neg hc).trans ?_
        exact h
    · refine (if_neg hc).trans ?_
      refine (cl_rc (gk_219 hg)).trans ?_
      obtain ⟨M3, k2, h⟩ := iv_cv h; refine (cl_cv k2).trans ?_
      refine (cl_gJ (gk_219 hg)).trans ?_
      rcases iv_ite h with ⟨hc, h⟩ | ⟨hc, h⟩
      · refine (if_pos hc).trans ?_
        exact h
      · refine (if_neg hc).trans ?_
        refine (cl_gR (gk_219 hg) (gr_219_79 hg)).trans ?_
        refine (cl_gI (gk_219 hg)).trans ?_
        obtain ⟨k3, h⟩ := iv_ok h; refine (cl_is (gk_266 hg) k3).trans ?_
        replace h := iv_lt h
        refine (cl_gR (gk_219 hg) (gr_219_80 hg)).trans ?_
        refine (cl_gI (gk_219 hg)).trans ?_
        refine (cl_gJ (gk_219 hg)).trans ?_
        obtain ⟨k4, h⟩ := iv_ok h; refine (cl_ls (gk_267 hg) k4).trans ?_
        replace h := iv_lt h
        refine (cl_gI (gk_219 hg)).trans ?_
        refine (cl_pI (gk_219 hg)).trans ?_
        replace h := iv_lt h
        exact h
theorem s_Model_turnRead_111 {g : am_G} {F : am_FT} (hF : F = am_F T0 g) (hg : GG g) {vs0 : Int32} {M : am_M} {r : am_R} (h : (
  if (fI M 219 36) ≤ (fI M 219 75) then
    am_rt 2 0 M
  else
    am_ok 160 ((fI M 219 75)) <|
    am_ci (F 53 0 [.int (rI M 246 ((fI M 219 75)).toNatClampNeg), .int 49, .int 57] [] M) fun x2 M1 => /- Model_in -/
    if x2 = 0 then
      am_rt 2 0 M1
    else
      if vs0 = 0 then
        am_ok 160 ((fI M1 219 75)) <|
        am_lt (fW M1 219 75 (((fI M1 219 75) + 1))) fun M3 =>
        am_cv (F 134 0 [.ref 219] [] M3) fun M4 => /- Model_reads -/
        if (lg_cmp ((fJ M4 219 77)) 0) = 0 then
          am_rt 2 0 M4
        else
          am_ok 20 ((fI M4 219 78)) <|
          am_lt (wI M4 266 ((fI M4 219 78)).toNatClampNeg (((2 + (rI M1 246 ((fI M1 219 75)).toNatClampNeg)) - 48))) fun M5 =>
          am_ok 20 ((fI M5 219 78)) <|
          am_lt (wJ M5 267 ((fI M5 219 78)).toNatClampNeg ((fJ M5 219 77))) fun M6 =>
          am_lt (fW M6 219 78 (((fI M6 219 78) + 1))) fun M7 =>
          am_rt 2 1 M7
      else
        am_rt 2 0 M1) = some r) : F 227 111 [.ref 219] [.int vs0] M = some r := by
  refine e_Model_turnRead_111 hF ?_
  refine (cl_gI (gk_219 hg)).trans ?_
  refine (cl_gI (gk_219 hg)).trans ?_
  rcases iv_ite h with ⟨hc, h⟩ | ⟨hc, h⟩
  · refine (if_pos hc).trans ?_
    exact h
  · refine (if_neg hc).trans ?_
    refine (cl_gR (gk_219 hg) (gr_219_35 hg)).trans ?_
    refine (cl_gI (gk_219 hg)).trans ?_
    obtain ⟨k1, h⟩ := iv_ok h; refine (cl_ia (gk_246 hg) k1).trans ?_
    obtain ⟨x2, M1, k2, h⟩ := iv_ci h; refine (cl_ci k2).trans ?_
    rcases iv_ite h with ⟨hc, h⟩ | ⟨hc, h⟩
    · refine (if_pos hc).trans ?_
      exact h
    · refine (if_neg hc).trans ?_
      rcases iv_ite h with ⟨hc, h⟩ | ⟨hc, h⟩
      · refine (if_pos hc).trans ?_
        refine (cl_gR (gk_219 hg) (gr_219_35 hg)).trans ?_
        refine (cl_gI (gk_219 hg)).trans ?_
        obtain ⟨k3, h⟩ := iv_ok h; refine (cl_ia (gk_246 hg) k3).trans ?_
        refine (cl_gI (gk_219 hg)).trans ?_
        refine (cl_pI (gk_219 hg)).trans ?_
        replace h := iv_lt h
        refine (cl_rc (gk_219 hg)).trans ?_
        obtain ⟨M4, k4, h⟩ := iv_cv h; refine (cl_cv k4).trans ?_
        refine (cl_gJ (gk_219 hg)).trans ?_
        rcases iv_ite h with ⟨hc, h⟩ | ⟨hc, h⟩
        · refine (if_pos hc).trans ?_
          exact h
        · refine (if_neg hc).trans ?_
          refine (cl_gR (gk_219 hg) (gr_219_79 hg)).trans ?_
          refine (cl_gI (gk_219 hg)).trans ?_
          obtain ⟨k5, h⟩ := iv_ok h; refine (cl_is (gk_266 hg) k5).trans ?_
          replace h := iv_lt h
          refine (cl_gR (gk_219 hg) (gr_219_80 hg)).trans ?_
          refine (cl_gI (gk_219 hg)).trans ?_
          refine (cl_gJ (gk_219 hg)).trans ?_
          obtain ⟨k6, h⟩ := iv_ok h; refine (cl_ls (gk_267 hg) k6).trans ?_
          replace h := iv_lt h
          refine (cl_gI (gk_219 hg)).trans ?_
          refine (cl_pI (gk_219 hg)).trans ?_
          replace h := iv_lt h
          exact h
      · refine (if_neg hc).trans ?_
        exact h
theorem s_Model_turned {g : am_G} {F : am_FT} (hF : F = am_F T0 g) (hg : GG g) {v1 : Int32} {v2 : Int32} {M : am_M} {r : am_R} (h : (
  am_ci (F 50 0 [.ref 219, .int v1] [] M) fun x2 M1 => /- Model_end -/
  am_ok 24 x2 <|
  if (rI M1 222 x2.toNatClampNeg) = 0 then
    am_ci (F 108 0 [.ref 219, .int v1] [] M1) fun x4 M3 => /- Model_dx -/
    am_ci (F 109 0 [.ref 219, .int v1] [] M3) fun x6 M5 => /- Model_dy -/
    am_ci (F 108 0 [.ref 219, .int v2] [] M5) fun x8 M7 => /- Model_dx -/
    am_ci (F 109 0 [.ref 219, .int v2] [] M7) fun x10 M9 => /- Model_dy -/
    am_ci (F 49 0 [.int x4, .int x6, .int x8, .int x10] [] M9) fun x12 M11 => /- Model_cross -/
    if 0 ≤ x12 then
      if x12 = 0 then
        am_ci (F 108 0 [.ref 219, .int v1] [] M11) fun x14 M13 => /- Model_dx -/
        am_ci (F 108 0 [.ref 219, .int v2] [] M13) fun x16 M15 => /- Model_dx -/
        am_ci (F 109 0 [.ref 219, .int v1] [] M15) fun x18 M17 => /- Model_dy -/
        am_ci (F 109 0 [.ref 219, .int v2] [] M17) fun x20 M19 => /- Model_dy -/
        if ((x14 * x16) + (x18 * x20)) < 0 then
          am_rt 1 0 M19
        else
          am_rt 1 2 M19
      else
        am_rt 1 0 M11
    else
      am_rt 1 1 M11
  else
    F 228 86 [.ref 219, .int v1, .int v2, .int 3, .int 0] [] M1) = some r) : F 228 0 [.ref 219, .int v1, .int v2] [] M = some r := by
  refine e_Model_turned hF ?_
  refine (cl_gR (gk_219 hg) (gr_219_3 hg)).trans ?_
  refine (cl_rc (gk_219 hg)).trans ?_
  obtain ⟨x2, M1, k1, h⟩ := iv_ci h; refine (cl_ci k1).trans ?_
  obtain ⟨k2, h⟩ := iv_ok h; refine (cl_za (gk_222 hg) k2).trans ?_
  rcases iv_ite h with ⟨hc, h⟩ | ⟨hc, h⟩
  · refine (if_pos hc).trans ?_
    refine (cl_rc (gk_219 hg)).trans ?_
    obtain ⟨x4, M3, k3, h⟩ := iv_ci h; refine (cl_ci k3).trans ?_
    refine (cl_rc (gk_219 hg)).trans ?_
    obtain ⟨x6, M5, k4, h⟩ := iv_ci h; refine (cl_ci k4).trans ?_
    refine (cl_rc (gk_219 hg)).trans ?_
    obtain ⟨x8, M7, k5, h⟩ := iv_ci h; refine (cl_ci k5).trans ?_
    refine (cl_rc (gk_219 hg)).trans ?_
    obtain ⟨x10, M9, k6, h⟩ := iv_ci h; refine (cl_ci k6).trans ?_
    obtain ⟨x12, M11, k7, h⟩ := iv_ci h; refine (cl_ci k7).trans ?_
    rcases iv_ite h with ⟨hc, h⟩ | ⟨hc, h⟩
    · refine (if_pos hc).trans ?_
      rcases iv_ite h with ⟨hc, h⟩ | ⟨hc, h⟩
      · refine (if_pos hc).trans ?_
        refine (cl_rc (gk_219 hg)).trans ?_
        obtain ⟨x14, M13, k8, h⟩ := iv_ci h; refine (cl_ci k8).trans ?_
        refine (cl_rc (gk_219 hg)).trans ?_
        obtain ⟨x16, M15, k9, h⟩ := iv_ci h; refine (cl_ci k9).trans ?_
        refine (cl_rc (gk_219 hg)).trans ?_
        obtain ⟨x18, M17, k10, h⟩ := iv_ci h; refine (cl_ci k10).trans ?_
        refine (cl_rc (gk_219 hg)).trans ?_
        obtain ⟨x20, M19, k11, h⟩ := iv_ci h; refine (cl_ci k11).trans ?_
        rcases iv_ite h with ⟨hc, h⟩ | ⟨hc, h⟩
        · refine (if_pos hc).trans ?_
          exact h
        · refine (if_neg hc).trans ?_
          exact h
      · refine (if_neg hc).trans ?_
        exact h
    · refine (if_neg hc).trans ?_
      exact h
  · refine (if_neg hc).trans ?_
    exact h
theorem s_Model_turned_86 {g : am_G} {F : am_FT} (hF : F = am_F T0 g) (hg : GG g) {v1 : Int32} {v2 : Int32} {v3 : Int32} {v4 : Int32} {M : am_M} {r : am_R} (h : (
  if (2 * (fI M 219 4)) ≤ v4 then
    am_rt 1 v3 M
  else
    if v4 = v2 then
      F 228 86 [.ref 219, .int v1, .int v2, .int (v3 + 0), .int (v4 + 1)] [] M
    else
      am_ci (F 113 0 [.ref 219, .int v1, .int v4] [] M) fun x2 M1 => /- Model_follows -/
      if x2 = 0 then
        F 228 86 [.ref 219, .int v1, .int v2, .int (v3 + 0), .int (v4 + 1)] [] M1
      else
        am_ci (F 183 0 [.ref 219, .int v1, .int v4, .int v2] [] M1) fun x4 M3 => /- Model_isAhead -/
        if x4 = 0 then
          F 228 86 [.ref 219, .int v1, .int v2, .int (v3 + 0), .int (v4 + 1)] [] M3
        else
          F 228 86 [.ref 219, .int v1, .int v2, .int (v3 + 1), .int (v4 + 1)] [] M3) = some r) : F 228 86 [.ref 219, .int v1, .int v2, .int v3, .int v4] [] M = some r := by
  refine e_Model_turned_86 hF ?_
  refine (cl_gI (gk_219 hg)).trans ?_
  rcases iv_ite h with ⟨hc, h⟩ | ⟨hc, h⟩
  · refine (if_pos hc).trans ?_
    exact h
  · refine (if_neg hc).trans ?_
    rcases iv_ite h with ⟨hc, h⟩ | ⟨hc, h⟩
    · refine (if_pos hc).trans ?_
      exact h
    · refine (if_neg hc).trans ?_
      refine (cl_rc (gk_219 hg)).trans ?_
      obtain ⟨x2, M1, k1, h⟩ := iv_ci h; refine (cl_ci k1).trans ?_
      rcases iv_ite h with ⟨hc, h⟩ | ⟨hc, h⟩
      · refine (if_pos hc).trans ?_
        exact h
      · refine (if_neg hc).trans ?_
        refine (cl_rc (gk_219 hg)).trans ?_
        obtain ⟨x4, M3, k2, h⟩ := iv_ci h; refine (cl_ci k2).trans ?_
        rcases iv_ite h with ⟨hc, h⟩ | ⟨hc, h⟩
        · refine (if_pos hc).trans ?_
          exact h
        · refine (if_neg hc).trans ?_
          exact h
theorem s_Model_mayTurn {g : am_G} {F : am_FT} (hF : F = am_F T0 g) (hg : GG g) {v1 : Int32} {v2 : Int32} {M : am_M} {r : am_R} (h : (
  am_ci (F 113 0 [.ref 219, .int v1, .int v2] [] M) fun x2 M1 => /- Model_follows -/
  if x2 = 0 then
    am_rt 2 0 M1
  else
    am_ci (F 225 0 [.ref 219, .int v2] [] M1) fun x4 M3 => /- Model_mayGo -/
    if x4 = 0 then
      am_rt 2 0 M3
    else
      if (fI M3 219 56) = (-1) then
        am_ci (F 54 0 [.ref 219, .int v1, .int v2, .int (fI M3 219 57), .int (fI M3 219 58)] [] M3) fun x8 M7 => /- Model_isBanned -/
        if x8 = 0 then
          am_rt 2 1 M7
        else
          am_rt 2 0 M7
      else
        am_ci (F 55 0 [.ref 219, .int (fI M3 219 56), .int v1, .int v2, .int (fI M3 219 14)] [] M3) fun x6 M5 => /- Model_isHeld -/
        am_rt 2 x6 M5) = some r) : F 234 0 [.ref 219, .int v1, .int v2] [] M = some r := by
  refine e_Model_mayTurn hF ?_
  refine (cl_rc (gk_219 hg)).trans ?_
  obtain ⟨x2, M1, k1, h⟩ := iv_ci h; refine (cl_ci k1).trans ?_
  rcases iv_ite h with ⟨hc, h⟩ | ⟨hc, h⟩
  · refine (if_pos hc).trans ?_
    exact h
  · refine (if_neg hc).trans ?_
    refine (cl_rc (gk_219 hg)).trans ?_
    obtain ⟨x4, M3, k2, h⟩ := iv_ci h; refine (cl_ci k2).trans ?_
    rcases iv_ite h with ⟨hc, h⟩ | ⟨hc, h⟩
    · refine (if_pos hc).trans ?_
      exact h
    · refine (if_neg hc).trans ?_
      refine (cl_gI (gk_219 hg)).trans ?_
      rcases iv_ite h with ⟨hc, h⟩ | ⟨hc, h⟩
      · refine (if_pos hc).trans ?_
        refine (cl_gI (gk_219 hg)).trans ?_
        refine (cl_gI (gk_219 hg)).trans ?_
        refine (cl_rc (gk_219 hg)).trans ?_
        obtain ⟨x8, M7, k4, h⟩ := iv_ci h; refine (cl_ci k4).trans ?_
        rcases iv_ite h with ⟨hc, h⟩ | ⟨hc, h⟩
        · refine (if_pos hc).trans ?_
          exact h
        · refine (if_neg hc).trans ?_
          exact h
      · refine (if_neg hc).trans ?_
        refine (cl_gI (gk_219 hg)).trans ?_
        refine (cl_gI (gk_219 hg)).trans ?_
        refine (cl_rc (gk_219 hg)).trans ?_
        obtain ⟨x6, M5, k3, h⟩ := iv_ci h; refine (cl_ci k3).trans ?_
        exact h
theorem s_Model_rule {g : am_G} {F : am_FT} (hF : F = am_F T0 g) (hg : GG g) {M : am_M} {r : am_R} (h : (
  if (fI M 219 45) = 6 then
    am_rt 1 ((-4)) M
  else
    am_lt (fW M 219 75 0) fun M1 =>
    okb 0 <|
    am_lt (fW M1 219 92 0) fun M2 =>
    am_cv (F 181 0 [.ref 219, .int 116, .int 97, .int 107, .int 101] [] M2) fun M3 => /- Model_eats4 -/
    am_cv (F 110 0 [.ref 219, .int 32] [] M3) fun M4 => /- Model_eats -/
    am_ci (F 126 0 [.ref 219] [] M4) fun x6 M5 => /- Model_number -/
    if (fI M5 219 92) = 0 then
      if (fI M5 219 36) ≤ (fI M5 219 75) then
        am_lt (fW M5 219 36 0) fun M11 =>
        if (fI M11 219 92) = 0 then
          am_ok 6 ((fI M11 219 45)) <|
          am_lt (wI M11 253 ((fI M11 219 45)).toNatClampNeg x6) fun M12 =>
          am_ok 6 ((fI M12 219 45)) <|
          am_lt (wI M12 254 ((fI M12 219 45)).toNatClampNeg 0) fun M13 =>
          am_lt (fW M13 219 45 (((fI M13 219 45) + 1))) fun M14 =>
          am_rt 1 (((fI M14 219 45) - 1)) M14
        else
          am_rt 1 (((-100) - (fI M5 219 75))) M11
      else
        am_cv (F 110 0 [.ref 219, .int 32] [] M5) fun M15 => /- Model_eats -/
        am_cv (F 110 0 [.ref 219, .int 105] [] M15) fun M16 => /- Model_eats -/
        am_cv (F 110 0 [.ref 219, .int 102] [] M16) fun M17 => /- Model_eats -/
        am_cv (F 110 0 [.ref 219, .int 32] [] M17) fun M18 => /- Model_eats -/
        if (fI M18 219 92) = 0 then
          F 235 102 [.ref 219, .int x6, .int 0, .int 1] [] M18
        else
          F 235 102 [.ref 219, .int x6, .int 0, .int 0] [] M18
    else
      am_lt (fW M5 219 36 0) fun M7 =>
      if (fI M7 219 92) = 0 then
        am_ok 6 ((fI M7 219 45)) <|
        am_lt (wI M7 253 ((fI M7 219 45)).toNatClampNeg x6) fun M8 =>
        am_ok 6 ((fI M8 219 45)) <|
        am_lt (wI M8 254 ((fI M8 219 45)).toNatClampNeg 0) fun M9 =>
        am_lt (fW M9 219 45 (((fI M9 219 45) + 1))) fun M10 =>
        am_rt 1 (((fI M10 219 45) - 1)) M10
      else
        am_rt 1 (((-100) - (fI M5 219 75))) M7) = some r) : F 235 0 [.ref 219] [] M = some r := by
  refine e_Model_rule hF ?_
  refine (cl_gI (gk_219 hg)).trans ?_
  rcases iv_ite h with ⟨hc, h⟩ | ⟨hc, h⟩
  · refine (if_pos hc).trans ?_
    exact h
  · refine (if_neg hc).trans ?_
    refine (cl_pI (gk_219 hg)).trans ?_
    replace h := iv_lt h
    obtain ⟨k1, h⟩ := iv_okb h; refine (cl_pZ k1 (gk_219 hg)).trans ?_
    replace h := iv_lt h
    refine (cl_rc (gk_219 hg)).trans ?_
    obtain ⟨M3, k2, h⟩ := iv_cv h; refine (cl_cv k2).trans ?_
    refine (cl_rc (gk_219 hg)).trans ?_
    obtain ⟨M4, k3, h⟩ := iv_cv h; refine (cl_cv k3).trans ?_
    refine (cl_rc (gk_219 hg)).trans ?_
    obtain ⟨x6, M5, k4, h⟩ := iv_ci h; refine (cl_ci k4).trans ?_
    refine (cl_gI (gk_219 hg)).trans ?_
    rcases iv_ite h with ⟨hc, h⟩ | ⟨hc, h⟩
    · refine (if_pos hc).trans ?_
      refine (cl_gI (gk_219 hg)).trans ?_
      refine (cl_gI (gk_219 hg)).trans ?_
      rcases iv_ite h with ⟨hc, h⟩ | ⟨hc, h⟩
      · refine (if_pos hc).trans ?_
        refine (cl_gI (gk_219 hg)).trans ?_
        refine (cl_pI (gk_219 hg)).trans ?_
        replace h := iv_lt h
        refine (cl_gI (gk_219 hg)).trans ?_
        rcases iv_ite h with ⟨hc, h⟩ | ⟨hc, h⟩
        · refine (if_pos hc).trans ?_
          refine (cl_gR (gk_219 hg) (gr_219_46 hg)).trans ?_
          refine (cl_gI (gk_219 hg)).trans ?_
          obtain ⟨k7, h⟩ := iv_ok h; refine (cl_is (gk_253 hg) k7).trans ?_
          replace h := iv_lt h
          refine (cl_gR (gk_219 hg) (gr_219_47 hg)).trans ?_
          refine (cl_gI (gk_219 hg)).trans ?_
          obtain ⟨k8, h⟩ := iv_ok h; refine (cl_is (gk_254 hg) k8).trans ?_
          replace h := iv_lt h
          refine (cl_gI (gk_219 hg)).trans ?_
          refine (cl_pI (gk_219 hg)).trans ?_
          replace h := iv_lt h
          refine (cl_gI (gk_219 hg)).trans ?_
          exact h
        · refine (if_neg hc).trans ?_
          exact h
      · refine (if_neg hc).trans ?_
        refine (cl_rc (gk_219 hg)).trans ?_
        obtain ⟨M15, k9, h⟩ := iv_cv h; refine (cl_cv k9).trans ?_
        refine (cl_rc (gk_219 hg)).trans ?_
        obtain ⟨M16, k10, h⟩ := iv_cv h; refine (cl_cv k10).trans ?_
        refine (cl_rc (gk_219 hg)).trans ?_
        obtain ⟨M17, k11, h⟩ := iv_cv h; refine (cl_cv k11).trans ?_
        refine (cl_rc (gk_219 hg)).trans ?_
        obtain ⟨M18, k12, h⟩ := iv_cv h; refine (cl_cv k12).trans ?_
        refine (cl_gI (gk_219 hg)).trans ?_
        rcases iv_ite h with ⟨hc, h⟩ | ⟨hc, h⟩
        · refine (if_pos hc).trans ?_
          exact h
        · refine (if_neg hc).trans ?_
          exact h
    · refine (if_neg hc).trans ?_
      refine (cl_gI (gk_219 hg)).trans ?_
      refine (cl_pI (gk_219 hg)).trans ?_
      replace h := iv_lt h
      refine (cl_gI (gk_219 hg)).trans ?_
      rcases iv_ite h with ⟨hc, h⟩ | ⟨hc, h⟩
      · refine (if_pos hc).trans ?_
        refine (cl_gR (gk_219 hg) (gr_219_46 hg)).trans ?_
        refine (cl_gI (gk_219 hg)).trans ?_
        obtain ⟨k5, h⟩ := iv_ok h; refine (cl_is (gk_253 hg) k5).trans ?_
        replace h := iv_lt h
        refine (cl_gR (gk_219 hg) (gr_219_47 hg)).trans ?_
        refine (cl_gI (gk_219 hg)).trans ?_
        obtain ⟨k6, h⟩ := iv_ok h; refine (cl_is (gk_254 hg) k6).trans ?_
        replace h := iv_lt h
        refine (cl_gI (gk_219 hg)).trans ?_
        refine (cl_pI (gk_219 hg)).trans ?_
        replace h := iv_lt h
        refine (cl_gI (gk_219 hg)).trans ?_
        exact h
      · refine (if_neg hc).trans ?_
        exact h
theorem s_Model_rule_102 {g : am_G} {F : am_FT} (hF : F = am_F T0 g) (hg : GG g) {v1 : Int32} {v2 : Int32} {v3 : Int32} {M : am_M} {r : am_R} (h : (
  if v3 = 0 then
    am_lt (fW M 219 36 0) fun M1 =>
    if (fI M1 219 92) = 0 then
      am_ok 6 ((fI M1 219 45)) <|
      am_lt (wI M1 253 ((fI M1 219 45)).toNatClampNeg v1) fun M2 =>
      am_ok 6 ((fI M2 219 45)) <|
      am_lt (wI M2 254 ((fI M2 219 45)).toNatClampNeg v2) fun M3 =>
      am_lt (fW M3 219 45 (((fI M3 219 45) + 1))) fun M4 =>
      am_rt 1 (((fI M4 219 45) - 1)) M4
    else
      am_rt 1 (((-100) - (fI M 219 75))) M1
  else
    am_ci (F 226 0 [.ref 219] [] M) fun x6 M5 => /- Model_testRead -/
    am_ok 18 (((3 * (fI M 219 45)) + v2)) <|
    am_lt (wI M5 255 (((3 * (fI M 219 45)) + v2)).toNatClampNeg x6) fun M7 =>
    if (fI M7 219 92) = 0 then
      if (fI M7 219 36) ≤ (fI M7 219 75) then
        if (0 : Int32) = 0 then
          if (0 : Int32) = 0 then
            F 235 102 [.ref 219, .int v1, .int (v2 + 1), .int 0] [] M7
          else
            am_cv (F 110 0 [.ref 219, .int 38] [] M7) fun M11 => /- Model_eats -/
            if (fI M11 219 92) = 0 then
              F 235 102 [.ref 219, .int v1, .int (v2 + 1), .int 1] [] M11
            else
              F 235 102 [.ref 219, .int v1, .int (v2 + 1), .int 0] [] M11
        else
          if (v2 + 1) = 3 then
            okb 1 <|
            am_lt (fW M7 219 92 1) fun M13 =>
            F 235 102 [.ref 219, .int v1, .int (v2 + 1), .int 0] [] M13
          else
            if (0 : Int32) = 0 then
              F 235 102 [.ref 219, .int v1, .int (v2 + 1), .int 0] [] M7
            else
              am_cv (F 110 0 [.ref 219, .int 38] [] M7) fun M12 => /- Model_eats -/
              if (fI M12 219 92) = 0 then
                F 235 102 [.ref 219, .int v1, .int (v2 + 1), .int 1] [] M12
              else
                F 235 102 [.ref 219, .int v1, .int (v2 + 1), .int 0] [] M12
      else
        if (1 : Int32) = 0 then
          if (1 : Int32) = 0 then
            F 235 102 [.ref 219, .int v1, .int (v2 + 1), .int 1] [] M7
          else
            am_cv (F 110 0 [.ref 219, .int 38] [] M7) fun M14 => /- Model_eats -/
            if (fI M14 219 92) = 0 then
              F 235 102 [.ref 219, .int v1, .int (v2 + 1), .int 1] [] M14
            else
              F 235 102 [.ref 219, .int v1, .int (v2 + 1), .int 0] [] M14
        else
          if (v2 + 1) = 3 then
            okb 1 <|
            am_lt (fW M7 219 92 1) fun M16 =>
            F 235 102 [.ref 219, .int v1, .int (v2 + 1), .int 0] [] M16
          else
            if (1 : Int32) = 0 then
              F 235 102 [.ref 219, .int v1, .int (v2 + 1), .int 1] [] M7
            else
              am_cv (F 110 0 [.ref 219, .int 38] [] M7) fun M15 => /- Model_eats -/
              if (fI M15 219 92) = 0 then
                F 235 102 [.ref 219, .int v1, .int (v2 + 1), .int 1] [] M15
              else
                F 235 102 [.ref 219, .int v1, .int (v2 + 1), .int 0] [] M15
    else
      if (0 : Int32) = 0 then
        if (0 : Int32) = 0 then
          F 235 102 [.ref 219, .int v1, .int (v2 + 1), .int 0] [] M7
        else
          am_cv (F 110 0 [.ref 219, .int 38] [] M7) fun M8 => /- Model_eats -/
          if (fI M8 219 92) = 0 then
            F 235 102 [.ref 219, .int v1, .int (v2 + 1), .int 1] [] M8
          else
            F 235 102 [.ref 219, .int v1, .int (v2 + 1), .int 0] [] M8
      else
        if (v2 + 1) = 3 then
          okb 1 <|
          am_lt (fW M7 219 92 1) fun M10 =>
          F 235 102 [.ref 219, .int v1, .int (v2 + 1), .int 0] [] M10
        else
          if (0 : Int32) = 0 then
            F 235 102 [.ref 219, .int v1, .int (v2 + 1), .int 0] [] M7
          else
            am_cv (F 110 0 [.ref 219, .int 38] [] M7) fun M9 => /- Model_eats -/
            if (fI M9 219 92) = 0 then
              F 235 102 [.ref 219, .int v1, .int (v2 + 1), .int 1] [] M9
            else
              F 235 102 [.ref 219, .int v1, .int (v2 + 1), .int 0] [] M9) = some r) : F 235 102 [.ref 219, .int v1, .int v2, .int v3] [] M = some r := by
  refine e_Model_rule_102 hF ?_
  rcases iv_ite h with ⟨hc, h⟩ | ⟨hc, h⟩
  · refine (if_pos hc).trans ?_
    refine (cl_gI (gk_219 hg)).trans ?_
    refine (cl_pI (gk_219 hg)).trans ?_
    replace h := iv_lt h
    refine (cl_gI (gk_219 hg)).trans ?_
    rcases iv_ite h with ⟨hc, h⟩ | ⟨hc, h⟩
    · refine (if_pos hc).trans ?_
      refine (cl_gR (gk_219 hg) (gr_219_46 hg)).trans ?_
      refine (cl_gI (gk_219 hg)).trans ?_
      obtain ⟨k1, h⟩ := iv_ok h; refine (cl_is (gk_253 hg) k1).trans ?_
      replace h := iv_lt h
      refine (cl_gR (gk_219 hg) (gr_219_47 hg)).trans ?_
      refine (cl_gI (gk_219 hg)).trans ?_
      obtain ⟨k2, h⟩ := iv_ok h; refine (cl_is (gk_254 hg) k2).trans ?_
      replace h := iv_lt h
      refine (cl_gI (gk_219 hg)).trans ?_
      refine (cl_pI (gk_219 hg)).trans ?_
      replace h := iv_lt h
      refine (cl_gI (gk_219 hg)).trans ?_
      exact h
    · refine (if_neg hc).trans ?_
      exact h
  · refine (if_neg hc).trans ?_
    refine (cl_gR (gk_219 hg) (gr_219_48 hg)).trans ?_
    refine (cl_gI (gk_219 hg)).trans ?_
    refine (cl_rc (gk_219 hg)).trans ?_
    obtain ⟨x6, M5, k3, h⟩ := iv_ci h; refine (cl_ci k3).trans ?_
    obtain ⟨k4, h⟩ := iv_ok h; refine (cl_is (gk_255 hg) k4).trans ?_
    replace h := iv_lt h
    refine (cl_gI (gk_219 hg)).trans ?_
    rcases iv_ite h with ⟨hc, h⟩ | ⟨hc, h⟩
    · refine (if_pos hc).trans ?_
      refine (cl_gI (gk_219 hg)).trans ?_
      refine (cl_gI (gk_219 hg)).trans ?_
      rcases iv_ite h with ⟨hc, h⟩ | ⟨hc, h⟩
      · refine (if_pos hc).trans ?_
        rcases iv_ite h with ⟨hc, h⟩ | ⟨hc, h⟩
        · refine (if_pos hc).trans ?_
          rcases iv_ite h with ⟨hc, h⟩ | ⟨hc, h⟩
          · refine (if_pos hc).trans ?_
            exact h
          · refine (if_neg hc).trans ?_
            refine (cl_rc (gk_219 hg)).trans ?_
            obtain ⟨M11, k8, h⟩ := iv_cv h; refine (cl_cv k8).trans ?_
            refine (cl_gI (gk_219 hg)).trans ?_
            rcases iv_ite h with ⟨hc, h⟩ | ⟨hc, h⟩
            · refine (if_pos hc).trans ?_
              exact h
            · refine (if_neg hc).trans ?_
              exact h
        · refine (if_neg hc).trans ?_
          rcases iv_ite h with ⟨hc, h⟩ | ⟨hc, h⟩
          · refine (if_pos hc).trans ?_
            obtain ⟨k10, h⟩ := iv_okb h; refine (cl_pZ k10 (gk_219 hg)).trans ?_
            replace h := iv_lt h
            exact h
          · refine (if_neg hc).trans ?_
            rcases iv_ite h with ⟨hc, h⟩ | ⟨hc, h⟩
            · refine (if_pos hc).trans ?_
              exact h
            · refine (if_neg hc).trans ?_
              refine (cl_rc (gk_219 hg)).trans ?_
              obtain ⟨M12, k9, h⟩ := iv_cv h; refine (cl_cv k9).trans ?_
              refine (cl_gI (gk_219 hg)).trans ?_
              rcases iv_ite h with ⟨hc, h⟩ | ⟨hc, h⟩
              · refine (if_pos hc).trans ?_
                exact h
              · refine (if_neg hc).trans ?_
                exact h
      · refine (if_neg hc).trans ?_
        rcases iv_ite h with ⟨hc, h⟩ | ⟨hc, h⟩
        · refine (if_pos hc).trans ?_
          rcases iv_ite h with ⟨hc, h⟩ | ⟨hc, h⟩
          · refine (if_pos hc).trans ?_
            exact h
          · refine (if_neg hc).trans ?_
            refine (cl_rc (gk_219 hg)).trans ?_
            obtain ⟨M14, k11, h⟩ := iv_cv h; refine (cl_cv k11).trans ?_
            refine (cl_gI (gk_219 hg)).trans ?_
            rcases iv_ite h with ⟨hc, h⟩ | ⟨hc, h⟩
            · refine (if_pos hc).trans ?_
              exact h
            · refine (if_neg hc).trans ?_
              exact h
        · refine (if_neg hc).trans ?_
          rcases iv_ite h with ⟨hc, h⟩ | ⟨hc, h⟩
          · refine (if_pos hc).trans ?_
            obtain ⟨k13, h⟩ := iv_okb h; refine (cl_pZ k13 (gk_219 hg)).trans ?_
            replace h := iv_lt h
            exact h
          · refine (if_neg hc).trans ?_
            rcases iv_ite h with ⟨hc, h⟩ | ⟨hc, h⟩
            · refine (if_pos hc).trans ?_
              exact h
            · refine (if_neg hc).trans ?_
              refine (cl_rc (gk_219 hg)).trans ?_
              obtain ⟨M15, k12, h⟩ := iv_cv h; refine (cl_cv k12).trans ?_
              refine (cl_gI (gk_219 hg)).trans ?_
              rcases iv_ite h with ⟨hc, h⟩ | ⟨hc, h⟩
              · refine (if_pos hc).trans ?_
                exact h
              · refine (if_neg hc).trans ?_
                exact h
    · refine (if_neg hc).trans ?_
      rcases iv_ite h with ⟨hc, h⟩ | ⟨hc, h⟩
      · refine (if_pos hc).trans ?_
        rcases iv_ite h with ⟨hc, h⟩ | ⟨hc, h⟩
        · refine (if_pos hc).trans ?_
          exact h
        · refine (if_neg hc).trans ?_
          refine (cl_rc (gk_219 hg)).trans ?_
          obtain ⟨M8, k5, h⟩ := iv_cv h; refine (cl_cv k5).trans ?_
          refine (cl_gI (gk_219 hg)).trans ?_
          rcases iv_ite h with ⟨hc, h⟩ | ⟨hc, h⟩
          · refine (if_pos hc).trans ?_
            exact h
          · refine (if_neg hc).trans ?_
            exact h
      · refine (if_neg hc).trans ?_
        rcases iv_ite h with ⟨hc, h⟩ | ⟨hc, h⟩
        · refine (if_pos hc).trans ?_
          obtain ⟨k7, h⟩ := iv_okb h; refine (cl_pZ k7 (gk_219 hg)).trans ?_
          replace h := iv_lt h
          exact h
        · refine (if_neg hc).trans ?_
          rcases iv_ite h with ⟨hc, h⟩ | ⟨hc, h⟩
          · refine (if_pos hc).trans ?_
            exact h
          · refine (if_neg hc).trans ?_
            refine (cl_rc (gk_219 hg)).trans ?_
            obtain ⟨M9, k6, h⟩ := iv_cv h; refine (cl_cv k6).trans ?_
            refine (cl_gI (gk_219 hg)).trans ?_
            rcases iv_ite h with ⟨hc, h⟩ | ⟨hc, h⟩
            · refine (if_pos hc).trans ?_
              exact h
            · refine (if_neg hc).trans ?_
              exact h
theorem s_Model_saidRead {g : am_G} {F : am_FT} (hF : F = am_F T0 g) (hg : GG g) {M : am_M} {r : am_R} (h : (
  am_lt (fW M 219 75 0) fun M1 =>
  am_lt (fW M1 219 78 0) fun M2 =>
  am_cv (F 134 0 [.ref 219] [] M2) fun M3 => /- Model_reads -/
  am_ci (F 120 0 [.ref 219, .int 108, .int 101, .int 97, .int 118, .int 101] [] M3) fun x5 M4 => /- Model_isSaid -/
  if x5 = 0 then
    am_rt 1 ((fI M4 219 76)) M4
  else
    am_cv (F 134 0 [.ref 219] [] M4) fun M6 => /- Model_reads -/
    if (lg_cmp ((fJ M6 219 77)) 30064) = 0 then
      okb 1 <|
      am_lt (fW M6 219 81 1) fun M12 =>
      if (fI M12 219 81) = 0 then
        am_ci (F 120 0 [.ref 219, .int 100, .int 111, .int 119, .int 110, .int 0] [] M12) fun x15 M14 => /- Model_isSaid -/
        if x15 = 0 then
          am_rt 1 ((fI M14 219 76)) M14
        else
          am_cv (F 134 0 [.ref 219] [] M14) fun M16 => /- Model_reads -/
          F 236 92 [.ref 219] [] M16
      else
        am_cv (F 134 0 [.ref 219] [] M12) fun M13 => /- Model_reads -/
        F 236 92 [.ref 219] [] M13
    else
      okb 0 <|
      am_lt (fW M6 219 81 0) fun M7 =>
      if (fI M7 219 81) = 0 then
        am_ci (F 120 0 [.ref 219, .int 100, .int 111, .int 119, .int 110, .int 0] [] M7) fun x10 M9 => /- Model_isSaid -/
        if x10 = 0 then
          am_rt 1 ((fI M9 219 76)) M9
        else
          am_cv (F 134 0 [.ref 219] [] M9) fun M11 => /- Model_reads -/
          F 236 92 [.ref 219] [] M11
      else
        am_cv (F 134 0 [.ref 219] [] M7) fun M8 => /- Model_reads -/
        F 236 92 [.ref 219] [] M8) = some r) : F 236 0 [.ref 219] [] M = some r := by
  refine e_Model_saidRead hF ?_
  refine (cl_pI (gk_219 hg)).trans ?_
  replace h := iv_lt h
  refine (cl_pI (gk_219 hg)).trans ?_
  replace h := iv_lt h
  refine (cl_rc (gk_219 hg)).trans ?_
  obtain ⟨M3, k1, h⟩ := iv_cv h; refine (cl_cv k1).trans ?_
  refine (cl_rc (gk_219 hg)).trans ?_
  obtain ⟨x5, M4, k2, h⟩ := iv_ci h; refine (cl_ci k2).trans ?_
  rcases iv_ite h with ⟨hc, h⟩ | ⟨hc, h⟩
  · refine (if_pos hc).trans ?_
    refine (cl_gI (gk_219 hg)).trans ?_
    exact h
  · refine (if_neg hc).trans ?_
    refine (cl_rc (gk_219 hg)).trans ?_
    obtain ⟨M6, k3, h⟩ := iv_cv h; refine (cl_cv k3).trans ?_
    refine (cl_gJ (gk_219 hg)).trans ?_
    rcases iv_ite h with ⟨hc, h⟩ | ⟨hc, h⟩
    · refine (if_pos hc).trans ?_
      obtain ⟨k8, h⟩ := iv_okb h; refine (cl_pZ k8 (gk_219 hg)).trans ?_
      replace h := iv_lt h
      refine (cl_gI (gk_219 hg)).trans ?_
      rcases iv_ite h with ⟨hc, h⟩ | ⟨hc, h⟩
      · refine (if_pos hc).trans ?_
        refine (cl_rc (gk_219 hg)).trans ?_
        obtain ⟨x15, M14, k10, h⟩ := iv_ci h; refine (cl_ci k10).trans ?_
        rcases iv_ite h with ⟨hc, h⟩ | ⟨hc, h⟩
        · refine (if_pos hc).trans ?_
          refine (cl_gI (gk_219 hg)).trans ?_
          exact h
        · refine (if_neg hc).trans ?_
          refine (cl_rc (gk_219 hg)).trans ?_
          obtain ⟨M16, k11, h⟩ := iv_cv h; refine (cl_cv k11).trans ?_
          exact h
      · refine (if_neg hc).trans ?_
        refine (cl_rc (gk_219 hg)).trans ?_
        obtain ⟨M13, k9, h⟩ := iv_cv h; refine (cl_cv k9).trans ?_
        exact h
    · refine (if_neg hc).trans ?_
      obtain ⟨k4, h⟩ := iv_okb h; refine (cl_pZ k4 (gk_219 hg)).trans ?_
      replace h := iv_lt h
      refine (cl_gI (gk_219 hg)).trans ?_
      rcases iv_ite h with ⟨hc, h⟩ | ⟨hc, h⟩
      · refine (if_pos hc).trans ?_
        refine (cl_rc (gk_219 hg)).trans ?_
        obtain ⟨x10, M9, k6, h⟩ := iv_ci h; refine (cl_ci k6).trans ?_
        rcases iv_ite h with ⟨hc, h⟩ | ⟨hc, h⟩
        · refine (if_pos hc).trans ?_
          refine (cl_gI (gk_219 hg)).trans ?_
          exact h
        · refine (if_neg hc).trans ?_
          refine (cl_rc (gk_219 hg)).trans ?_
          obtain ⟨M11, k7, h⟩ := iv_cv h; refine (cl_cv k7).trans ?_
          exact h
      · refine (if_neg hc).trans ?_
        refine (cl_rc (gk_219 hg)).trans ?_
        obtain ⟨M8, k5, h⟩ := iv_cv h; refine (cl_cv k5).trans ?_
        exact h
theorem s_Model_saidRead_92 {g : am_G} {F : am_FT} (hF : F = am_F T0 g) (hg : GG g) {M : am_M} {r : am_R} (h : (
  am_ci (F 120 0 [.ref 219, .int 115, .int 101, .int 116, .int 0, .int 0] [] M) fun x2 M1 => /- Model_isSaid -/
  if x2 = 0 then
    if (fI M1 219 78) = 20 then
      am_rt 1 ((fI M1 219 76)) M1
    else
      am_ci (F 227 0 [.ref 219] [] M1) fun x13 M12 => /- Model_turnRead -/
      if x13 = 0 then
        am_rt 1 ((fI M12 219 76)) M12
      else
        am_cv (F 134 0 [.ref 219] [] M12) fun M14 => /- Model_reads -/
        F 236 92 [.ref 219] [] M14
  else
    am_cv (F 134 0 [.ref 219] [] M1) fun M3 => /- Model_reads -/
    am_ci (F 188 0 [.ref 219] [] M3) fun x5 M4 => /- Model_leftRight -/
    if x5 = (-1) then
      am_rt 1 ((fI M4 219 76)) M4
    else
      am_ci (F 188 0 [.ref 219] [] M4) fun x7 M6 => /- Model_leftRight -/
      if x7 = 0 then
        okb 1 <|
        am_lt (fW M6 219 82 1) fun M10 =>
        am_cv (F 61 0 [.ref 219] [] M10) fun M11 => /- Model_skips -/
        if (fI M11 219 36) ≤ (fI M11 219 75) then
          am_rt 1 ((-1)) M11
        else
          am_rt 1 ((fI M11 219 76)) M11
      else
        okb 0 <|
        am_lt (fW M6 219 82 0) fun M8 =>
        am_cv (F 61 0 [.ref 219] [] M8) fun M9 => /- Model_skips -/
        if (fI M9 219 36) ≤ (fI M9 219 75) then
          am_rt 1 ((-1)) M9
        else
          am_rt 1 ((fI M9 219 76)) M9) = some r) : F 236 92 [.ref 219] [] M = some r := by
  refine e_Model_saidRead_92 hF ?_
  refine (cl_rc (gk_219 hg)).trans ?_
  obtain ⟨x2, M1, k1, h⟩ := iv_ci h; refine (cl_ci k1).trans ?_
  rcases iv_ite h with ⟨hc, h⟩ | ⟨hc, h⟩
  · refine (if_pos hc).trans ?_
    refine (cl_gI (gk_219 hg)).trans ?_
    rcases iv_ite h with ⟨hc, h⟩ | ⟨hc, h⟩
    · refine (if_pos hc).trans ?_
      refine (cl_gI (gk_219 hg)).trans ?_
      exact h
    · refine (if_neg hc).trans ?_
      refine (cl_rc (gk_219 hg)).trans ?_
      obtain ⟨x13, M12, k9, h⟩ := iv_ci h; refine (cl_ci k9).trans ?_
      rcases iv_ite h with ⟨hc, h⟩ | ⟨hc, h⟩
      · refine (if_pos hc).trans ?_
        refine (cl_gI (gk_219 hg)).trans ?_
        exact h
      · refine (if_neg hc).trans ?_
        refine (cl_rc (gk_219 hg)).trans ?_
        obtain ⟨M14, k10, h⟩ := iv_cv h; refine (cl_cv k10).trans ?_
        exact h
  · refine (if_neg hc).trans ?_
    refine (cl_rc (gk_219 hg)).trans ?_
    obtain ⟨M3, k2, h⟩ := iv_cv h; refine (cl_cv k2).trans ?_
    refine (cl_rc (gk_219 hg)).trans ?_
    obtain ⟨x5, M4, k3, h⟩ := iv_ci h; refine (cl_ci k3).trans ?_
    rcases iv_ite h with ⟨hc, h⟩ | ⟨hc, h⟩
    · refine (if_pos hc).trans ?_
      refine (cl_gI (gk_219 hg)).trans ?_
      exact h
    · refine (if_neg hc).trans ?_
      refine (cl_rc (gk_219 hg)).trans ?_
      obtain ⟨x7, M6, k4, h⟩ := iv_ci h; refine (cl_ci k4).trans ?_
      rcases iv_ite h with ⟨hc, h⟩ | ⟨hc, h⟩
      · refine (if_pos hc).trans ?_
        obtain ⟨k7, h⟩ := iv_okb h; refine (cl_pZ k7 (gk_219 hg)).trans ?_
        replace h := iv_lt h
        refine (cl_rc (gk_219 hg)).trans ?_
        obtain ⟨M11, k8, h⟩ := iv_cv h; refine (cl_cv k8).trans ?_
        refine (cl_gI (gk_219 hg)).trans ?_
        refine (cl_gI (gk_219 hg)).trans ?_
        rcases iv_ite h with ⟨hc, h⟩ | ⟨hc, h⟩
        · refine (if_pos hc).trans ?_
          exact h
        · refine (if_neg hc).trans ?_
          refine (cl_gI (gk_219 hg)).trans ?_
          exact h
      · refine (if_neg hc).trans ?_
        obtain ⟨k5, h⟩ := iv_okb h; refine (cl_pZ k5 (gk_219 hg)).trans ?_
        replace h := iv_lt h
        refine (cl_rc (gk_219 hg)).trans ?_
        obtain ⟨M9, k6, h⟩ := iv_cv h; refine (cl_cv k6).trans ?_
        refine (cl_gI (gk_219 hg)).trans ?_
        refine (cl_gI (gk_219 hg)).trans ?_
        rcases iv_ite h with ⟨hc, h⟩ | ⟨hc, h⟩
        · refine (if_pos hc).trans ?_
          exact h
        · refine (if_neg hc).trans ?_
          refine (cl_gI (gk_219 hg)).trans ?_
          exact h
theorem s_Model_turn {g : am_G} {F : am_FT} (hF : F = am_F T0 g) (hg : GG g) {v1 : Int32} {v2 : Int32} {M : am_M} {r : am_R} (h : (
  am_ci (F 117 0 [.ref 219, .int v1] [] M) fun x2 M1 => /- Model_isLeg -/
  if x2 = 0 then
    am_rt 1 ((-1)) M1
  else
    am_ci (F 117 0 [.ref 219, .int v2] [] M1) fun x4 M3 => /- Model_isLeg -/
    if x4 = 0 then
      am_rt 1 ((-1)) M3
    else
      am_ci (F 113 0 [.ref 219, .int v1, .int v2] [] M3) fun x6 M5 => /- Model_follows -/
      if x6 = 0 then
        am_rt 1 ((-3)) M5
      else
        am_ci (F 228 0 [.ref 219, .int v1, .int v2] [] M5) fun x8 M7 => /- Model_turned -/
        am_rt 1 x8 M7) = some r) : F 237 0 [.ref 219, .int v1, .int v2] [] M = some r := by
  refine e_Model_turn hF ?_
  refine (cl_rc (gk_219 hg)).trans ?_
  obtain ⟨x2, M1, k1, h⟩ := iv_ci h; refine (cl_ci k1).trans ?_
  rcases iv_ite h with ⟨hc, h⟩ | ⟨hc, h⟩
  · refine (if_pos hc).trans ?_
    exact h
  · refine (if_neg hc).trans ?_
    refine (cl_rc (gk_219 hg)).trans ?_
    obtain ⟨x4, M3, k2, h⟩ := iv_ci h; refine (cl_ci k2).trans ?_
    rcases iv_ite h with ⟨hc, h⟩ | ⟨hc, h⟩
    · refine (if_pos hc).trans ?_
      exact h
    · refine (if_neg hc).trans ?_
      refine (cl_rc (gk_219 hg)).trans ?_
      obtain ⟨x6, M5, k3, h⟩ := iv_ci h; refine (cl_ci k3).trans ?_
      rcases iv_ite h with ⟨hc, h⟩ | ⟨hc, h⟩
      · refine (if_pos hc).trans ?_
        exact h
      · refine (if_neg hc).trans ?_
        refine (cl_rc (gk_219 hg)).trans ?_
        obtain ⟨x8, M7, k4, h⟩ := iv_ci h; refine (cl_ci k4).trans ?_
        exact h
theorem s_Model_whyNot {g : am_G} {F : am_FT} (hF : F = am_F T0 g) (hg : GG g) {v1 : Int32} {v2 : Int32} {v3 : Int32} {M : am_M} {r : am_R} (h : (
  F 238 9 [.ref 219, .int v1, .int v2, .int v3, .int 0, .int (-1), .int 0] [] M) = some r) : F 238 0 [.ref 219, .int v1, .int v2, .int v3] [] M = some r := by
  refine e_Model_whyNot hF ?_
  exact h
theorem s_Model_whyNot_9 {g : am_G} {F : am_FT} (hF : F = am_F T0 g) (hg : GG g) {v1 : Int32} {v2 : Int32} {v3 : Int32} {v4 : Int32} {v5 : Int32} {v6 : Int32} {M : am_M} {r : am_R} (h : (
  if (2 * (fI M 219 4)) ≤ v6 then
    if v5 = (-1) then
      if v4 = 0 then
        am_rt 1 2 M
      else
        am_rt 1 3 M
    else
      am_ok 21 v1 <|
      am_lt (wI M 268 v1.toNatClampNeg v5) fun M1 =>
      am_ci (F 184 0 [.ref 219, .int v5, .int (fI M1 219 14), .int v3, .int (fI M1 219 14)] [] M1) fun x3 M2 => /- Model_isDrivable -/
      if x3 = 0 then
        am_rt 1 4 M2
      else
        am_ci (F 54 0 [.ref 219, .int v2, .int v5, .int (fI M2 219 14), .int v3] [] M2) fun x5 M4 => /- Model_isBanned -/
        if x5 = 0 then
          am_rt 1 0 M4
        else
          am_rt 1 5 M4
  else
    am_ci (F 113 0 [.ref 219, .int v2, .int v6] [] M) fun x7 M6 => /- Model_follows -/
    if x7 = 0 then
      F 238 9 [.ref 219, .int v1, .int v2, .int v3, .int v4, .int v5, .int (v6 + 1)] [] M6
    else
      am_dv 2 <|
      am_ok 20 ((v1 - 1)) <|
      am_ci (F 40 0 [.ref 219, .int (v6 / 2), .long (rJ M6 267 ((v1 - 1)).toNatClampNeg), .int (fI M6 219 14)] [] M6) fun x9 M8 => /- Model_answersTo -/
      if x9 = 0 then
        F 238 9 [.ref 219, .int v1, .int v2, .int v3, .int v4, .int v5, .int (v6 + 1)] [] M8
      else
        if v5 = (-1) then
          am_ci (F 228 0 [.ref 219, .int v2, .int v6] [] M8) fun x11 M10 => /- Model_turned -/
          am_ok 20 ((v1 - 1)) <|
          if x11 = (rI M10 266 ((v1 - 1)).toNatClampNeg) then
            F 238 9 [.ref 219, .int v1, .int v2, .int v3, .int 1, .int v6, .int (v6 + 1)] [] M10
          else
            F 238 9 [.ref 219, .int v1, .int v2, .int v3, .int 1, .int v5, .int (v6 + 1)] [] M10
        else
          F 238 9 [.ref 219, .int v1, .int v2, .int v3, .int 1, .int v5, .int (v6 + 1)] [] M8) = some r) : F 238 9 [.ref 219, .int v1, .int v2, .int v3, .int v4, .int v5, .int v6] [] M = some r := by
  refine e_Model_whyNot_9 hF ?_
  refine (cl_gI (gk_219 hg)).trans ?_
  rcases iv_ite h with ⟨hc, h⟩ | ⟨hc, h⟩
  · refine (if_pos hc).trans ?_
    rcases iv_ite h with ⟨hc, h⟩ | ⟨hc, h⟩
    · refine (if_pos hc).trans ?_
      rcases iv_ite h with ⟨hc, h⟩ | ⟨hc, h⟩
      · refine (if_pos hc).trans ?_
        exact h
      · refine (if_neg hc).trans ?_
        exact h
    · refine (if_neg hc).trans ?_
      refine (cl_gR (gk_219 hg) (gr_219_83 hg)).trans ?_
      obtain ⟨k1, h⟩ := iv_ok h; refine (cl_is (gk_268 hg) k1).trans ?_
      replace h := iv_lt h
      refine (cl_gI (gk_219 hg)).trans ?_
      refine (cl_gI (gk_219 hg)).trans ?_
      refine (cl_rc (gk_219 hg)).trans ?_
      obtain ⟨x3, M2, k2, h⟩ := iv_ci h; refine (cl_ci k2).trans ?_
      rcases iv_ite h with ⟨hc, h⟩ | ⟨hc, h⟩
      · refine (if_pos hc).trans ?_
        exact h
      · refine (if_neg hc).trans ?_
        refine (cl_gI (gk_219 hg)).trans ?_
        refine (cl_rc (gk_219 hg)).trans ?_
        obtain ⟨x5, M4, k3, h⟩ := iv_ci h; refine (cl_ci k3).trans ?_
        rcases iv_ite h with ⟨hc, h⟩ | ⟨hc, h⟩
        · refine (if_pos hc).trans ?_
          exact h
        · refine (if_neg hc).trans ?_
          exact h
  · refine (if_neg hc).trans ?_
    refine (cl_rc (gk_219 hg)).trans ?_
    obtain ⟨x7, M6, k4, h⟩ := iv_ci h; refine (cl_ci k4).trans ?_
    rcases iv_ite h with ⟨hc, h⟩ | ⟨hc, h⟩
    · refine (if_pos hc).trans ?_
      exact h
    · refine (if_neg hc).trans ?_
      obtain ⟨k5, h⟩ := iv_dv h; refine (cl_dv k5).trans ?_
      refine (cl_gR (gk_219 hg) (gr_219_80 hg)).trans ?_
      obtain ⟨k6, h⟩ := iv_ok h; refine (cl_la (gk_267 hg) k6).trans ?_
      refine (cl_gI (gk_219 hg)).trans ?_
      refine (cl_rc (gk_219 hg)).trans ?_
      obtain ⟨x9, M8, k7, h⟩ := iv_ci h; refine (cl_ci k7).trans ?_
      rcases iv_ite h with ⟨hc, h⟩ | ⟨hc, h⟩
      · refine (if_pos hc).trans ?_
        exact h
      · refine (if_neg hc).trans ?_
        rcases iv_ite h with ⟨hc, h⟩ | ⟨hc, h⟩
        · refine (if_pos hc).trans ?_
          refine (cl_rc (gk_219 hg)).trans ?_
          obtain ⟨x11, M10, k8, h⟩ := iv_ci h; refine (cl_ci k8).trans ?_
          refine (cl_gR (gk_219 hg) (gr_219_79 hg)).trans ?_
          obtain ⟨k9, h⟩ := iv_ok h; refine (cl_ia (gk_266 hg) k9).trans ?_
          rcases iv_ite h with ⟨hc, h⟩ | ⟨hc, h⟩
          · refine (if_pos hc).trans ?_
            exact h
          · refine (if_neg hc).trans ?_
            exact h
        · refine (if_neg hc).trans ?_
          exact h
theorem s_Model_isRight {g : am_G} {F : am_FT} (hF : F = am_F T0 g) (hg : GG g) {v1 : Int32} {v2 : Int32} {v3 : Int32} {M : am_M} {r : am_R} (h : (
  am_ok 400 ((v3 + v1)) <|
  if (-1) ≤ (rI M 261 ((v3 + v1)).toNatClampNeg) then
    F 250 21 [.ref 219, .int v1, .int v2, .int v3, .int (rI M 261 ((v3 + v1)).toNatClampNeg), .int 0] [] M
  else
    am_rt 2 0 M) = some r) : F 250 0 [.ref 219, .int v1, .int v2, .int v3] [] M = some r := by
  refine e_Model_isRight hF ?_
  refine (cl_gR (gk_219 hg) (gr_219_55 hg)).trans ?_
  obtain ⟨k1, h⟩ := iv_ok h; refine (cl_ia (gk_261 hg) k1).trans ?_
  rcases iv_ite h with ⟨hc, h⟩ | ⟨hc, h⟩
  · refine (if_pos hc).trans ?_
    exact h
  · refine (if_neg hc).trans ?_
    exact h
theorem s_Model_isRight_21 {g : am_G} {F : am_FT} (hF : F = am_F T0 g) (hg : GG g) {v1 : Int32} {v2 : Int32} {v3 : Int32} {v4 : Int32} {v5 : Int32} {M : am_M} {r : am_R} (h : (
  if (2 * (fI M 219 4)) ≤ v5 then
    am_rt 2 1 M
  else
    am_ci (F 234 0 [.ref 219, .int v1, .int v5] [] M) fun x2 M1 => /- Model_mayTurn -/
    if x2 = 0 then
      F 250 21 [.ref 219, .int v1, .int v2, .int v3, .int v4, .int (v5 + 1)] [] M1
    else
      am_dv 2 <|
      am_ok 8 v2 <|
      if (v5 / 2) = (rI M1 228 v2.toNatClampNeg) then
        am_ok 400 ((v3 + v5)) <|
        if v4 = (-1) then
          if (1 : Int32) = 0 then
            if (rI M1 261 ((v3 + v5)).toNatClampNeg) < 0 then
              F 250 21 [.ref 219, .int v1, .int v2, .int v3, .int v4, .int (v5 + 1)] [] M1
            else
              am_rt 2 0 M1
          else
            am_rt 2 0 M1
        else
          if (1 : Int32) = 0 then
            if (rI M1 261 ((v3 + v5)).toNatClampNeg) < 0 then
              F 250 21 [.ref 219, .int v1, .int v2, .int v3, .int v4, .int (v5 + 1)] [] M1
            else
              am_dv 2 <|
              am_ci (F 130 0 [.ref 219, .int (v5 / 2), .int (fI M1 219 58)] [] M1) fun x10 M9 => /- Model_priceOf -/
              if (lg_cmp v4.toInt64 ((x10.toInt64 + ((rI M1 261 ((v3 + v5)).toNatClampNeg)).toInt64))) ≤ 0 then
                F 250 21 [.ref 219, .int v1, .int v2, .int v3, .int v4, .int (v5 + 1)] [] M9
              else
                am_rt 2 0 M9
          else
            am_ci (F 63 0 [.ref 219, .int v2, .int v5] [] M1) fun x12 M11 => /- Model_toDoor -/
            if x12 < v4 then
              am_rt 2 0 M11
            else
              if (rI M1 261 ((v3 + v5)).toNatClampNeg) < 0 then
                F 250 21 [.ref 219, .int v1, .int v2, .int v3, .int v4, .int (v5 + 1)] [] M11
              else
                am_dv 2 <|
                am_ci (F 130 0 [.ref 219, .int (v5 / 2), .int (fI M11 219 58)] [] M11) fun x14 M13 => /- Model_priceOf -/
                if (lg_cmp v4.toInt64 ((x14.toInt64 + ((rI M1 261 ((v3 + v5)).toNatClampNeg)).toInt64))) ≤ 0 then
                  F 250 21 [.ref 219, .int v1, .int v2, .int v3, .int v4, .int (v5 + 1)] [] M13
                else
                  am_rt 2 0 M13
      else
        am_ok 400 ((v3 + v5)) <|
        if v4 = (-1) then
          if (0 : Int32) = 0 then
            if (rI M1 261 ((v3 + v5)).toNatClampNeg) < 0 then
              F 250 21 [.ref 219, .int v1, .int v2, .int v3, .int v4, .int (v5 + 1)] [] M1
            else
              am_rt 2 0 M1
          else
            am_rt 2 0 M1
        else
          if (0 : Int32) = 0 then
            if (rI M1 261 ((v3 + v5)).toNatClampNeg) < 0 then
              F 250 21 [.ref 219, .int v1, .int v2, .int v3, .int v4, .int (v5 + 1)] [] M1
            else
              am_dv 2 <|
              am_ci (F 130 0 [.ref 219, .int (v5 / 2), .int (fI M1 219 58)] [] M1) fun x4 M3 => /- Model_priceOf -/
              if (lg_cmp v4.toInt64 ((x4.toInt64 + ((rI M1 261 ((v3 + v5)).toNatClampNeg)).toInt64))) ≤ 0 then
                F 250 21 [.ref 219, .int v1, .int v2, .int v3, .int v4, .int (v5 + 1)] [] M3
              else
                am_rt 2 0 M3
          else
            am_ci (F 63 0 [.ref 219, .int v2, .int v5] [] M1) fun x6 M5 => /- Model_toDoor -/
            if x6 < v4 then
              am_rt 2 0 M5
            else
              if (rI M1 261 ((v3 + v5)).toNatClampNeg) < 0 then
                F 250 21 [.ref 219, .int v1, .int v2, .int v3, .int v4, .int (v5 + 1)] [] M5
              else
                am_dv 2 <|
                am_ci (F 130 0 [.ref 219, .int (v5 / 2), .int (fI M5 219 58)] [] M5) fun x8 M7 => /- Model_priceOf -/
                if (lg_cmp v4.toInt64 ((x8.toInt64 + ((rI M1 261 ((v3 + v5)).toNatClampNeg)).toInt64))) ≤ 0 then
                  F 250 21 [.ref 219, .int v1, .int v2, .int v3, .int v4, .int (v5 + 1)] [] M7
                else
                  am_rt 2 0 M7) = some r) : F 250 21 [.ref 219, .int v1, .int v2, .int v3, .int v4, .int v5] [] M = some r := by
  refine e_Model_isRight_21 hF ?_
  refine (cl_gI (gk_219 hg)).trans ?_
  rcases iv_ite h with ⟨hc, h⟩ | ⟨hc, h⟩
  · refine (if_pos hc).trans ?_
    exact h
  · refine (if_neg hc).trans ?_
    refine (cl_rc (gk_219 hg)).trans ?_
    obtain ⟨x2, M1, k1, h⟩ := iv_ci h; refine (cl_ci k1).trans ?_
    rcases iv_ite h with ⟨hc, h⟩ | ⟨hc, h⟩
    · refine (if_pos hc).trans ?_
      exact h
    · refine (if_neg hc).trans ?_
      obtain ⟨k2, h⟩ := iv_dv h; refine (cl_dv k2).trans ?_
      refine (cl_gR (gk_219 hg) (gr_219_11 hg)).trans ?_
      obtain ⟨k3, h⟩ := iv_ok h; refine (cl_ia (gk_228 hg) k3).trans ?_
      rcases iv_ite h with ⟨hc, h⟩ | ⟨hc, h⟩
      · refine (if_pos hc).trans ?_
        refine (cl_gR (gk_219 hg) (gr_219_55 hg)).trans ?_
        obtain ⟨k10, h⟩ := iv_ok h; refine (cl_ia (gk_261 hg) k10).trans ?_
        rcases iv_ite h with ⟨hc, h⟩ | ⟨hc, h⟩
        · refine (if_pos hc).trans ?_
          rcases iv_ite h with ⟨hc, h⟩ | ⟨hc, h⟩
          · refine (if_pos hc).trans ?_
            rcases iv_ite h with ⟨hc, h⟩ | ⟨hc, h⟩
            · refine (if_pos hc).trans ?_
              exact h
            · refine (if_neg hc).trans ?_
              exact h
          · refine (if_neg hc).trans ?_
            exact h
        · refine (if_neg hc).trans ?_
          rcases iv_ite h with ⟨hc, h⟩ | ⟨hc, h⟩
          · refine (if_pos hc).trans ?_
            rcases iv_ite h with ⟨hc, h⟩ | ⟨hc, h⟩
            · refine (if_pos hc).trans ?_
              exact h
            · refine (if_neg hc).trans ?_
              obtain ⟨k11, h⟩ := iv_dv h; refine (cl_dv k11).trans ?_
              refine (cl_gI (gk_219 hg)).trans ?_
              refine (cl_rc (gk_219 hg)).trans ?_
              obtain ⟨x10, M9, k12, h⟩ := iv_ci h; refine (cl_ci k12).trans ?_
              rcases iv_ite h with ⟨hc, h⟩ | ⟨hc, h⟩
              · refine (if_pos hc).trans ?_
                exact h
              · refine (if_neg hc).trans ?_
                exact h
          · refine (if_neg hc).trans ?_
            refine (cl_rc (gk_219 hg)).trans ?_
            obtain ⟨x12, M11, k13, h⟩ := iv_ci h; refine (cl_ci k13).trans ?_
            rcases iv_ite h with ⟨hc, h⟩ | ⟨hc, h⟩
            · refine (if_pos hc).trans ?_
              exact h
            · refine (if_neg hc).trans ?_
              rcases iv_ite h with ⟨hc, h⟩ | ⟨hc, h⟩
              · refine (if_pos hc).trans ?_
                exact h
              · refine (if_neg hc).trans ?_
                obtain ⟨k14, h⟩ := iv_dv h; refine (cl_dv k14).trans ?_
                refine (cl_gI (gk_219 hg)).trans ?_
                refine (cl_rc (gk_219 hg)).trans ?_
                obtain ⟨x14, M13, k15, h⟩ := iv_ci h; refine (cl_ci k15).trans ?_
                rcases iv_ite h with ⟨hc, h⟩ | ⟨hc, h⟩
                · refine (if_pos hc).trans ?_
                  exact h
                · refine (if_neg hc).trans ?_
                  exact h
      · refine (if_neg hc).trans ?_
        refine (cl_gR (gk_219 hg) (gr_219_55 hg)).trans ?_
        obtain ⟨k4, h⟩ := iv_ok h; refine (cl_ia (gk_261 hg) k4).trans ?_
        rcases iv_ite h with ⟨hc, h⟩ | ⟨hc, h⟩
        · refine (if_pos hc).trans ?_
          rcases iv_ite h with ⟨hc, h⟩ | ⟨hc, h⟩
          · refine (if_pos hc).trans ?_
            rcases iv_ite h with ⟨hc, h⟩ | ⟨hc, h⟩
            · refine (if_pos hc).trans ?_
              exact h
            · refine (if_neg hc).trans ?_
              exact h
          · refine (if_neg hc).trans ?_
            exact h
        · refine (if_neg hc).trans ?_
          rcases iv_ite h with ⟨hc, h⟩ | ⟨hc, h⟩
          · refine (if_pos hc).trans ?_
            rcases iv_ite h with ⟨hc, h⟩ | ⟨hc, h⟩
            · refine (if_pos hc).trans ?_
              exact h
            · refine (if_neg hc).trans ?_
              obtain ⟨k5, h⟩ := iv_dv h; refine (cl_dv k5).trans ?_
              refine (cl_gI (gk_219 hg)).trans ?_
              refine (cl_rc (gk_219 hg)).trans ?_
              obtain ⟨x4, M3, k6, h⟩ := iv_ci h; refine (cl_ci k6).trans ?_
              rcases iv_ite h with ⟨hc, h⟩ | ⟨hc, h⟩
              · refine (if_pos hc).trans ?_
                exact h
              · refine (if_neg hc).trans ?_
                exact h
          · refine (if_neg hc).trans ?_
            refine (cl_rc (gk_219 hg)).trans ?_
            obtain ⟨x6, M5, k7, h⟩ := iv_ci h; refine (cl_ci k7).trans ?_
            rcases iv_ite h with ⟨hc, h⟩ | ⟨hc, h⟩
            · refine (if_pos hc).trans ?_
              exact h
            · refine (if_neg hc).trans ?_
              rcases iv_ite h with ⟨hc, h⟩ | ⟨hc, h⟩
              · refine (if_pos hc).trans ?_
                exact h
              · refine (if_neg hc).trans ?_
                obtain ⟨k8, h⟩ := iv_dv h; refine (cl_dv k8).trans ?_
                refine (cl_gI (gk_219 hg)).trans ?_
                refine (cl_rc (gk_219 hg)).trans ?_
                obtain ⟨x8, M7, k9, h⟩ := iv_ci h; refine (cl_ci k9).trans ?_
                rcases iv_ite h with ⟨hc, h⟩ | ⟨hc, h⟩
                · refine (if_pos hc).trans ?_
                  exact h
                · refine (if_neg hc).trans ?_
                  exact h
theorem s_Model_letsDown {g : am_G} {F : am_FT} (hF : F = am_F T0 g) (hg : GG g) {v1 : Int32} {M : am_M} {r : am_R} (h : (
  F 251 9 [.ref 219, .int v1, .int (2 * (fI M 219 4)), .int 0] [] M) = some r) : F 251 0 [.ref 219, .int v1] [] M = some r := by
  refine e_Model_letsDown hF ?_
  refine (cl_gI (gk_219 hg)).trans ?_
  exact h
theorem s_Model_letsDown_9 {g : am_G} {F : am_FT} (hF : F = am_F T0 g) (hg : GG g) {v1 : Int32} {v2 : Int32} {v3 : Int32} {M : am_M} {r : am_R} (h : (
  if v2 ≤ v3 then
    F 251 40 [.ref 219, .int v1, .int v2, .int 1] [] M
  else
    am_ok 80 v3 <|
    am_lt (wJ M 262 v3.toNatClampNeg 1000000000000) fun M1 =>
    am_ok 80 v3 <|
    am_lt (wJ M1 263 v3.toNatClampNeg 1000000000000) fun M2 =>
    F 251 9 [.ref 219, .int v1, .int v2, .int (v3 + 1)] [] M2) = some r) : F 251 9 [.ref 219, .int v1, .int v2, .int v3] [] M = some r := by
  refine e_Model_letsDown_9 hF ?_
  rcases iv_ite h with ⟨hc, h⟩ | ⟨hc, h⟩
  · refine (if_pos hc).trans ?_
    exact h
  · refine (if_neg hc).trans ?_
    refine (cl_gR (gk_219 hg) (gr_219_61 hg)).trans ?_
    obtain ⟨k1, h⟩ := iv_ok h; refine (cl_ls (gk_262 hg) k1).trans ?_
    replace h := iv_lt h
    refine (cl_gR (gk_219 hg) (gr_219_62 hg)).trans ?_
    obtain ⟨k2, h⟩ := iv_ok h; refine (cl_ls (gk_263 hg) k2).trans ?_
    replace h := iv_lt h
    exact h
theorem s_Model_letsDown_40 {g : am_G} {F : am_FT} (hF : F = am_F T0 g) (hg : GG g) {v1 : Int32} {v2 : Int32} {v3 : Int32} {M : am_M} {r : am_R} (h : (
  if v3 = 0 then
    some (none, M)
  else
    F 251 49 [.ref 219, .int v1, .int v2, .int 0, .int 0] [] M) = some r) : F 251 40 [.ref 219, .int v1, .int v2, .int v3] [] M = some r := by
  refine e_Model_letsDown_40 hF ?_
  rcases iv_ite h with ⟨hc, h⟩ | ⟨hc, h⟩
  · refine (if_pos hc).trans ?_
    exact h
  · refine (if_neg hc).trans ?_
    exact h
theorem s_Model_letsDown_49 {g : am_G} {F : am_FT} (hF : F = am_F T0 g) (hg : GG g) {v1 : Int32} {v2 : Int32} {v3 : Int32} {v4 : Int32} {M : am_M} {r : am_R} (h : (
  if v2 ≤ v4 then
    F 251 40 [.ref 219, .int v1, .int v2, .int v3] [] M
  else
    F 251 58 [.ref 219, .int v1, .int v2, .int v3, .int v4, .int 0] [] M) = some r) : F 251 49 [.ref 219, .int v1, .int v2, .int v3, .int v4] [] M = some r := by
  refine e_Model_letsDown_49 hF ?_
  rcases iv_ite h with ⟨hc, h⟩ | ⟨hc, h⟩
  · refine (if_pos hc).trans ?_
    exact h
  · refine (if_neg hc).trans ?_
    exact h
theorem s_Model_letsDown_58 {g : am_G} {F : am_FT} (hF : F = am_F T0 g) (hg : GG g) {v1 : Int32} {v2 : Int32} {v3 : Int32} {v4 : Int32} {v5 : Int32} {M : am_M} {r : am_R} (h : (
  if v2 ≤ v5 then
    F 251 49 [.ref 219, .int v1, .int v2, .int v3, .int (v4 + 1)] [] M
  else
    am_ci (F 234 0 [.ref 219, .int v4, .int v5] [] M) fun x2 M1 => /- Model_mayTurn -/
    if x2 = 0 then
      F 251 58 [.ref 219, .int v1, .int v2, .int v3, .int v4, .int (v5 + 1)] [] M1
    else
      am_dv 2 <|
      am_ok 8 v1 <|
      if (v5 / 2) = (rI M1 228 v1.toNatClampNeg) then
        am_ci (F 63 0 [.ref 219, .int v1, .int v5] [] M1) fun x8 M7 => /- Model_toDoor -/
        am_ci (F 189 0 [.ref 219, .int v4, .long 0, .long x8.toInt64] [] M7) fun x10 M9 => /- Model_lets -/
        if x10 = 0 then
          if v3 = 0 then
            am_ok 80 v5 <|
            if 0 ≤ (lg_cmp ((rJ M9 262 v5.toNatClampNeg)) 1000000000000) then
              F 251 58 [.ref 219, .int v1, .int v2, .int 0, .int v4, .int (v5 + 1)] [] M9
            else
              am_ok 80 v5 <|
              am_ok 80 v5 <|
              am_dv 2 <|
              am_ci (F 130 0 [.ref 219, .int (v5 / 2), .int (fI M9 219 58)] [] M9) fun x16 M15 => /- Model_priceOf -/
              am_ci (F 189 0 [.ref 219, .int v4, .long (rJ M9 262 v5.toNatClampNeg), .long ((rJ M9 263 v5.toNatClampNeg) + x16.toInt64)] [] M15) fun x18 M17 => /- Model_lets -/
              if x18 = 0 then
                if (0 : Int32) = 0 then
                  F 251 58 [.ref 219, .int v1, .int v2, .int 0, .int v4, .int (v5 + 1)] [] M17
                else
                  F 251 58 [.ref 219, .int v1, .int v2, .int 1, .int v4, .int (v5 + 1)] [] M17
              else
                F 251 58 [.ref 219, .int v1, .int v2, .int 1, .int v4, .int (v5 + 1)] [] M17
          else
            am_ok 80 v5 <|
            if 0 ≤ (lg_cmp ((rJ M9 262 v5.toNatClampNeg)) 1000000000000) then
              F 251 58 [.ref 219, .int v1, .int v2, .int 1, .int v4, .int (v5 + 1)] [] M9
            else
              am_ok 80 v5 <|
              am_ok 80 v5 <|
              am_dv 2 <|
              am_ci (F 130 0 [.ref 219, .int (v5 / 2), .int (fI M9 219 58)] [] M9) fun x20 M19 => /- Model_priceOf -/
              am_ci (F 189 0 [.ref 219, .int v4, .long (rJ M9 262 v5.toNatClampNeg), .long ((rJ M9 263 v5.toNatClampNeg) + x20.toInt64)] [] M19) fun x22 M21 => /- Model_lets -/
              if x22 = 0 then
                if (1 : Int32) = 0 then
                  F 251 58 [.ref 219, .int v1, .int v2, .int 0, .int v4, .int (v5 + 1)] [] M21
                else
                  F 251 58 [.ref 219, .int v1, .int v2, .int 1, .int v4, .int (v5 + 1)] [] M21
              else
                F 251 58 [.ref 219, .int v1, .int v2, .int 1, .int v4, .int (v5 + 1)] [] M21
        else
          am_ok 80 v5 <|
          if 0 ≤ (lg_cmp ((rJ M9 262 v5.toNatClampNeg)) 1000000000000) then
            F 251 58 [.ref 219, .int v1, .int v2, .int 1, .int v4, .int (v5 + 1)] [] M9
          else
            am_ok 80 v5 <|
            am_ok 80 v5 <|
            am_dv 2 <|
            am_ci (F 130 0 [.ref 219, .int (v5 / 2), .int (fI M9 219 58)] [] M9) fun x12 M11 => /- Model_priceOf -/
            am_ci (F 189 0 [.ref 219, .int v4, .long (rJ M9 262 v5.toNatClampNeg), .long ((rJ M9 263 v5.toNatClampNeg) + x12.toInt64)] [] M11) fun x14 M13 => /- Model_lets -/
            if x14 = 0 then
              if (1 : Int32) = 0 then
                F 251 58 [.ref 219, .int v1, .int v2, .int 0, .int v4, .int (v5 + 1)] [] M13
              else
                F 251 58 [.ref 219, .int v1, .int v2, .int 1, .int v4, .int (v5 + 1)] [] M13
            else
              F 251 58 [.ref 219, .int v1, .int v2, .int 1, .int v4, .int (v5 + 1)] [] M13
      else
        am_ok 80 v5 <|
        if 0 ≤ (lg_cmp ((rJ M1 262 v5.toNatClampNeg)) 1000000000000) then
          F 251 58 [.ref 219, .int v1, .int v2, .int v3, .int v4, .int (v5 + 1)] [] M1
        else
          am_ok 80 v5 <|
          am_ok 80 v5 <|
          am_dv 2 <|
          am_ci (F 130 0 [.ref 219, .int (v5 / 2), .int (fI M1 219 58)] [] M1) fun x4 M3 => /- Model_priceOf -/
          am_ci (F 189 0 [.ref 219, .int v4, .long (rJ M1 262 v5.toNatClampNeg), .long ((rJ M1 263 v5.toNatClampNeg) + x4.toInt64)] [] M3) fun x6 M5 => /- Model_lets -/
          if x6 = 0 then
            if v3 = 0 then
              F 251 58 [.ref 219, .int v1, .int v2, .int 0, .int v4, .int (v5 + 1)] [] M5
            else
              F 251 58 [.ref 219, .int v1, .int v2, .int 1, .int v4, .int (v5 + 1)] [] M5
          else
            F 251 58 [.ref 219, .int v1, .int v2, .int 1, .int v4, .int (v5 + 1)] [] M5) = some r) : F 251 58 [.ref 219, .int v1, .int v2, .int v3, .int v4, .int v5] [] M = some r := by
  refine e_Model_letsDown_58 hF ?_
  rcases iv_ite h with ⟨hc, h⟩ | ⟨hc, h⟩
  · refine (if_pos hc).trans ?_
    exact h
  · refine (if_neg hc).trans ?_
    refine (cl_rc (gk_219 hg)).trans ?_
    obtain ⟨x2, M1, k1, h⟩ := iv_ci h; refine (cl_ci k1).trans ?_
    rcases iv_ite h with ⟨hc, h⟩ | ⟨hc, h⟩
    · refine (if_pos hc).trans ?_
      exact h
    · refine (if_neg hc).trans ?_
      obtain ⟨k2, h⟩ := iv_dv h; refine (cl_dv k2).trans ?_
      refine (cl_gR (gk_219 hg) (gr_219_11 hg)).trans ?_
      obtain ⟨k3, h⟩ := iv_ok h; refine (cl_ia (gk_228 hg) k3).trans ?_
      rcases iv_ite h with ⟨hc, h⟩ | ⟨hc, h⟩
      · refine (if_pos hc).trans ?_
        refine (cl_rc (gk_219 hg)).trans ?_
        obtain ⟨x8, M7, k10, h⟩ := iv_ci h; refine (cl_ci k10).trans ?_
        refine (cl_rc (gk_219 hg)).trans ?_
        obtain ⟨x10, M9, k11, h⟩ := iv_ci h; refine (cl_ci k11).trans ?_
        rcases iv_ite h with ⟨hc, h⟩ | ⟨hc, h⟩
        · refine (if_pos hc).trans ?_
          rcases iv_ite h with ⟨hc, h⟩ | ⟨hc, h⟩
          · refine (if_pos hc).trans ?_
            refine (cl_gR (gk_219 hg) (gr_219_61 hg)).trans ?_
            obtain ⟨k18, h⟩ := iv_ok h; refine (cl_la (gk_262 hg) k18).trans ?_
            rcases iv_ite h with ⟨hc, h⟩ | ⟨hc, h⟩
            · refine (if_pos hc).trans ?_
              exact h
            · refine (if_neg hc).trans ?_
              refine (cl_gR (gk_219 hg) (gr_219_61 hg)).trans ?_
              obtain ⟨k19, h⟩ := iv_ok h; refine (cl_la (gk_262 hg) k19).trans ?_
              refine (cl_gR (gk_219 hg) (gr_219_62 hg)).trans ?_
              obtain ⟨k20, h⟩ := iv_ok h; refine (cl_la (gk_263 hg) k20).trans ?_
              obtain ⟨k21, h⟩ := iv_dv h; refine (cl_dv k21).trans ?_
              refine (cl_gI (gk_219 hg)).trans ?_
              refine (cl_rc (gk_219 hg)).trans ?_
              obtain ⟨x16, M15, k22, h⟩ := iv_ci h; refine (cl_ci k22).trans ?_
              refine (cl_rc (gk_219 hg)).trans ?_
              obtain ⟨x18, M17, k23, h⟩ := iv_ci h; refine (cl_ci k23).trans ?_
              rcases iv_ite h with ⟨hc, h⟩ | ⟨hc, h⟩
              · refine (if_pos hc).trans ?_
                rcases iv_ite h with ⟨hc, h⟩ | ⟨hc, h⟩
                · refine (if_pos hc).trans ?_
                  exact h
                · refine (if_neg hc).trans ?_
                  exact h
              · refine (if_neg hc).trans ?_
                exact h
          · refine (if_neg hc).trans ?_
            refine (cl_gR (gk_219 hg) (gr_219_61 hg)).trans ?_
            obtain ⟨k24, h⟩ := iv_ok h; refine (cl_la (gk_262 hg) k24).trans ?_
            rcases iv_ite h with ⟨hc, h⟩ | ⟨hc, h⟩
            · refine (if_pos hc).trans ?_
              exact h
            · refine (if_neg hc).trans ?_
              refine (cl_gR (gk_219 hg) (gr_219_61 hg)).trans ?_
              obtain ⟨k25, h⟩ := iv_ok h; refine (cl_la (gk_262 hg) k25).trans ?_
              refine (cl_gR (gk_219 hg) (gr_219_62 hg)).trans ?_
              obtain ⟨k26, h⟩ := iv_ok h; refine (cl_la (gk_263 hg) k26).trans ?_
              obtain ⟨k27, h⟩ := iv_dv h; refine (cl_dv k27).trans ?_
              refine (cl_gI (gk_219 hg)).trans ?_
              refine (cl_rc (gk_219 hg)).trans ?_
              obtain ⟨x20, M19, k28, h⟩ := iv_ci h; refine (cl_ci k28).trans ?_
              refine (cl_rc (gk_219 hg)).trans ?_
              obtain ⟨x22, M21, k29, h⟩ := iv_ci h; refine (cl_ci k29).trans ?_
              rcases iv_ite h with ⟨hc, h⟩ | ⟨hc, h⟩
              · refine (if_pos hc).trans ?_
                rcases iv_ite h with ⟨hc, h⟩ | ⟨hc, h⟩
                · refine (if_pos hc).trans ?_
                  exact h
                · refine (if_neg hc).trans ?_
                  exact h
              · refine (if_neg hc).trans ?_
                exact h
        · refine (if_neg hc).trans ?_
          refine (cl_gR (gk_219 hg) (gr_219_61 hg)).trans ?_
          obtain ⟨k12, h⟩ := iv_ok h; refine (cl_la (gk_262 hg) k12).trans ?_
          rcases iv_ite h with ⟨hc, h⟩ | ⟨hc, h⟩
          · refine (if_pos hc).trans ?_
            exact h
          · refine (if_neg hc).trans ?_
            refine (cl_gR (gk_219 hg) (gr_219_61 hg)).trans ?_
            obtain ⟨k13, h⟩ := iv_ok h; refine (cl_la (gk_262 hg) k13).trans ?_
            refine (cl_gR (gk_219 hg) (gr_219_62 hg)).trans ?_
            obtain ⟨k14, h⟩ := iv_ok h; refine (cl_la (gk_263 hg) k14).trans ?_
            obtain ⟨k15, h⟩ := iv_dv h; refine (cl_dv k15).trans ?_
            refine (cl_gI (gk_219 hg)).trans ?_
            refine (cl_rc (gk_219 hg)).trans ?_
            obtain ⟨x12, M11, k16, h⟩ := iv_ci h; refine (cl_ci k16).trans ?_
            refine (cl_rc (gk_219 hg)).trans ?_
            obtain ⟨x14, M13, k17, h⟩ := iv_ci h; refine (cl_ci k17).trans ?_
            rcases iv_ite h with ⟨hc, h⟩ | ⟨hc, h⟩
            · refine (if_pos hc).trans ?_
              rcases iv_ite h with ⟨hc, h⟩ | ⟨hc, h⟩
              · refine (if_pos hc).trans ?_
                exact h
              · refine (if_neg hc).trans ?_
                exact h
            · refine (if_neg hc).trans ?_
              exact h
      · refine (if_neg hc).trans ?_
        refine (cl_gR (gk_219 hg) (gr_219_61 hg)).trans ?_
        obtain ⟨k4, h⟩ := iv_ok h; refine (cl_la (gk_262 hg) k4).trans ?_
        rcases iv_ite h with ⟨hc, h⟩ | ⟨hc, h⟩
        · refine (if_pos hc).trans ?_
          exact h
        · refine (if_neg hc).trans ?_
          refine (cl_gR (gk_219 hg) (gr_219_61 hg)).trans ?_
          obtain ⟨k5, h⟩ := iv_ok h; refine (cl_la (gk_262 hg) k5).trans ?_
          refine (cl_gR (gk_219 hg) (gr_219_62 hg)).trans ?_
          obtain ⟨k6, h⟩ := iv_ok h; refine (cl_la (gk_263 hg) k6).trans ?_
          obtain ⟨k7, h⟩ := iv_dv h; refine (cl_dv k7).trans ?_
          refine (cl_gI (gk_219 hg)).trans ?_
          refine (cl_rc (gk_219 hg)).trans ?_
          obtain ⟨x4, M3, k8, h⟩ := iv_ci h; refine (cl_ci k8).trans ?_
          refine (cl_rc (gk_219 hg)).trans ?_
          obtain ⟨x6, M5, k9, h⟩ := iv_ci h; refine (cl_ci k9).trans ?_
          rcases iv_ite h with ⟨hc, h⟩ | ⟨hc, h⟩
          · refine (if_pos hc).trans ?_
            rcases iv_ite h with ⟨hc, h⟩ | ⟨hc, h⟩
            · refine (if_pos hc).trans ?_
              exact h
            · refine (if_neg hc).trans ?_
              exact h
          · refine (if_neg hc).trans ?_
            exact h
theorem s_Model_say {g : am_G} {F : am_FT} (hF : F = am_F T0 g) (hg : GG g) {v1 : Int32} {v2 : Int32} {v3 : Int32} {M : am_M} {r : am_R} (h : (
  am_ci (F 115 0 [.ref 219, .int v1] [] M) fun x2 M1 => /- Model_isDoor -/
  if x2 = 0 then
    am_rt 1 ((-1)) M1
  else
    am_ci (F 115 0 [.ref 219, .int v2] [] M1) fun x4 M3 => /- Model_isDoor -/
    if x4 = 0 then
      am_rt 1 ((-1)) M3
    else
      if v1 = v2 then
        am_rt 1 ((-2)) M3
      else
        am_ci (F 116 0 [.int v3] [] M3) fun x6 M5 => /- Model_isHour -/
        if x6 = 0 then
          am_rt 1 ((-2)) M5
        else
          if (fI M5 219 37) = 10 then
            am_rt 1 ((-4)) M5
          else
            am_ci (F 236 0 [.ref 219] [] M5) fun x8 M7 => /- Model_saidRead -/
            am_lt (fW M7 219 36 0) fun M9 =>
            if x8 = (-1) then
              am_ok 8 v1 <|
              if (fI M9 219 81) = 0 then
                am_ok 21 0 <|
                am_lt (fW M9 268 0 (((2 * (rI M9 228 v1.toNatClampNeg)) + 1))) fun M10 =>
                am_ok 21 0 <|
                am_ci (F 184 0 [.ref 219, .int (fI M10 268 0), .int (fI M10 219 14), .int v3, .int (fI M10 219 14)] [] M10) fun x12 M11 => /- Model_isDrivable -/
                if x12 = 0 then
                  am_rt 1 ((-1001)) M11
                else
                  F 252 124 [.ref 219, .int v1, .int v2, .int v3, .int 1] [] M11
              else
                am_ok 21 0 <|
                am_lt (fW M9 268 0 (((2 * (rI M9 228 v1.toNatClampNeg)) + 0))) fun M13 =>
                am_ok 21 0 <|
                am_ci (F 184 0 [.ref 219, .int (fI M13 268 0), .int (fI M13 219 14), .int v3, .int (fI M13 219 14)] [] M13) fun x15 M14 => /- Model_isDrivable -/
                if x15 = 0 then
                  am_rt 1 ((-1001)) M14
                else
                  F 252 124 [.ref 219, .int v1, .int v2, .int v3, .int 1] [] M14
            else
              am_rt 1 (((-100) - x8)) M9) = some r) : F 252 0 [.ref 219, .int v1, .int v2, .int v3] [] M = some r := by
  refine e_Model_say hF ?_
  refine (cl_rc (gk_219 hg)).trans ?_
  obtain ⟨x2, M1, k1, h⟩ := iv_ci h; refine (cl_ci k1).trans ?_
  rcases iv_ite h with ⟨hc, h⟩ | ⟨hc, h⟩
  · refine (if_pos hc).trans ?_
    exact h
  · refine (if_neg hc).trans ?_
    refine (cl_rc (gk_219 hg)).trans ?_
    obtain ⟨x4, M3, k2, h⟩ := iv_ci h; refine (cl_ci k2).trans ?_
    rcases iv_ite h with ⟨hc, h⟩ | ⟨hc, h⟩
    · refine (if_pos hc).trans ?_
      exact h
    · refine (if_neg hc).trans ?_
      rcases iv_ite h with ⟨hc, h⟩ | ⟨hc, h⟩
      · refine (if_pos hc).trans ?_
        exact h
      · refine (if_neg hc).trans ?_
        obtain ⟨x6, M5, k3, h⟩ := iv_ci h; refine (cl_ci k3).trans ?_
        rcases iv_ite h with ⟨hc, h⟩ | ⟨hc, h⟩
        · refine (if_pos hc).trans ?_
          exact h
        · refine (if_neg hc).trans ?_
          refine (cl_gI (gk_219 hg)).trans ?_
          rcases iv_ite h with ⟨hc, h⟩ | ⟨hc, h⟩
          · refine (if_pos hc).trans ?_
            exact h
          · refine (if_neg hc).trans ?_
            refine (cl_rc (gk_219 hg)).trans ?_
            obtain ⟨x8, M7, k4, h⟩ := iv_ci h; refine (cl_ci k4).trans ?_
            refine (cl_pI (gk_219 hg)).trans ?_
            replace h := iv_lt h
            rcases iv_ite h with ⟨hc, h⟩ | ⟨hc, h⟩
            · refine (if_pos hc).trans ?_
              refine (cl_gR (gk_219 hg) (gr_219_83 hg)).trans ?_
              refine (cl_gR (gk_219 hg) (gr_219_11 hg)).trans ?_
              obtain ⟨k5, h⟩ := iv_ok h; refine (cl_ia (gk_228 hg) k5).trans ?_
              refine (cl_gI (gk_219 hg)).trans ?_
              rcases iv_ite h with ⟨hc, h⟩ | ⟨hc, h⟩
              · refine (if_pos hc).trans ?_
                obtain ⟨k6, h⟩ := iv_ok h; refine (cl_is (gk_268 hg) k6).trans ?_
                replace h := iv_lt h
                refine (cl_gR (gk_219 hg) (gr_219_83 hg)).trans ?_
                obtain ⟨k7, h⟩ := iv_ok h; refine (cl_ia (gk_268 hg) k7).trans ?_
                refine (cl_gI (gk_219 hg)).trans ?_
                refine (cl_gI (gk_219 hg)).trans ?_
                refine (cl_rc (gk_219 hg)).trans ?_
                obtain ⟨x12, M11, k8, h⟩ := iv_ci h; refine (cl_ci k8).trans ?_
                rcases iv_ite h with ⟨hc, h⟩ | ⟨hc, h⟩
                · refine (if_pos hc).trans ?_
                  exact h
                · refine (if_neg hc).trans ?_
                  exact h
              · refine (if_neg hc).trans ?_
                obtain ⟨k9, h⟩ := iv_ok h; refine (cl_is (gk_268 hg) k9).trans ?_
                replace h := iv_lt h
                refine (cl_gR (gk_219 hg) (gr_219_83 hg)).trans ?_
                obtain ⟨k10, h⟩ := iv_ok h; refine (cl_ia (gk_268 hg) k10).trans ?_
                refine (cl_gI (gk_219 hg)).trans ?_
                refine (cl_gI (gk_219 hg)).trans ?_
                refine (cl_rc (gk_219 hg)).trans ?_
                obtain ⟨x15, M14, k11, h⟩ := iv_ci h; refine (cl_ci k11).trans ?_
                rcases iv_ite h with ⟨hc, h⟩ | ⟨hc, h⟩
                · refine (if_pos hc).trans ?_
                  exact h
                · refine (if_neg hc).trans ?_
                  exact h
            · refine (if_neg hc).trans ?_
              exact h
theorem s_Model_say_124 {g : am_G} {F : am_FT} (hF : F = am_F T0 g) (hg : GG g) {v1 : Int32} {v2 : Int32} {v3 : Int32} {v5 : Int32} {M : am_M} {r : am_R} (h : (
  if (fI M 219 78) < v5 then
    am_ci (F 142 0 [.ref 219, .int v1, .int v2] [] M) fun x2 M1 => /- Model_whyLast -/
    if x2 = 0 then
      am_cv (F 186 0 [.ref 219, .int v1, .int v2, .int v3] [] M1) fun M3 => /- Model_keepsSaid -/
      am_rt 1 (((fI M3 219 37) - 1)) M3
    else
      am_rt 1 ((((-1000) - (10 * (fI M1 219 78))) - x2)) M1
  else
    am_ok 21 ((v5 - 1)) <|
    am_ci (F 238 0 [.ref 219, .int v5, .int (rI M 268 ((v5 - 1)).toNatClampNeg), .int v3] [] M) fun x5 M4 => /- Model_whyNot -/
    if x5 = 0 then
      F 252 124 [.ref 219, .int v1, .int v2, .int v3, .int (v5 + 1)] [] M4
    else
      am_rt 1 ((((-1000) - (10 * v5)) - x5)) M4) = some r) : F 252 124 [.ref 219, .int v1, .int v2, .int v3, .int v5] [] M = some r := by
  refine e_Model_say_124 hF ?_
  refine (cl_gI (gk_219 hg)).trans ?_
  rcases iv_ite h with ⟨hc, h⟩ | ⟨hc, h⟩
  · refine (if_pos hc).trans ?_
    refine (cl_rc (gk_219 hg)).trans ?_
    obtain ⟨x2, M1, k1, h⟩ := iv_ci h; refine (cl_ci k1).trans ?_
    rcases iv_ite h with ⟨hc, h⟩ | ⟨hc, h⟩
    · refine (if_pos hc).trans ?_
      refine (cl_rc (gk_219 hg)).trans ?_
      obtain ⟨M3, k2, h⟩ := iv_cv h; refine (cl_cv k2).trans ?_
      refine (cl_gI (gk_219 hg)).trans ?_
      exact h
    · refine (if_neg hc).trans ?_
      refine (cl_gI (gk_219 hg)).trans ?_
      exact h
  · refine (if_neg hc).trans ?_
    refine (cl_gR (gk_219 hg) (gr_219_83 hg)).trans ?_
    obtain ⟨k3, h⟩ := iv_ok h; refine (cl_ia (gk_268 hg) k3).trans ?_
    refine (cl_rc (gk_219 hg)).trans ?_
    obtain ⟨x5, M4, k4, h⟩ := iv_ci h; refine (cl_ci k4).trans ?_
    rcases iv_ite h with ⟨hc, h⟩ | ⟨hc, h⟩
    · refine (if_pos hc).trans ?_
      exact h
    · refine (if_neg hc).trans ?_
      exact h
theorem s_Model_bound {g : am_G} {F : am_FT} (hF : F = am_F T0 g) (hg : GG g) {v1 : Int32} {v2 : Int32} {v3 : Int32} {v4 : Int32} {M : am_M} {r : am_R} (h : (
  am_ci (F 115 0 [.ref 219, .int v1] [] M) fun x2 M1 => /- Model_isDoor -/
  if x2 = 0 then
    am_rt 1 ((-1)) M1
  else
    am_ci (F 115 0 [.ref 219, .int v2] [] M1) fun x4 M3 => /- Model_isDoor -/
    if x4 = 0 then
      am_rt 1 ((-1)) M3
    else
      if v1 = v2 then
        am_rt 1 ((-2)) M3
      else
        am_ci (F 116 0 [.int v3] [] M3) fun x6 M5 => /- Model_isHour -/
        if x6 = 0 then
          am_rt 1 ((-2)) M5
        else
          am_ci (F 53 0 [.int v4, .int 0, .int 3] [] M5) fun x8 M7 => /- Model_in -/
          if x8 = 0 then
            am_rt 1 ((-2)) M7
          else
            am_ok 4 v4 <|
            if (rI M7 259 v4.toNatClampNeg) = (-1) then
              am_rt 1 ((-11)) M7
            else
              am_ok 4 v4 <|
              if (rI M7 259 v4.toNatClampNeg) = 2 then
                am_ok 4 v4 <|
                if (rI M7 260 v4.toNatClampNeg) = (2 * (fI M7 219 4)) then
                  am_cv (F 43 0 [.ref 219, .int (fI M7 219 14), .int v3, .int (fI M7 219 14), .int 1] [] M7) fun M9 => /- Model_asReal -/
                  F 258 107 [.ref 219, .int v1, .int v2, .int v4, .int 0] [] M9
                else
                  am_rt 1 ((-12)) M7
              else
                am_rt 1 ((-13)) M7) = some r) : F 258 0 [.ref 219, .int v1, .int v2, .int v3, .int v4] [] M = some r := by
  refine e_Model_bound hF ?_
  refine (cl_rc (gk_219 hg)).trans ?_
  obtain ⟨x2, M1, k1, h⟩ := iv_ci h; refine (cl_ci k1).trans ?_
  rcases iv_ite h with ⟨hc, h⟩ | ⟨hc, h⟩
  · refine (if_pos hc).trans ?_
    exact h
  · refine (if_neg hc).trans ?_
    refine (cl_rc (gk_219 hg)).trans ?_
    obtain ⟨x4, M3, k2, h⟩ := iv_ci h; refine (cl_ci k2).trans ?_
    rcases iv_ite h with ⟨hc, h⟩ | ⟨hc, h⟩
    · refine (if_pos hc).trans ?_
      exact h
    · refine (if_neg hc).trans ?_
      rcases iv_ite h with ⟨hc, h⟩ | ⟨hc, h⟩
      · refine (if_pos hc).trans ?_
        exact h
      · refine (if_neg hc).trans ?_
        obtain ⟨x6, M5, k3, h⟩ := iv_ci h; refine (cl_ci k3).trans ?_
        rcases iv_ite h with ⟨hc, h⟩ | ⟨hc, h⟩
        · refine (if_pos hc).trans ?_
          exact h
        · refine (if_neg hc).trans ?_
          obtain ⟨x8, M7, k4, h⟩ := iv_ci h; refine (cl_ci k4).trans ?_
          rcases iv_ite h with ⟨hc, h⟩ | ⟨hc, h⟩
          · refine (if_pos hc).trans ?_
            exact h
          · refine (if_neg hc).trans ?_
            refine (cl_gR (gk_219 hg) (gr_219_53 hg)).trans ?_
            obtain ⟨k5, h⟩ := iv_ok h; refine (cl_ia (gk_259 hg) k5).trans ?_
            rcases iv_ite h with ⟨hc, h⟩ | ⟨hc, h⟩
            · refine (if_pos hc).trans ?_
              exact h
            · refine (if_neg hc).trans ?_
              refine (cl_gR (gk_219 hg) (gr_219_53 hg)).trans ?_
              obtain ⟨k6, h⟩ := iv_ok h; refine (cl_ia (gk_259 hg) k6).trans ?_
              rcases iv_ite h with ⟨hc, h⟩ | ⟨hc, h⟩
              · refine (if_pos hc).trans ?_
                refine (cl_gR (gk_219 hg) (gr_219_54 hg)).trans ?_
                obtain ⟨k7, h⟩ := iv_ok h; refine (cl_ia (gk_260 hg) k7).trans ?_
                refine (cl_gI (gk_219 hg)).trans ?_
                rcases iv_ite h with ⟨hc, h⟩ | ⟨hc, h⟩
                · refine (if_pos hc).trans ?_
                  refine (cl_gI (gk_219 hg)).trans ?_
                  refine (cl_gI (gk_219 hg)).trans ?_
                  refine (cl_rc (gk_219 hg)).trans ?_
                  obtain ⟨M9, k8, h⟩ := iv_cv h; refine (cl_cv k8).trans ?_
                  exact h
                · refine (if_neg hc).trans ?_
                  exact h
              · refine (if_neg hc).trans ?_
                exact h
theorem s_Model_bound_107 {g : am_G} {F : am_FT} (hF : F = am_F T0 g) (hg : GG g) {v1 : Int32} {v2 : Int32} {v4 : Int32} {v5 : Int32} {M : am_M} {r : am_R} (h : (
  if (2 * (fI M 219 4)) ≤ v5 then
    am_ok 8 v1 <|
    F 258 160 [.ref 219, .int v1, .int v2, .int v4, .long 1000000000000, .int (2 * (rI M 228 v1.toNatClampNeg))] [] M
  else
    am_ci (F 250 0 [.ref 219, .int v5, .int v2, .int (100 * v4)] [] M) fun x2 M1 => /- Model_isRight -/
    if x2 = 0 then
      am_rt 1 (((-100) - v5)) M1
    else
      F 258 107 [.ref 219, .int v1, .int v2, .int v4, .int (v5 + 1)] [] M1) = some r) : F 258 107 [.ref 219, .int v1, .int v2, .int v4, .int v5] [] M = some r := by
  refine e_Model_bound_107 hF ?_
  refine (cl_gI (gk_219 hg)).trans ?_
  rcases iv_ite h with ⟨hc, h⟩ | ⟨hc, h⟩
  · refine (if_pos hc).trans ?_
    refine (cl_gR (gk_219 hg) (gr_219_11 hg)).trans ?_
    obtain ⟨k1, h⟩ := iv_ok h; refine (cl_ia (gk_228 hg) k1).trans ?_
    exact h
  · refine (if_neg hc).trans ?_
    refine (cl_rc (gk_219 hg)).trans ?_
    obtain ⟨x2, M1, k2, h⟩ := iv_ci h; refine (cl_ci k2).trans ?_
    rcases iv_ite h with ⟨hc, h⟩ | ⟨hc, h⟩
    · refine (if_pos hc).trans ?_
      exact h
    · refine (if_neg hc).trans ?_
      exact h
theorem s_Model_bound_160 {g : am_G} {F : am_FT} (hF : F = am_F T0 g) (hg : GG g) {v1 : Int32} {v2 : Int32} {v4 : Int32} {w5 : Int64} {v7 : Int32} {M : am_M} {r : am_R} (h : (
  am_ok 8 v1 <|
  if ((2 * (rI M 228 v1.toNatClampNeg)) + 1) < v7 then
    if (lg_cmp w5 1000000000000) = 0 then
      am_rt 1 ((-1)) M
    else
      if (lg_cmp w5 2147483647) ≤ 0 then
        am_rt 1 w5.toInt32 M
      else
        am_rt 1 2147483647 M
  else
    am_ci (F 225 0 [.ref 219, .int v7] [] M) fun x2 M1 => /- Model_mayGo -/
    if x2 = 0 then
      F 258 160 [.ref 219, .int v1, .int v2, .int v4, .long w5, .int (v7 + 1)] [] M1
    else
      am_ok 400 (((100 * v4) + v7)) <|
      am_ci (F 45 0 [.ref 219, .int v1, .int v2, .int v7] [] M1) fun x4 M3 => /- Model_between -/
      if (rI M1 261 (((100 * v4) + v7)).toNatClampNeg) < 0 then
        if x4 < 0 then
          F 258 160 [.ref 219, .int v1, .int v2, .int v4, .long w5, .int (v7 + 1)] [] M3
        else
          if 0 ≤ (lg_cmp x4.toInt64 w5) then
            F 258 160 [.ref 219, .int v1, .int v2, .int v4, .long w5, .int (v7 + 1)] [] M3
          else
            F 258 160 [.ref 219, .int v1, .int v2, .int v4, .long x4.toInt64, .int (v7 + 1)] [] M3
      else
        am_ci (F 51 0 [.ref 219, .int v1, .int v7] [] M3) fun x6 M5 => /- Model_fromDoor -/
        if 0 ≤ (lg_cmp ((x6.toInt64 + ((rI M1 261 (((100 * v4) + v7)).toNatClampNeg)).toInt64)) w5) then
          if x4 < 0 then
            F 258 160 [.ref 219, .int v1, .int v2, .int v4, .long w5, .int (v7 + 1)] [] M5
          else
            if 0 ≤ (lg_cmp x4.toInt64 w5) then
              F 258 160 [.ref 219, .int v1, .int v2, .int v4, .long w5, .int (v7 + 1)] [] M5
            else
              F 258 160 [.ref 219, .int v1, .int v2, .int v4, .long x4.toInt64, .int (v7 + 1)] [] M5
        else
          am_ci (F 51 0 [.ref 219, .int v1, .int v7] [] M5) fun x8 M7 => /- Model_fromDoor -/
          if x4 < 0 then
            F 258 160 [.ref 219, .int v1, .int v2, .int v4, .long (x8.toInt64 + ((rI M1 261 (((100 * v4) + v7)).toNatClampNeg)).toInt64), .int (v7 + 1)] [] M7
          else
            if 0 ≤ (lg_cmp x4.toInt64 ((x8.toInt64 + ((rI M1 261 (((100 * v4) + v7)).toNatClampNeg)).toInt64))) then
              F 258 160 [.ref 219, .int v1, .int v2, .int v4, .long (x8.toInt64 + ((rI M1 261 (((100 * v4) + v7)).toNatClampNeg)).toInt64), .int (v7 + 1)] [] M7
            else
              F 258 160 [.ref 219, .int v1, .int v2, .int v4, .long x4.toInt64, .int (v7 + 1)] [] M7) = some r) : F 258 160 [.ref 219, .int v1, .int v2, .int v4, .long w5, .int v7] [] M = some r := by
  refine e_Model_bound_160 hF ?_
  refine (cl_gR (gk_219 hg) (gr_219_11 hg)).trans ?_
  obtain ⟨k1, h⟩ := iv_ok h; refine (cl_ia (gk_228 hg) k1).trans ?_
  rcases iv_ite h with ⟨hc, h⟩ | ⟨hc, h⟩
  · refine (if_pos hc).trans ?_
    rcases iv_ite h with ⟨hc, h⟩ | ⟨hc, h⟩
    · refine (if_pos hc).trans ?_
      exact h
    · refine (if_neg hc).trans ?_
      rcases iv_ite h with ⟨hc, h⟩ | ⟨hc, h⟩
      · refine (if_pos hc).trans ?_
        exact h
      · refine (if_neg hc).trans ?_
        exact h
  · refine (if_neg hc).trans ?_
    refine (cl_rc (gk_219 hg)).trans ?_
    obtain ⟨x2, M1, k2, h⟩ := iv_ci h; refine (cl_ci k2).trans ?_
    rcases iv_ite h with ⟨hc, h⟩ | ⟨hc, h⟩
    · refine (if_pos hc).trans ?_
      exact h
    · refine (if_neg hc).trans ?_
      refine (cl_gR (gk_219 hg) (gr_219_55 hg)).trans ?_
      obtain ⟨k3, h⟩ := iv_ok h; refine (cl_ia (gk_261 hg) k3).trans ?_
      refine (cl_rc (gk_219 hg)).trans ?_
      obtain ⟨x4, M3, k4, h⟩ := iv_ci h; refine (cl_ci k4).trans ?_
      rcases iv_ite h with ⟨hc, h⟩ | ⟨hc, h⟩
      · refine (if_pos hc).trans ?_
        rcases iv_ite h with ⟨hc, h⟩ | ⟨hc, h⟩
        · refine (if_pos hc).trans ?_
          exact h
        · refine (if_neg hc).trans ?_
          rcases iv_ite h with ⟨hc, h⟩ | ⟨hc, h⟩
          · refine (if_pos hc).trans ?_
            exact h
          · refine (if_neg hc).trans ?_
            exact h
      · refine (if_neg hc).trans ?_
        refine (cl_rc (gk_219 hg)).trans ?_
        obtain ⟨x6, M5, k5, h⟩ := iv_ci h; refine (cl_ci k5).trans ?_
        rcases iv_ite h with ⟨hc, h⟩ | ⟨hc, h⟩
        · refine (if_pos hc).trans ?_
          rcases iv_ite h with ⟨hc, h⟩ | ⟨hc, h⟩
          · refine (if_pos hc).trans ?_
            exact h
          · refine (if_neg hc).trans ?_
            rcases iv_ite h with ⟨hc, h⟩ | ⟨hc, h⟩
            · refine (if_pos hc).trans ?_
              exact h
            · refine (if_neg hc).trans ?_
              exact h
        · refine (if_neg hc).trans ?_
          refine (cl_rc (gk_219 hg)).trans ?_
          obtain ⟨x8, M7, k6, h⟩ := iv_ci h; refine (cl_ci k6).trans ?_
          rcases iv_ite h with ⟨hc, h⟩ | ⟨hc, h⟩
          · refine (if_pos hc).trans ?_
            exact h
          · refine (if_neg hc).trans ?_
            rcases iv_ite h with ⟨hc, h⟩ | ⟨hc, h⟩
            · refine (if_pos hc).trans ?_
              exact h
            · refine (if_neg hc).trans ?_
              exact h
theorem s_Model_prove {g : am_G} {F : am_FT} (hF : F = am_F T0 g) (hg : GG g) {v1 : Int32} {v2 : Int32} {v3 : Int32} {M : am_M} {r : am_R} (h : (
  am_ci (F 115 0 [.ref 219, .int v1] [] M) fun x2 M1 => /- Model_isDoor -/
  if x2 = 0 then
    am_rt 1 ((-1)) M1
  else
    am_ci (F 115 0 [.ref 219, .int v2] [] M1) fun x4 M3 => /- Model_isDoor -/
    if x4 = 0 then
      am_rt 1 ((-1)) M3
    else
      if v1 = v2 then
        am_rt 1 ((-2)) M3
      else
        am_ci (F 116 0 [.int v3] [] M3) fun x6 M5 => /- Model_isHour -/
        if x6 = 0 then
          am_rt 1 ((-2)) M5
        else
          am_cv (F 43 0 [.ref 219, .int (fI M5 219 14), .int v3, .int (fI M5 219 14), .int 1] [] M5) fun M7 => /- Model_asReal -/
          am_lt (fW M7 219 67 0) fun M8 =>
          am_lt (fW M8 219 68 0) fun M9 =>
          am_lt (fW M9 219 69 0) fun M10 =>
          am_lt (fW M10 219 70 0) fun M11 =>
          am_cv (F 251 0 [.ref 219, .int v2] [] M11) fun M12 => /- Model_letsDown -/
          am_ok 4 0 <|
          am_lt (fW M12 259 0 2) fun M13 =>
          am_ok 4 0 <|
          am_lt (fW M13 260 0 ((2 * (fI M13 219 4)))) fun M14 =>
          F 259 94 [.ref 219, .int 0] [] M14) = some r) : F 259 0 [.ref 219, .int v1, .int v2, .int v3] [] M = some r := by
  refine e_Model_prove hF ?_
  refine (cl_rc (gk_219 hg)).trans ?_
  obtain ⟨x2, M1, k1, h⟩ := iv_ci h; refine (cl_ci k1).trans ?_
  rcases iv_ite h with ⟨hc, h⟩ | ⟨hc, h⟩
  · refine (if_pos hc).trans ?_
    exact h
  · refine (if_neg hc).trans ?_
    refine (cl_rc (gk_219 hg)).trans ?_
    obtain ⟨x4, M3, k2, h⟩ := iv_ci h; refine (cl_ci k2).trans ?_
    rcases iv_ite h with ⟨hc, h⟩ | ⟨hc, h⟩
    · refine (if_pos hc).trans ?_
      exact h
    · refine (if_neg hc).trans ?_
      rcases iv_ite h with ⟨hc, h⟩ | ⟨hc, h⟩
      · refine (if_pos hc).trans ?_
        exact h
      · refine (if_neg hc).trans ?_
        obtain ⟨x6, M5, k3, h⟩ := iv_ci h; refine (cl_ci k3).trans ?_
        rcases iv_ite h with ⟨hc, h⟩ | ⟨hc, h⟩
        · refine (if_pos hc).trans ?_
          exact h
        · refine (if_neg hc).trans ?_
          refine (cl_gI (gk_219 hg)).trans ?_
          refine (cl_gI (gk_219 hg)).trans ?_
          refine (cl_rc (gk_219 hg)).trans ?_
          obtain ⟨M7, k4, h⟩ := iv_cv h; refine (cl_cv k4).trans ?_
          refine (cl_pI (gk_219 hg)).trans ?_
          replace h := iv_lt h
          refine (cl_pI (gk_219 hg)).trans ?_
          replace h := iv_lt h
          refine (cl_pI (gk_219 hg)).trans ?_
          replace h := iv_lt h
          refine (cl_pI (gk_219 hg)).trans ?_
          replace h := iv_lt h
          refine (cl_rc (gk_219 hg)).trans ?_
          obtain ⟨M12, k5, h⟩ := iv_cv h; refine (cl_cv k5).trans ?_
          refine (cl_gR (gk_219 hg) (gr_219_53 hg)).trans ?_
          obtain ⟨k6, h⟩ := iv_ok h; refine (cl_is (gk_259 hg) k6).trans ?_
          replace h := iv_lt h
          refine (cl_gR (gk_219 hg) (gr_219_54 hg)).trans ?_
          refine (cl_gI (gk_219 hg)).trans ?_
          obtain ⟨k7, h⟩ := iv_ok h; refine (cl_is (gk_260 hg) k7).trans ?_
          replace h := iv_lt h
          exact h
theorem s_Model_prove_94 {g : am_G} {F : am_FT} (hF : F = am_F T0 g) (hg : GG g) {v4 : Int32} {M : am_M} {r : am_R} (h : (
  if 100 ≤ v4 then
    am_rt 1 ((2 * (fI M 219 4))) M
  else
    if (2 * (fI M 219 4)) ≤ v4 then
      am_ok 400 v4 <|
      am_lt (wI M 261 v4.toNatClampNeg 0) fun M1 =>
      F 259 94 [.ref 219, .int (v4 + 1)] [] M1
    else
      am_ok 80 v4 <|
      if 0 ≤ (lg_cmp ((rJ M 262 v4.toNatClampNeg)) 1000000000000) then
        am_ok 400 v4 <|
        am_lt (wI M 261 v4.toNatClampNeg ((-1))) fun M2 =>
        F 259 94 [.ref 219, .int (v4 + 1)] [] M2
      else
        am_ok 80 v4 <|
        am_ok 400 v4 <|
        am_lt (wI M 261 v4.toNatClampNeg (((rJ M 263 v4.toNatClampNeg)).toInt32)) fun M3 =>
        F 259 94 [.ref 219, .int (v4 + 1)] [] M3) = some r) : F 259 94 [.ref 219, .int v4] [] M = some r := by
  refine e_Model_prove_94 hF ?_
  rcases iv_ite h with ⟨hc, h⟩ | ⟨hc, h⟩
  · refine (if_pos hc).trans ?_
    refine (cl_gI (gk_219 hg)).trans ?_
    exact h
  · refine (if_neg hc).trans ?_
    refine (cl_gR (gk_219 hg) (gr_219_55 hg)).trans ?_
    refine (cl_gI (gk_219 hg)).trans ?_
    rcases iv_ite h with ⟨hc, h⟩ | ⟨hc, h⟩
    · refine (if_pos hc).trans ?_
      obtain ⟨k1, h⟩ := iv_ok h; refine (cl_is (gk_261 hg) k1).trans ?_
      replace h := iv_lt h
      exact h
    · refine (if_neg hc).trans ?_
      refine (cl_gR (gk_219 hg) (gr_219_61 hg)).trans ?_
      obtain ⟨k2, h⟩ := iv_ok h; refine (cl_la (gk_262 hg) k2).trans ?_
      rcases iv_ite h with ⟨hc, h⟩ | ⟨hc, h⟩
      · refine (if_pos hc).trans ?_
        obtain ⟨k3, h⟩ := iv_ok h; refine (cl_is (gk_261 hg) k3).trans ?_
        replace h := iv_lt h
        exact h
      · refine (if_neg hc).trans ?_
        refine (cl_gR (gk_219 hg) (gr_219_62 hg)).trans ?_
        obtain ⟨k4, h⟩ := iv_ok h; refine (cl_la (gk_263 hg) k4).trans ?_
        obtain ⟨k5, h⟩ := iv_ok h; refine (cl_is (gk_261 hg) k5).trans ?_
        replace h := iv_lt h
        exact h
theorem s_Model_search {g : am_G} {F : am_FT} (hF : F = am_F T0 g) (hg : GG g) {v1 : Int32} {v2 : Int32} {M : am_M} {r : am_R} (h : (
  am_ok 8 v1 <|
  am_ok 40 ((rI M 228 v1.toNatClampNeg)) <|
  am_ok 24 ((rI M 224 ((rI M 228 v1.toNatClampNeg)).toNatClampNeg)) <|
  am_lt (fW M 219 67 ((rI M 220 ((rI M 224 ((rI M 228 v1.toNatClampNeg)).toNatClampNeg)).toNatClampNeg))) fun M1 =>
  am_ok 8 v1 <|
  am_ok 40 ((rI M1 228 v1.toNatClampNeg)) <|
  am_ok 24 ((rI M1 224 ((rI M1 228 v1.toNatClampNeg)).toNatClampNeg)) <|
  am_lt (fW M1 219 68 ((rI M1 221 ((rI M1 224 ((rI M1 228 v1.toNatClampNeg)).toNatClampNeg)).toNatClampNeg))) fun M2 =>
  am_ok 8 v2 <|
  am_ok 40 ((rI M2 228 v2.toNatClampNeg)) <|
  am_ok 24 ((rI M2 224 ((rI M2 228 v2.toNatClampNeg)).toNatClampNeg)) <|
  am_lt (fW M2 219 69 ((rI M2 220 ((rI M2 224 ((rI M2 228 v2.toNatClampNeg)).toNatClampNeg)).toNatClampNeg))) fun M3 =>
  am_ok 8 v2 <|
  am_ok 40 ((rI M3 228 v2.toNatClampNeg)) <|
  am_ok 24 ((rI M3 224 ((rI M3 228 v2.toNatClampNeg)).toNatClampNeg)) <|
  am_lt (fW M3 219 70 ((rI M3 221 ((rI M3 224 ((rI M3 228 v2.toNatClampNeg)).toNatClampNeg)).toNatClampNeg))) fun M4 =>
  am_cv (F 251 0 [.ref 219, .int v2] [] M4) fun M5 => /- Model_letsDown -/
  am_lt (fW M5 219 64 0) fun M6 =>
  am_lt (fX M6 219 65 ((-1))) fun M7 =>
  am_lt (fX M7 219 66 ((-1))) fun M8 =>
  am_ok 8 v1 <|
  F 260 129 [.ref 219, .int v1, .int v2, .long 1000000000000, .long 1000000000000, .int (-1), .int 0, .int (2 * (rI M8 228 v1.toNatClampNeg))] [] M8) = some r) : F 260 0 [.ref 219, .int v1, .int v2] [] M = some r := by
  refine e_Model_search hF ?_
  refine (cl_gR (gk_219 hg) (gr_219_1 hg)).trans ?_
  refine (cl_gR (gk_219 hg) (gr_219_6 hg)).trans ?_
  refine (cl_gR (gk_219 hg) (gr_219_11 hg)).trans ?_
  obtain ⟨k1, h⟩ := iv_ok h; refine (cl_ia (gk_228 hg) k1).trans ?_
  obtain ⟨k2, h⟩ := iv_ok h; refine (cl_ia (gk_224 hg) k2).trans ?_
  obtain ⟨k3, h⟩ := iv_ok h; refine (cl_ia (gk_220 hg) k3).trans ?_
  refine (cl_pI (gk_219 hg)).trans ?_
  replace h := iv_lt h
  refine (cl_gR (gk_219 hg) (gr_219_2 hg)).trans ?_
  refine (cl_gR (gk_219 hg) (gr_219_6 hg)).trans ?_
  refine (cl_gR (gk_219 hg) (gr_219_11 hg)).trans ?_
  obtain ⟨k4, h⟩ := iv_ok h; refine (cl_ia (gk_228 hg) k4).trans ?_
  obtain ⟨k5, h⟩ := iv_ok h; refine (cl_ia (gk_224 hg) k5).trans ?_
  obtain ⟨k6, h⟩ := iv_ok h; refine (cl_ia (gk_221 hg) k6).trans ?_
  refine (cl_pI (gk_219 hg)).trans ?_
  replace h := iv_lt h
  refine (cl_gR (gk_219 hg) (gr_219_1 hg)).trans ?_
  refine (cl_gR (gk_219 hg) (gr_219_6 hg)).trans ?_
  refine (cl_gR (gk_219 hg) (gr_219_11 hg)).trans ?_
  obtain ⟨k7, h⟩ := iv_ok h; refine (cl_ia (gk_228 hg) k7).trans ?_
  obtain ⟨k8, h⟩ := iv_ok h; refine (cl_ia (gk_224 hg) k8).trans ?_
  obtain ⟨k9, h⟩ := iv_ok h; refine (cl_ia (gk_220 hg) k9).trans ?_
  refine (cl_pI (gk_219 hg)).trans ?_
  replace h := iv_lt h
  refine (cl_gR (gk_219 hg) (gr_219_2 hg)).trans ?_
  refine (cl_gR (gk_219 hg) (gr_219_6 hg)).trans ?_
  refine (cl_gR (gk_219 hg) (gr_219_11 hg)).trans ?_
  obtain ⟨k10, h⟩ := iv_ok h; refine (cl_ia (gk_228 hg) k10).trans ?_
  obtain ⟨k11, h⟩ := iv_ok h; refine (cl_ia (gk_224 hg) k11).trans ?_
  obtain ⟨k12, h⟩ := iv_ok h; refine (cl_ia (gk_221 hg) k12).trans ?_
  refine (cl_pI (gk_219 hg)).trans ?_
  replace h := iv_lt h
  refine (cl_rc (gk_219 hg)).trans ?_
  obtain ⟨M5, k13, h⟩ := iv_cv h; refine (cl_cv k13).trans ?_
  refine (cl_pI (gk_219 hg)).trans ?_
  replace h := iv_lt h
  refine (cl_pJ (gk_219 hg)).trans ?_
  replace h := iv_lt h
  refine (cl_pJ (gk_219 hg)).trans ?_
  replace h := iv_lt h
  refine (cl_gR (gk_219 hg) (gr_219_11 hg)).trans ?_
  obtain ⟨k14, h⟩ := iv_ok h; refine (cl_ia (gk_228 hg) k14).trans ?_
  exact h
theorem s_Model_search_129 {g : am_G} {F : am_FT} (hF : F = am_F T0 g) (hg : GG g) {v1 : Int32} {v2 : Int32} {w3 : Int64} {w5 : Int64} {v7 : Int32} {v8 : Int32} {v9 : Int32} {M : am_M} {r : am_R} (h : (
  am_ok 8 v1 <|
  if ((2 * (rI M 228 v1.toNatClampNeg)) + 1) < v9 then
    if v7 = (-1) then
      some (none, M)
    else
      am_lt (fX M 219 65 w3) fun M1 =>
      am_lt (fX M1 219 66 w5) fun M2 =>
      am_ok 80 0 <|
      am_lt (fW M2 264 0 v7) fun M3 =>
      am_lt (fW M3 219 64 1) fun M4 =>
      F 260 313 [.ref 219, .int v2, .int v8] [] M4
  else
    am_ci (F 225 0 [.ref 219, .int v9] [] M) fun x6 M5 => /- Model_mayGo -/
    if x6 = 0 then
      F 260 129 [.ref 219, .int v1, .int v2, .long w3, .long w5, .int v7, .int v8, .int (v9 + 1)] [] M5
    else
      am_ci (F 45 0 [.ref 219, .int v1, .int v2, .int v9] [] M5) fun x8 M7 => /- Model_between -/
      if x8 < 0 then
        am_ok 80 v9 <|
        if 0 ≤ (lg_cmp ((rJ M7 262 v9.toNatClampNeg)) 1000000000000) then
          F 260 129 [.ref 219, .int v1, .int v2, .long w3, .long w5, .int v7, .int v8, .int (v9 + 1)] [] M7
        else
          am_ok 80 v9 <|
          am_ci (F 51 0 [.ref 219, .int v1, .int v9] [] M7) fun x10 M9 => /- Model_fromDoor -/
          am_ok 80 v9 <|
          am_ci (F 56 0 [.ref 219, .long (rJ M7 262 v9.toNatClampNeg), .long (x10.toInt64 + (rJ M9 263 v9.toNatClampNeg)), .long w3, .long w5] [] M9) fun x12 M11 => /- Model_isLess -/
          if x12 = 0 then
            F 260 129 [.ref 219, .int v1, .int v2, .long w3, .long w5, .int v7, .int v8, .int (v9 + 1)] [] M11
          else
            am_ok 80 v9 <|
            am_ci (F 51 0 [.ref 219, .int v1, .int v9] [] M11) fun x14 M13 => /- Model_fromDoor -/
            am_ok 80 v9 <|
            F 260 129 [.ref 219, .int v1, .int v2, .long (rJ M11 262 v9.toNatClampNeg), .long (x14.toInt64 + (rJ M13 263 v9.toNatClampNeg)), .int v9, .int 0, .int (v9 + 1)] [] M13
      else
        am_ci (F 56 0 [.ref 219, .long 0, .long x8.toInt64, .long w3, .long w5] [] M7) fun x16 M15 => /- Model_isLess -/
        if x16 = 0 then
          am_ok 80 v9 <|
          if 0 ≤ (lg_cmp ((rJ M15 262 v9.toNatClampNeg)) 1000000000000) then
            F 260 129 [.ref 219, .int v1, .int v2, .long w3, .long w5, .int v7, .int v8, .int (v9 + 1)] [] M15
          else
            am_ok 80 v9 <|
            am_ci (F 51 0 [.ref 219, .int v1, .int v9] [] M15) fun x18 M17 => /- Model_fromDoor -/
            am_ok 80 v9 <|
            am_ci (F 56 0 [.ref 219, .long (rJ M15 262 v9.toNatClampNeg), .long (x18.toInt64 + (rJ M17 263 v9.toNatClampNeg)), .long w3, .long w5] [] M17) fun x20 M19 => /- Model_isLess -/
            if x20 = 0 then
              F 260 129 [.ref 219, .int v1, .int v2, .long w3, .long w5, .int v7, .int v8, .int (v9 + 1)] [] M19
            else
              am_ok 80 v9 <|
              am_ci (F 51 0 [.ref 219, .int v1, .int v9] [] M19) fun x22 M21 => /- Model_fromDoor -/
              am_ok 80 v9 <|
              F 260 129 [.ref 219, .int v1, .int v2, .long (rJ M19 262 v9.toNatClampNeg), .long (x22.toInt64 + (rJ M21 263 v9.toNatClampNeg)), .int v9, .int 0, .int (v9 + 1)] [] M21
        else
          am_ok 80 v9 <|
          if 0 ≤ (lg_cmp ((rJ M15 262 v9.toNatClampNeg)) 1000000000000) then
            F 260 129 [.ref 219, .int v1, .int v2, .long 0, .long x8.toInt64, .int v9, .int 1, .int (v9 + 1)] [] M15
          else
            am_ok 80 v9 <|
            am_ci (F 51 0 [.ref 219, .int v1, .int v9] [] M15) fun x24 M23 => /- Model_fromDoor -/
            am_ok 80 v9 <|
            am_ci (F 56 0 [.ref 219, .long (rJ M15 262 v9.toNatClampNeg), .long (x24.toInt64 + (rJ M23 263 v9.toNatClampNeg)), .long 0, .long x8.toInt64] [] M23) fun x26 M25 => /- Model_isLess -/
            if x26 = 0 then
              F 260 129 [.ref 219, .int v1, .int v2, .long 0, .long x8.toInt64, .int v9, .int 1, .int (v9 + 1)] [] M25
            else
              am_ok 80 v9 <|
              am_ci (F 51 0 [.ref 219, .int v1, .int v9] [] M25) fun x28 M27 => /- Model_fromDoor -/
              am_ok 80 v9 <|
              F 260 129 [.ref 219, .int v1, .int v2, .long (rJ M25 262 v9.toNatClampNeg), .long (x28.toInt64 + (rJ M27 263 v9.toNatClampNeg)), .int v9, .int 0, .int (v9 + 1)] [] M27) = some r) : F 260 129 [.ref 219, .int v1, .int v2, .long w3, .long w5, .int v7, .int v8, .int v9] [] M = some r := by
  refine e_Model_search_129 hF ?_
  refine (cl_gR (gk_219 hg) (gr_219_11 hg)).trans ?_
  obtain ⟨k1, h⟩ := iv_ok h; refine (cl_ia (gk_228 hg) k1).trans ?_
  rcases iv_ite h with ⟨hc, h⟩ | ⟨hc, h⟩
  · refine (if_pos hc).trans ?_
    rcases iv_ite h with ⟨hc, h⟩ | ⟨hc, h⟩
    · refine (if_pos hc).trans ?_
      exact h
    · refine (if_neg hc).trans ?_
      refine (cl_pJ (gk_219 hg)).trans ?_
      replace h := iv_lt h
      refine (cl_pJ (gk_219 hg)).trans ?_
      replace h := iv_lt h
      refine (cl_gR (gk_219 hg) (gr_219_63 hg)).trans ?_
      obtain ⟨k2, h⟩ := iv_ok h; refine (cl_is (gk_264 hg) k2).trans ?_
      replace h := iv_lt h
      refine (cl_pI (gk_219 hg)).trans ?_
      replace h := iv_lt h
      exact h
  · refine (if_neg hc).trans ?_
    refine (cl_rc (gk_219 hg)).trans ?_
    obtain ⟨x6, M5, k3, h⟩ := iv_ci h; refine (cl_ci k3).trans ?_
    rcases iv_ite h with ⟨hc, h⟩ | ⟨hc, h⟩
    · refine (if_pos hc).trans ?_
      exact h
    · refine (if_neg hc).trans ?_
      refine (cl_rc (gk_219 hg)).trans ?_
      obtain ⟨x8, M7, k4, h⟩ := iv_ci h; refine (cl_ci k4).trans ?_
      rcases iv_ite h with ⟨hc, h⟩ | ⟨hc, h⟩
      · refine (if_pos hc).trans ?_
        refine (cl_gR (gk_219 hg) (gr_219_61 hg)).trans ?_
        obtain ⟨k5, h⟩ := iv_ok h; refine (cl_la (gk_262 hg) k5).trans ?_
        rcases iv_ite h with ⟨hc, h⟩ | ⟨hc, h⟩
        · refine (if_pos hc).trans ?_
          exact h
        · refine (if_neg hc).trans ?_
          refine (cl_gR (gk_219 hg) (gr_219_61 hg)).trans ?_
          obtain ⟨k6, h⟩ := iv_ok h; refine (cl_la (gk_262 hg) k6).trans ?_
          refine (cl_rc (gk_219 hg)).trans ?_
          obtain ⟨x10, M9, k7, h⟩ := iv_ci h; refine (cl_ci k7).trans ?_
          refine (cl_gR (gk_219 hg) (gr_219_62 hg)).trans ?_
          obtain ⟨k8, h⟩ := iv_ok h; refine (cl_la (gk_263 hg) k8).trans ?_
          refine (cl_rc (gk_219 hg)).trans ?_
          obtain ⟨x12, M11, k9, h⟩ := iv_ci h; refine (cl_ci k9).trans ?_
          rcases iv_ite h with ⟨hc, h⟩ | ⟨hc, h⟩
          · refine (if_pos hc).trans ?_
            exact h
          · refine (if_neg hc).trans ?_
            refine (cl_gR (gk_219 hg) (gr_219_61 hg)).trans ?_
            obtain ⟨k10, h⟩ := iv_ok h; refine (cl_la (gk_262 hg) k10).trans ?_
            refine (cl_rc (gk_219 hg)).trans ?_
            obtain ⟨x14, M13, k11, h⟩ := iv_ci h; refine (cl_ci k11).trans ?_
            refine (cl_gR (gk_219 hg) (gr_219_62 hg)).trans ?_
            obtain ⟨k12, h⟩ := iv_ok h; refine (cl_la (gk_263 hg) k12).trans ?_
            exact h
      · refine (if_neg hc).trans ?_
        refine (cl_rc (gk_219 hg)).trans ?_
        obtain ⟨x16, M15, k13, h⟩ := iv_ci h; refine (cl_ci k13).trans ?_
        rcases iv_ite h with ⟨hc, h⟩ | ⟨hc, h⟩
        · refine (if_pos hc).trans ?_
          refine (cl_gR (gk_219 hg) (gr_219_61 hg)).trans ?_
          obtain ⟨k14, h⟩ := iv_ok h; refine (cl_la (gk_262 hg) k14).trans ?_
          rcases iv_ite h with ⟨hc, h⟩ | ⟨hc, h⟩
          · refine (if_pos hc).trans ?_
            exact h
          · refine (if_neg hc).trans ?_
            refine (cl_gR (gk_219 hg) (gr_219_61 hg)).trans ?_
            obtain ⟨k15, h⟩ := iv_ok h; refine (cl_la (gk_262 hg) k15).trans ?_
            refine (cl_rc (gk_219 hg)).trans ?_
            obtain ⟨x18, M17, k16, h⟩ := iv_ci h; refine (cl_ci k16).trans ?_
            refine (cl_gR (gk_219 hg) (gr_219_62 hg)).trans ?_
            obtain ⟨k17, h⟩ := iv_ok h; refine (cl_la (gk_263 hg) k17).trans ?_
            refine (cl_rc (gk_219 hg)).trans ?_
            obtain ⟨x20, M19, k18, h⟩ := iv_ci h; refine (cl_ci k18).trans ?_
            rcases iv_ite h with ⟨hc, h⟩ | ⟨hc, h⟩
            · refine (if_pos hc).trans ?_
              exact h
            · refine (if_neg hc).trans ?_
              refine (cl_gR (gk_219 hg) (gr_219_61 hg)).trans ?_
              obtain ⟨k19, h⟩ := iv_ok h; refine (cl_la (gk_262 hg) k19).trans ?_
              refine (cl_rc (gk_219 hg)).trans ?_
              obtain ⟨x22, M21, k20, h⟩ := iv_ci h; refine (cl_ci k20).trans ?_
              refine (cl_gR (gk_219 hg) (gr_219_62 hg)).trans ?_
              obtain ⟨k21, h⟩ := iv_ok h; refine (cl_la (gk_263 hg) k21).trans ?_
              exact h
        · refine (if_neg hc).trans ?_
          refine (cl_gR (gk_219 hg) (gr_219_61 hg)).trans ?_
          obtain ⟨k22, h⟩ := iv_ok h; refine (cl_la (gk_262 hg) k22).trans ?_
          rcases iv_ite h with ⟨hc, h⟩ | ⟨hc, h⟩
          · refine (if_pos hc).trans ?_
            exact h
          · refine (if_neg hc).trans ?_
            refine (cl_gR (gk_219 hg) (gr_219_61 hg)).trans ?_
            obtain ⟨k23, h⟩ := iv_ok h; refine (cl_la (gk_262 hg) k23).trans ?_
            refine (cl_rc (gk_219 hg)).trans ?_
            obtain ⟨x24, M23, k24, h⟩ := iv_ci h; refine (cl_ci k24).trans ?_
            refine (cl_gR (gk_219 hg) (gr_219_62 hg)).trans ?_
            obtain ⟨k25, h⟩ := iv_ok h; refine (cl_la (gk_263 hg) k25).trans ?_
            refine (cl_rc (gk_219 hg)).trans ?_
            obtain ⟨x26, M25, k26, h⟩ := iv_ci h; refine (cl_ci k26).trans ?_
            rcases iv_ite h with ⟨hc, h⟩ | ⟨hc, h⟩
            · refine (if_pos hc).trans ?_
              exact h
            · refine (if_neg hc).trans ?_
              refine (cl_gR (gk_219 hg) (gr_219_61 hg)).trans ?_
              obtain ⟨k27, h⟩ := iv_ok h; refine (cl_la (gk_262 hg) k27).trans ?_
              refine (cl_rc (gk_219 hg)).trans ?_
              obtain ⟨x28, M27, k28, h⟩ := iv_ci h; refine (cl_ci k28).trans ?_
              refine (cl_gR (gk_219 hg) (gr_219_62 hg)).trans ?_
              obtain ⟨k29, h⟩ := iv_ok h; refine (cl_la (gk_263 hg) k29).trans ?_
              exact h
theorem s_Model_search_313 {g : am_G} {F : am_FT} (hF : F = am_F T0 g) (hg : GG g) {v2 : Int32} {v8 : Int32} {M : am_M} {r : am_R} (h : (
  if v8 = 0 then
    am_ok 80 (((fI M 219 64) - 1)) <|
    F 260 337 [.ref 219, .int v2, .int v8, .int (rI M 264 (((fI M 219 64) - 1)).toNatClampNeg), .int 0, .int 0] [] M
  else
    some (none, M)) = some r) : F 260 313 [.ref 219, .int v2, .int v8] [] M = some r := by
  refine e_Model_search_313 hF ?_
  rcases iv_ite h with ⟨hc, h⟩ | ⟨hc, h⟩
  · refine (if_pos hc).trans ?_
    refine (cl_gR (gk_219 hg) (gr_219_63 hg)).trans ?_
    refine (cl_gI (gk_219 hg)).trans ?_
    obtain ⟨k1, h⟩ := iv_ok h; refine (cl_ia (gk_264 hg) k1).trans ?_
    exact h
  · refine (if_neg hc).trans ?_
    exact h
theorem s_Model_search_337 {g : am_G} {F : am_FT} (hF : F = am_F T0 g) (hg : GG g) {v2 : Int32} {v8 : Int32} {v9 : Int32} {v10 : Int32} {v11 : Int32} {M : am_M} {r : am_R} (h : (
  if v11 = 0 then
    if v8 = 0 then
      am_ci (F 234 0 [.ref 219, .int v9, .int v10] [] M) fun x6 M5 => /- Model_mayTurn -/
      if x6 = 0 then
        F 260 337 [.ref 219, .int v2, .int v8, .int v9, .int (v10 + 1), .int v11] [] M5
      else
        am_dv 2 <|
        am_ok 8 v2 <|
        if (v10 / 2) = (rI M5 228 v2.toNatClampNeg) then
          am_cj (F 127 0 [.ref 219, .int v9] [] M5) fun l12 M11 => /- Model_off -/
          am_ok 80 v9 <|
          if (lg_cmp l12 ((rJ M11 262 v9.toNatClampNeg))) = 0 then
            am_ci (F 63 0 [.ref 219, .int v2, .int v10] [] M11) fun x18 M17 => /- Model_toDoor -/
            am_ok 80 v9 <|
            if (lg_cmp x18.toInt64 ((rJ M17 263 v9.toNatClampNeg))) = 0 then
              am_ok 80 v10 <|
              if 0 ≤ (lg_cmp ((rJ M17 262 v10.toNatClampNeg)) 1000000000000) then
                F 260 337 [.ref 219, .int v2, .int 1, .int v9, .int (v10 + 1), .int 0] [] M17
              else
                am_ok 80 v10 <|
                am_cj (F 127 0 [.ref 219, .int v9] [] M17) fun l24 M23 => /- Model_off -/
                am_ok 80 v9 <|
                if (lg_cmp (((rJ M17 262 v10.toNatClampNeg) + l24)) ((rJ M23 262 v9.toNatClampNeg))) = 0 then
                  am_ok 80 v10 <|
                  am_dv 2 <|
                  am_ci (F 130 0 [.ref 219, .int (v10 / 2), .int (fI M23 219 58)] [] M23) fun x26 M25 => /- Model_priceOf -/
                  am_ok 80 v9 <|
                  if (lg_cmp (((rJ M23 263 v10.toNatClampNeg) + x26.toInt64)) ((rJ M25 263 v9.toNatClampNeg))) = 0 then
                    F 260 337 [.ref 219, .int v2, .int 1, .int v9, .int (v10 + 1), .int 1] [] M25
                  else
                    F 260 337 [.ref 219, .int v2, .int 1, .int v9, .int (v10 + 1), .int 0] [] M25
                else
                  F 260 337 [.ref 219, .int v2, .int 1, .int v9, .int (v10 + 1), .int 0] [] M23
            else
              am_ok 80 v10 <|
              if 0 ≤ (lg_cmp ((rJ M17 262 v10.toNatClampNeg)) 1000000000000) then
                F 260 337 [.ref 219, .int v2, .int 0, .int v9, .int (v10 + 1), .int 0] [] M17
              else
                am_ok 80 v10 <|
                am_cj (F 127 0 [.ref 219, .int v9] [] M17) fun l20 M19 => /- Model_off -/
                am_ok 80 v9 <|
                if (lg_cmp (((rJ M17 262 v10.toNatClampNeg) + l20)) ((rJ M19 262 v9.toNatClampNeg))) = 0 then
                  am_ok 80 v10 <|
                  am_dv 2 <|
                  am_ci (F 130 0 [.ref 219, .int (v10 / 2), .int (fI M19 219 58)] [] M19) fun x22 M21 => /- Model_priceOf -/
                  am_ok 80 v9 <|
                  if (lg_cmp (((rJ M19 263 v10.toNatClampNeg) + x22.toInt64)) ((rJ M21 263 v9.toNatClampNeg))) = 0 then
                    F 260 337 [.ref 219, .int v2, .int 0, .int v9, .int (v10 + 1), .int 1] [] M21
                  else
                    F 260 337 [.ref 219, .int v2, .int 0, .int v9, .int (v10 + 1), .int 0] [] M21
                else
                  F 260 337 [.ref 219, .int v2, .int 0, .int v9, .int (v10 + 1), .int 0] [] M19
          else
            am_ok 80 v10 <|
            if 0 ≤ (lg_cmp ((rJ M11 262 v10.toNatClampNeg)) 1000000000000) then
              F 260 337 [.ref 219, .int v2, .int 0, .int v9, .int (v10 + 1), .int 0] [] M11
            else
              am_ok 80 v10 <|
              am_cj (F 127 0 [.ref 219, .int v9] [] M11) fun l14 M13 => /- Model_off -/
              am_ok 80 v9 <|
              if (lg_cmp (((rJ M11 262 v10.toNatClampNeg) + l14)) ((rJ M13 262 v9.toNatClampNeg))) = 0 then
                am_ok 80 v10 <|
                am_dv 2 <|
                am_ci (F 130 0 [.ref 219, .int (v10 / 2), .int (fI M13 219 58)] [] M13) fun x16 M15 => /- Model_priceOf -/
                am_ok 80 v9 <|
                if (lg_cmp (((rJ M13 263 v10.toNatClampNeg) + x16.toInt64)) ((rJ M15 263 v9.toNatClampNeg))) = 0 then
                  F 260 337 [.ref 219, .int v2, .int 0, .int v9, .int (v10 + 1), .int 1] [] M15
                else
                  F 260 337 [.ref 219, .int v2, .int 0, .int v9, .int (v10 + 1), .int 0] [] M15
              else
                F 260 337 [.ref 219, .int v2, .int 0, .int v9, .int (v10 + 1), .int 0] [] M13
        else
          am_ok 80 v10 <|
          if 0 ≤ (lg_cmp ((rJ M5 262 v10.toNatClampNeg)) 1000000000000) then
            F 260 337 [.ref 219, .int v2, .int 0, .int v9, .int (v10 + 1), .int 0] [] M5
          else
            am_ok 80 v10 <|
            am_cj (F 127 0 [.ref 219, .int v9] [] M5) fun l8 M7 => /- Model_off -/
            am_ok 80 v9 <|
            if (lg_cmp (((rJ M5 262 v10.toNatClampNeg) + l8)) ((rJ M7 262 v9.toNatClampNeg))) = 0 then
              am_ok 80 v10 <|
              am_dv 2 <|
              am_ci (F 130 0 [.ref 219, .int (v10 / 2), .int (fI M7 219 58)] [] M7) fun x10 M9 => /- Model_priceOf -/
              am_ok 80 v9 <|
              if (lg_cmp (((rJ M7 263 v10.toNatClampNeg) + x10.toInt64)) ((rJ M9 263 v9.toNatClampNeg))) = 0 then
                F 260 337 [.ref 219, .int v2, .int 0, .int v9, .int (v10 + 1), .int 1] [] M9
              else
                F 260 337 [.ref 219, .int v2, .int 0, .int v9, .int (v10 + 1), .int 0] [] M9
            else
              F 260 337 [.ref 219, .int v2, .int 0, .int v9, .int (v10 + 1), .int 0] [] M7
    else
      am_ok 80 ((fI M 219 64)) <|
      am_lt (wI M 264 ((fI M 219 64)).toNatClampNeg ((v10 - 1))) fun M3 =>
      am_lt (fW M3 219 64 (((fI M3 219 64) + 1))) fun M4 =>
      F 260 313 [.ref 219, .int v2, .int v8] [] M4
  else
    am_ok 80 ((fI M 219 64)) <|
    am_lt (wI M 264 ((fI M 219 64)).toNatClampNeg ((v10 - 1))) fun M1 =>
    am_lt (fW M1 219 64 (((fI M1 219 64) + 1))) fun M2 =>
    F 260 313 [.ref 219, .int v2, .int v8] [] M2) = some r) : F 260 337 [.ref 219, .int v2, .int v8, .int v9, .int v10, .int v11] [] M = some r := by
  refine e_Model_search_337 hF ?_
  rcases iv_ite h with ⟨hc, h⟩ | ⟨hc, h⟩
  · refine (if_pos hc).trans ?_
    rcases iv_ite h with ⟨hc, h⟩ | ⟨hc, h⟩
    · refine (if_pos hc).trans ?_
      refine (cl_rc (gk_219 hg)).trans ?_
      obtain ⟨x6, M5, k3, h⟩ := iv_ci h; refine (cl_ci k3).trans ?_
      rcases iv_ite h with ⟨hc, h⟩ | ⟨hc, h⟩
      · refine (if_pos hc).trans ?_
        exact h
      · refine (if_neg hc).trans ?_
        obtain ⟨k4, h⟩ := iv_dv h; refine (cl_dv k4).trans ?_
        refine (cl_gR (gk_219 hg) (gr_219_11 hg)).trans ?_
        obtain ⟨k5, h⟩ := iv_ok h; refine (cl_ia (gk_228 hg) k5).trans ?_
        rcases iv_ite h with ⟨hc, h⟩ | ⟨hc, h⟩
        · refine (if_pos hc).trans ?_
          refine (cl_rc (gk_219 hg)).trans ?_
          obtain ⟨l12, M11, k14, h⟩ := iv_cj h; refine (cl_cj k14).trans ?_
          refine (cl_gR (gk_219 hg) (gr_219_61 hg)).trans ?_
          obtain ⟨k15, h⟩ := iv_ok h; refine (cl_la (gk_262 hg) k15).trans ?_
          rcases iv_ite h with ⟨hc, h⟩ | ⟨hc, h⟩
          · refine (if_pos hc).trans ?_
            refine (cl_rc (gk_219 hg)).trans ?_
            obtain ⟨x18, M17, k24, h⟩ := iv_ci h; refine (cl_ci k24).trans ?_
            refine (cl_gR (gk_219 hg) (gr_219_62 hg)).trans ?_
            obtain ⟨k25, h⟩ := iv_ok h; refine (cl_la (gk_263 hg) k25).trans ?_
            rcases iv_ite h with ⟨hc, h⟩ | ⟨hc, h⟩
            · refine (if_pos hc).trans ?_
              refine (cl_gR (gk_219 hg) (gr_219_61 hg)).trans ?_
              obtain ⟨k34, h⟩ := iv_ok h; refine (cl_la (gk_262 hg) k34).trans ?_
              rcases iv_ite h with ⟨hc, h⟩ | ⟨hc, h⟩
              · refine (if_pos hc).trans ?_
                exact h
              · refine (if_neg hc).trans ?_
                refine (cl_gR (gk_219 hg) (gr_219_61 hg)).trans ?_
                obtain ⟨k35, h⟩ := iv_ok h; refine (cl_la (gk_262 hg) k35).trans ?_
                refine (cl_rc (gk_219 hg)).trans ?_
                obtain ⟨l24, M23, k36, h⟩ := iv_cj h; refine (cl_cj k36).trans ?_
                refine (cl_gR (gk_219 hg) (gr_219_61 hg)).trans ?_
                obtain ⟨k37, h⟩ := iv_ok h; refine (cl_la (gk_262 hg) k37).trans ?_
                rcases iv_ite h with ⟨hc, h⟩ | ⟨hc, h⟩
                · refine (if_pos hc).trans ?_
                  refine (cl_gR (gk_219 hg) (gr_219_62 hg)).trans ?_
                  obtain ⟨k38, h⟩ := iv_ok h; refine (cl_la (gk_263 hg) k38).trans ?_
                  obtain ⟨k39, h⟩ := iv_dv h; refine (cl_dv k39).trans ?_
                  refine (cl_gI (gk_219 hg)).trans ?_
                  refine (cl_rc (gk_219 hg)).trans ?_
                  obtain ⟨x26, M25, k40, h⟩ := iv_ci h; refine (cl_ci k40).trans ?_
                  refine (cl_gR (gk_219 hg) (gr_219_62 hg)).trans ?_
                  obtain ⟨k41, h⟩ := iv_ok h; refine (cl_la (gk_263 hg) k41).trans ?_
                  rcases iv_ite h with ⟨hc, h⟩ | ⟨hc, h⟩
                  · refine (if_pos hc).trans ?_
                    exact h
                  · refine (if_neg hc).trans ?_
                    exact h
                · refine (if_neg hc).trans ?_
                  exact h
            · refine (if_neg hc).trans ?_
              refine (cl_gR (gk_219 hg) (gr_219_61 hg)).trans ?_
              obtain ⟨k26, h⟩ := iv_ok h; refine (cl_la (gk_262 hg) k26).trans ?_
              rcases iv_ite h with ⟨hc, h⟩ | ⟨hc, h⟩
              · refine (if_pos hc).trans ?_
                exact h
              · refine (if_neg hc).trans ?_
                refine (cl_gR (gk_219 hg) (gr_219_61 hg)).trans ?_
                obtain ⟨k27, h⟩ := iv_ok h; refine (cl_la (gk_262 hg) k27).trans ?_
                refine (cl_rc (gk_219 hg)).trans ?_
                obtain ⟨l20, M19, k28, h⟩ := iv_cj h; refine (cl_cj k28).trans ?_
                refine (cl_gR (gk_219 hg) (gr_219_61 hg)).trans ?_
                obtain ⟨k29, h⟩ := iv_ok h; refine (cl_la (gk_262 hg) k29).trans ?_
                rcases iv_ite h with ⟨hc, h⟩ | ⟨hc, h⟩
                · refine (if_pos hc).trans ?_
                  refine (cl_gR (gk_219 hg) (gr_219_62 hg)).trans ?_
                  obtain ⟨k30, h⟩ := iv_ok h; refine (cl_la (gk_263 hg) k30).trans ?_
                  obtain ⟨k31, h⟩ := iv_dv h; refine (cl_dv k31).trans ?_
                  refine (cl_gI (gk_219 hg)).trans ?_
                  refine (cl_rc (gk_219 hg)).trans ?_
                  obtain ⟨x22, M21, k32, h⟩ := iv_ci h; refine (cl_ci k32).trans ?_
                  refine (cl_gR (gk_219 hg) (gr_219_62 hg)).trans ?_
                  obtain ⟨k33, h⟩ := iv_ok h; refine (cl_la (gk_263 hg) k33).trans ?_
                  rcases iv_ite h with ⟨hc, h⟩ | ⟨hc, h⟩
                  · refine (if_pos hc).trans ?_
                    exact h
                  · refine (if_neg hc).trans ?_
                    exact h
                · refine (if_neg hc).trans ?_
                  exact h
          · refine (if_neg hc).trans ?_
            refine (cl_gR (gk_219 hg) (gr_219_61 hg)).trans ?_
            obtain ⟨k16, h⟩ := iv_ok h; refine (cl_la (gk_262 hg) k16).trans ?_
            rcases iv_ite h with ⟨hc, h⟩ | ⟨hc, h⟩
            · refine (if_pos hc).trans ?_
              exact h
            · refine (if_neg hc).trans ?_
              refine (cl_gR (gk_219 hg) (gr_219_61 hg)).trans ?_
              obtain ⟨k17, h⟩ := iv_ok h; refine (cl_la (gk_262 hg) k17).trans ?_
              refine (cl_rc (gk_219 hg)).trans ?_
              obtain ⟨l14, M13, k18, h⟩ := iv_cj h; refine (cl_cj k18).trans ?_
              refine (cl_gR (gk_219 hg) (gr_219_61 hg)).trans ?_
              obtain ⟨k19, h⟩ := iv_ok h; refine (cl_la (gk_262 hg) k19).trans ?_
              rcases iv_ite h with ⟨hc, h⟩ | ⟨hc, h⟩
              · refine (if_pos hc).trans ?_
                refine (cl_gR (gk_219 hg) (gr_219_62 hg)).trans ?_
                obtain ⟨k20, h⟩ := iv_ok h; refine (cl_la (gk_263 hg) k20).trans ?_
                obtain ⟨k21, h⟩ := iv_dv h; refine (cl_dv k21).trans ?_
                refine (cl_gI (gk_219 hg)).trans ?_
                refine (cl_rc (gk_219 hg)).trans ?_
                obtain ⟨x16, M15, k22, h⟩ := iv_ci h; refine (cl_ci k22).trans ?_
                refine (cl_gR (gk_219 hg) (gr_219_62 hg)).trans ?_
                obtain ⟨k23, h⟩ := iv_ok h; refine (cl_la (gk_263 hg) k23).trans ?_
                rcases iv_ite h with ⟨hc, h⟩ | ⟨hc, h⟩
                · refine (if_pos hc).trans ?_
                  exact h
                · refine (if_neg hc).trans ?_
                  exact h
              · refine (if_neg hc).trans ?_
                exact h
        · refine (if_neg hc).trans ?_
          refine (cl_gR (gk_219 hg) (gr_219_61 hg)).trans ?_
          obtain ⟨k6, h⟩ := iv_ok h; refine (cl_la (gk_262 hg) k6).trans ?_
          rcases iv_ite h with ⟨hc, h⟩ | ⟨hc, h⟩
          · refine (if_pos hc).trans ?_
            exact h
          · refine (if_neg hc).trans ?_
            refine (cl_gR (gk_219 hg) (gr_219_61 hg)).trans ?_
            obtain ⟨k7, h⟩ := iv_ok h; refine (cl_la (gk_262 hg) k7).trans ?_
            refine (cl_rc (gk_219 hg)).trans ?_
            obtain ⟨l8, M7, k8, h⟩ := iv_cj h; refine (cl_cj k8).trans ?_
            refine (cl_gR (gk_219 hg) (gr_219_61 hg)).trans ?_
            obtain ⟨k9, h⟩ := iv_ok h; refine (cl_la (gk_262 hg) k9).trans ?_
            rcases iv_ite h with ⟨hc, h⟩ | ⟨hc, h⟩
            · refine (if_pos hc).trans ?_
              refine (cl_gR (gk_219 hg) (gr_219_62 hg)).trans ?_
              obtain ⟨k10, h⟩ := iv_ok h; refine (cl_la (gk_263 hg) k10).trans ?_
              obtain ⟨k11, h⟩ := iv_dv h; refine (cl_dv k11).trans ?_
              refine (cl_gI (gk_219 hg)).trans ?_
              refine (cl_rc (gk_219 hg)).trans ?_
              obtain ⟨x10, M9, k12, h⟩ := iv_ci h; refine (cl_ci k12).trans ?_
              refine (cl_gR (gk_219 hg) (gr_219_62 hg)).trans ?_
              obtain ⟨k13, h⟩ := iv_ok h; refine (cl_la (gk_263 hg) k13).trans ?_
              rcases iv_ite h with ⟨hc, h⟩ | ⟨hc, h⟩
              · refine (if_pos hc).trans ?_
                exact h
              · refine (if_neg hc).trans ?_
                exact h
            · refine (if_neg hc).trans ?_
              exact h
    · refine (if_neg hc).trans ?_
      refine (cl_gR (gk_219 hg) (gr_219_63 hg)).trans ?_
      refine (cl_gI (gk_219 hg)).trans ?_
      obtain ⟨k2, h⟩ := iv_ok h; refine (cl_is (gk_264 hg) k2).trans ?_
      replace h := iv_lt h
      refine (cl_gI (gk_219 hg)).trans ?_
      refine (cl_pI (gk_219 hg)).trans ?_
      replace h := iv_lt h
      exact h
  · refine (if_neg hc).trans ?_
    refine (cl_gR (gk_219 hg) (gr_219_63 hg)).trans ?_
    refine (cl_gI (gk_219 hg)).trans ?_
    obtain ⟨k1, h⟩ := iv_ok h; refine (cl_is (gk_264 hg) k1).trans ?_
    replace h := iv_lt h
    refine (cl_gI (gk_219 hg)).trans ?_
    refine (cl_pI (gk_219 hg)).trans ?_
    replace h := iv_lt h
    exact h
theorem s_Model_best {g : am_G} {F : am_FT} (hF : F = am_F T0 g) (hg : GG g) {v1 : Int32} {v2 : Int32} {v3 : Int32} {v4 : Int32} {M : am_M} {r : am_R} (h : (
  am_ci (F 115 0 [.ref 219, .int v1] [] M) fun x2 M1 => /- Model_isDoor -/
  if x2 = 0 then
    am_rt 1 ((-1)) M1
  else
    am_ci (F 115 0 [.ref 219, .int v2] [] M1) fun x4 M3 => /- Model_isDoor -/
    if x4 = 0 then
      am_rt 1 ((-1)) M3
    else
      if v1 = v2 then
        am_rt 1 ((-2)) M3
      else
        am_ci (F 116 0 [.int v3] [] M3) fun x6 M5 => /- Model_isHour -/
        if x6 = 0 then
          am_rt 1 ((-2)) M5
        else
          am_ci (F 53 0 [.int v4, .int 0, .int 1] [] M5) fun x8 M7 => /- Model_in -/
          if x8 = 0 then
            am_rt 1 ((-2)) M7
          else
            am_cv (F 43 0 [.ref 219, .int (fI M7 219 14), .int v3, .int (fI M7 219 14), .int v4] [] M7) fun M9 => /- Model_asReal -/
            am_cv (F 260 0 [.ref 219, .int v1, .int v2] [] M9) fun M10 => /- Model_search -/
            am_ci (F 62 0 [.ref 219] [] M10) fun x12 M11 => /- Model_tells -/
            am_rt 1 x12 M11) = some r) : F 264 0 [.ref 219, .int v1, .int v2, .int v3, .int v4] [] M = some r := by
  refine e_Model_best hF ?_
  refine (cl_rc (gk_219 hg)).trans ?_
  obtain ⟨x2, M1, k1, h⟩ := iv_ci h; refine (cl_ci k1).trans ?_
  rcases iv_ite h with ⟨hc, h⟩ | ⟨hc, h⟩
  · refine (if_pos hc).trans ?_
    exact h
  · refine (if_neg hc).trans ?_
    refine (cl_rc (gk_219 hg)).trans ?_
    obtain ⟨x4, M3, k2, h⟩ := iv_ci h; refine (cl_ci k2).trans ?_
    rcases iv_ite h with ⟨hc, h⟩ | ⟨hc, h⟩
    · refine (if_pos hc).trans ?_
      exact h
    · refine (if_neg hc).trans ?_
      rcases iv_ite h with ⟨hc, h⟩ | ⟨hc, h⟩
      · refine (if_pos hc).trans ?_
        exact h
      · refine (if_neg hc).trans ?_
        obtain ⟨x6, M5, k3, h⟩ := iv_ci h; refine (cl_ci k3).trans ?_
        rcases iv_ite h with ⟨hc, h⟩ | ⟨hc, h⟩
        · refine (if_pos hc).trans ?_
          exact h
        · refine (if_neg hc).trans ?_
          obtain ⟨x8, M7, k4, h⟩ := iv_ci h; refine (cl_ci k4).trans ?_
          rcases iv_ite h with ⟨hc, h⟩ | ⟨hc, h⟩
          · refine (if_pos hc).trans ?_
            exact h
          · refine (if_neg hc).trans ?_
            refine (cl_gI (gk_219 hg)).trans ?_
            refine (cl_gI (gk_219 hg)).trans ?_
            refine (cl_rc (gk_219 hg)).trans ?_
            obtain ⟨M9, k5, h⟩ := iv_cv h; refine (cl_cv k5).trans ?_
            refine (cl_rc (gk_219 hg)).trans ?_
            obtain ⟨M10, k6, h⟩ := iv_cv h; refine (cl_cv k6).trans ?_
            refine (cl_rc (gk_219 hg)).trans ?_
            obtain ⟨x12, M11, k7, h⟩ := iv_ci h; refine (cl_ci k7).trans ?_
            exact h
theorem s_Model_bestOn {g : am_G} {F : am_FT} (hF : F = am_F T0 g) (hg : GG g) {v1 : Int32} {v2 : Int32} {v3 : Int32} {v4 : Int32} {v5 : Int32} {M : am_M} {r : am_R} (h : (
  am_ci (F 115 0 [.ref 219, .int v1] [] M) fun x2 M1 => /- Model_isDoor -/
  if x2 = 0 then
    am_rt 1 ((-1)) M1
  else
    am_ci (F 115 0 [.ref 219, .int v2] [] M1) fun x4 M3 => /- Model_isDoor -/
    if x4 = 0 then
      am_rt 1 ((-1)) M3
    else
      if v1 = v2 then
        am_rt 1 ((-2)) M3
      else
        if v3 < 0 then
          am_rt 1 ((-2)) M3
        else
          am_dv 1000 <|
          if 299 < (v3 / 1000) then
            am_rt 1 ((-2)) M3
          else
            am_dv 1000 <|
            if (fI M3 219 14) < (v3 - v3 / 1000 * 1000) then
              am_rt 1 ((-2)) M3
            else
              am_ci (F 116 0 [.int v4] [] M3) fun x6 M5 => /- Model_isHour -/
              if x6 = 0 then
                am_rt 1 ((-2)) M5
              else
                am_ci (F 53 0 [.int v5, .int 0, .int 1] [] M5) fun x8 M7 => /- Model_in -/
                if x8 = 0 then
                  am_rt 1 ((-2)) M7
                else
                  am_dv 1000 <|
                  am_dv 1000 <|
                  am_cv (F 43 0 [.ref 219, .int (v3 / 1000), .int v4, .int (v3 - v3 / 1000 * 1000), .int v5] [] M7) fun M9 => /- Model_asReal -/
                  am_cv (F 260 0 [.ref 219, .int v1, .int v2] [] M9) fun M10 => /- Model_search -/
                  am_ci (F 62 0 [.ref 219] [] M10) fun x12 M11 => /- Model_tells -/
                  am_rt 1 x12 M11) = some r) : F 265 0 [.ref 219, .int v1, .int v2, .int v3, .int v4, .int v5] [] M = some r := by
  refine e_Model_bestOn hF ?_
  refine (cl_rc (gk_219 hg)).trans ?_
  obtain ⟨x2, M1, k1, h⟩ := iv_ci h; refine (cl_ci k1).trans ?_
  rcases iv_ite h with ⟨hc, h⟩ | ⟨hc, h⟩
  · refine (if_pos hc).trans ?_
    exact h
  · refine (if_neg hc).trans ?_
    refine (cl_rc (gk_219 hg)).trans ?_
    obtain ⟨x4, M3, k2, h⟩ := iv_ci h; refine (cl_ci k2).trans ?_
    rcases iv_ite h with ⟨hc, h⟩ | ⟨hc, h⟩
    · refine (if_pos hc).trans ?_
      exact h
    · refine (if_neg hc).trans ?_
      rcases iv_ite h with ⟨hc, h⟩ | ⟨hc, h⟩
      · refine (if_pos hc).trans ?_
        exact h
      · refine (if_neg hc).trans ?_
        rcases iv_ite h with ⟨hc, h⟩ | ⟨hc, h⟩
        · refine (if_pos hc).trans ?_
          exact h
        · refine (if_neg hc).trans ?_
          obtain ⟨k3, h⟩ := iv_dv h; refine (cl_dv k3).trans ?_
          rcases iv_ite h with ⟨hc, h⟩ | ⟨hc, h⟩
          · refine (if_pos hc).trans ?_
            exact h
          · refine (if_neg hc).trans ?_
            obtain ⟨k4, h⟩ := iv_dv h; refine (cl_dv k4).trans ?_
            refine (cl_gI (gk_219 hg)).trans ?_
            rcases iv_ite h with ⟨hc, h⟩ | ⟨hc, h⟩
            · refine (if_pos hc).trans ?_
              exact h
            · refine (if_neg hc).trans ?_
              obtain ⟨x6, M5, k5, h⟩ := iv_ci h; refine (cl_ci k5).trans ?_
              rcases iv_ite h with ⟨hc, h⟩ | ⟨hc, h⟩
              · refine (if_pos hc).trans ?_
                exact h
              · refine (if_neg hc).trans ?_
                obtain ⟨x8, M7, k6, h⟩ := iv_ci h; refine (cl_ci k6).trans ?_
                rcases iv_ite h with ⟨hc, h⟩ | ⟨hc, h⟩
                · refine (if_pos hc).trans ?_
                  exact h
                · refine (if_neg hc).trans ?_
                  obtain ⟨k7, h⟩ := iv_dv h; refine (cl_dv k7).trans ?_
                  obtain ⟨k8, h⟩ := iv_dv h; refine (cl_dv k8).trans ?_
                  refine (cl_rc (gk_219 hg)).trans ?_
                  obtain ⟨M9, k9, h⟩ := iv_cv h; refine (cl_cv k9).trans ?_
                  refine (cl_rc (gk_219 hg)).trans ?_
                  obtain ⟨M10, k10, h⟩ := iv_cv h; refine (cl_cv k10).trans ?_
                  refine (cl_rc (gk_219 hg)).trans ?_
                  obtain ⟨x12, M11, k11, h⟩ := iv_ci h; refine (cl_ci k11).trans ?_
                  exact h
theorem s_Model_marks {g : am_G} {F : am_FT} (hF : F = am_F T0 g) (hg : GG g) {v1 : Int32} {M : am_M} {r : am_R} (h : (
  am_ok 192 (((8 * v1) + 6)) <|
  am_ok 192 (((8 * v1) + 3)) <|
  am_ok 192 (((8 * v1) + 4)) <|
  am_cv (F 43 0 [.ref 219, .int (rI M 256 (((8 * v1) + 3)).toNatClampNeg), .int (rI M 256 (((8 * v1) + 4)).toNatClampNeg), .int (fI M 219 14), .int 1] [] M) fun M1 => /- Model_asReal -/
  am_ok 192 (((8 * v1) + 1)) <|
  am_ok 192 (((8 * v1) + 2)) <|
  am_cv (F 260 0 [.ref 219, .int (rI M1 256 (((8 * v1) + 1)).toNatClampNeg), .int (rI M1 256 (((8 * v1) + 2)).toNatClampNeg)] [] M1) fun M2 => /- Model_search -/
  am_ok 24 v1 <|
  if (rI M 256 (((8 * v1) + 6)).toNatClampNeg) ≤ 0 then
    am_ok 6 0 <|
    am_lt (fX M2 276 0 0) fun M3 =>
    am_ci (F 224 0 [.ref 219, .int v1, .int (rI M 256 (((8 * v1) + 3)).toNatClampNeg), .int (rI M 256 (((8 * v1) + 4)).toNatClampNeg), .int (fI M3 219 14)] [] M3) fun x5 M4 => /- Model_isWrong -/
    if x5 = 0 then
      am_ok 6 1 <|
      am_lt (fX M4 276 1 0) fun M6 =>
      if (rI M 256 (((8 * v1) + 6)).toNatClampNeg) ≤ 0 then
        F 266 168 [.ref 219, .int v1, .int (rI M 256 (((8 * v1) + 6)).toNatClampNeg), .int (rI M 256 (((8 * v1) + 3)).toNatClampNeg)] [.long 0, .int 2, .ref 276] M6
      else
        if (fI M6 219 64) ≤ 0 then
          F 266 168 [.ref 219, .int v1, .int (rI M 256 (((8 * v1) + 6)).toNatClampNeg), .int (rI M 256 (((8 * v1) + 3)).toNatClampNeg)] [.long 0, .int 2, .ref 276] M6
        else
          if (lg_cmp (((rJ M2 258 v1.toNatClampNeg) - (fJ M2 219 66))) 0) ≤ 0 then
            F 266 168 [.ref 219, .int v1, .int (rI M 256 (((8 * v1) + 6)).toNatClampNeg), .int (rI M 256 (((8 * v1) + 3)).toNatClampNeg)] [.long 0, .int 2, .ref 276] M6
          else
            am_dw (fJ M6 219 66) <|
            F 266 168 [.ref 219, .int v1, .int (rI M 256 (((8 * v1) + 6)).toNatClampNeg), .int (rI M 256 (((8 * v1) + 3)).toNatClampNeg)] [.long ((((rJ M2 258 v1.toNatClampNeg) - (fJ M2 219 66)) * 100) / (fJ M6 219 66)), .int 2, .ref 276] M6
    else
      am_ok 6 1 <|
      am_lt (fX M4 276 1 1) fun M7 =>
      if (rI M 256 (((8 * v1) + 6)).toNatClampNeg) ≤ 0 then
        F 266 168 [.ref 219, .int v1, .int (rI M 256 (((8 * v1) + 6)).toNatClampNeg), .int (rI M 256 (((8 * v1) + 3)).toNatClampNeg)] [.long 0, .int 2, .ref 276] M7
      else
        if (fI M7 219 64) ≤ 0 then
          F 266 168 [.ref 219, .int v1, .int (rI M 256 (((8 * v1) + 6)).toNatClampNeg), .int (rI M 256 (((8 * v1) + 3)).toNatClampNeg)] [.long 0, .int 2, .ref 276] M7
        else
          if (lg_cmp (((rJ M2 258 v1.toNatClampNeg) - (fJ M2 219 66))) 0) ≤ 0 then
            F 266 168 [.ref 219, .int v1, .int (rI M 256 (((8 * v1) + 6)).toNatClampNeg), .int (rI M 256 (((8 * v1) + 3)).toNatClampNeg)] [.long 0, .int 2, .ref 276] M7
          else
            am_dw (fJ M7 219 66) <|
            F 266 168 [.ref 219, .int v1, .int (rI M 256 (((8 * v1) + 6)).toNatClampNeg), .int (rI M 256 (((8 * v1) + 3)).toNatClampNeg)] [.long ((((rJ M2 258 v1.toNatClampNeg) - (fJ M2 219 66)) * 100) / (fJ M7 219 66)), .int 2, .ref 276] M7
  else
    am_ok 6 0 <|
    am_lt (fX M2 276 0 1) fun M8 =>
    am_ci (F 224 0 [.ref 219, .int v1, .int (rI M 256 (((8 * v1) + 3)).toNatClampNeg), .int (rI M 256 (((8 * v1) + 4)).toNatClampNeg), .int (fI M8 219 14)] [] M8) fun x10 M9 => /- Model_isWrong -/
    if x10 = 0 then
      am_ok 6 1 <|
      am_lt (fX M9 276 1 0) fun M11 =>
      if (rI M 256 (((8 * v1) + 6)).toNatClampNeg) ≤ 0 then
        F 266 168 [.ref 219, .int v1, .int (rI M 256 (((8 * v1) + 6)).toNatClampNeg), .int (rI M 256 (((8 * v1) + 3)).toNatClampNeg)] [.long 0, .int 2, .ref 276] M11
      else
        if (fI M11 219 64) ≤ 0 then
          F 266 168 [.ref 219, .int v1, .int (rI M 256 (((8 * v1) + 6)).toNatClampNeg), .int (rI M 256 (((8 * v1) + 3)).toNatClampNeg)] [.long 0, .int 2, .ref 276] M11
        else
          if (lg_cmp (((rJ M2 258 v1.toNatClampNeg) - (fJ M2 219 66))) 0) ≤ 0 then
            F 266 168 [.ref 219, .int v1, .int (rI M 256 (((8 * v1) + 6)).toNatClampNeg), .int (rI M 256 (((8 * v1) + 3)).toNatClampNeg)] [.long 0, .int 2, .ref 276] M11
          else
            am_dw (fJ M11 219 66) <|
            F 266 168 [.ref 219, .int v1, .int (rI M 256 (((8 * v1) + 6)).toNatClampNeg), .int (rI M 256 (((8 * v1) + 3)).toNatClampNeg)] [.long ((((rJ M2 258 v1.toNatClampNeg) - (fJ M2 219 66)) * 100) / (fJ M11 219 66)), .int 2, .ref 276] M11
    else
      am_ok 6 1 <|
      am_lt (fX M9 276 1 1) fun M12 =>
      if (rI M 256 (((8 * v1) + 6)).toNatClampNeg) ≤ 0 then
        F 266 168 [.ref 219, .int v1, .int (rI M 256 (((8 * v1) + 6)).toNatClampNeg), .int (rI M 256 (((8 * v1) + 3)).toNatClampNeg)] [.long 0, .int 2, .ref 276] M12
      else
        if (fI M12 219 64) ≤ 0 then
          F 266 168 [.ref 219, .int v1, .int (rI M 256 (((8 * v1) + 6)).toNatClampNeg), .int (rI M 256 (((8 * v1) + 3)).toNatClampNeg)] [.long 0, .int 2, .ref 276] M12
        else
          if (lg_cmp (((rJ M2 258 v1.toNatClampNeg) - (fJ M2 219 66))) 0) ≤ 0 then
            F 266 168 [.ref 219, .int v1, .int (rI M 256 (((8 * v1) + 6)).toNatClampNeg), .int (rI M 256 (((8 * v1) + 3)).toNatClampNeg)] [.long 0, .int 2, .ref 276] M12
          else
            am_dw (fJ M12 219 66) <|
            F 266 168 [.ref 219, .int v1, .int (rI M 256 (((8 * v1) + 6)).toNatClampNeg), .int (rI M 256 (((8 * v1) + 3)).toNatClampNeg)] [.long ((((rJ M2 258 v1.toNatClampNeg) - (fJ M2 219 66)) * 100) / (fJ M12 219 66)), .int 2, .ref 276] M12) = some r) : F 266 0 [.ref 219, .int v1] [] M = some r := by
  refine e_Model_marks hF ?_
  refine (cl_gR (gk_219 hg) (gr_219_50 hg)).trans ?_
  obtain ⟨k1, h⟩ := iv_ok h; refine (cl_ia (gk_256 hg) k1).trans ?_
  refine (cl_gR (gk_219 hg) (gr_219_50 hg)).trans ?_
  obtain ⟨k2, h⟩ := iv_ok h; refine (cl_ia (gk_256 hg) k2).trans ?_
  refine (cl_gR (gk_219 hg) (gr_219_50 hg)).trans ?_
  obtain ⟨k3, h⟩ := iv_ok h; refine (cl_ia (gk_256 hg) k3).trans ?_
  refine (cl_gI (gk_219 hg)).trans ?_
  refine (cl_rc (gk_219 hg)).trans ?_
  obtain ⟨M1, k4, h⟩ := iv_cv h; refine (cl_cv k4).trans ?_
  refine (cl_gR (gk_219 hg) (gr_219_50 hg)).trans ?_
  obtain ⟨k5, h⟩ := iv_ok h; refine (cl_ia (gk_256 hg) k5).trans ?_
  refine (cl_gR (gk_219 hg) (gr_219_50 hg)).trans ?_
  obtain ⟨k6, h⟩ := iv_ok h; refine (cl_ia (gk_256 hg) k6).trans ?_
  refine (cl_rc (gk_219 hg)).trans ?_
  obtain ⟨M2, k7, h⟩ := iv_cv h; refine (cl_cv k7).trans ?_
  refine (cl_gR (gk_219 hg) (gr_219_52 hg)).trans ?_
  obtain ⟨k8, h⟩ := iv_ok h; refine (cl_la (gk_258 hg) k8).trans ?_
  refine (cl_gJ (gk_219 hg)).trans ?_
  refine (cl_gR (gk_219 hg) (gr_219_93 hg)).trans ?_
  rcases iv_ite h with ⟨hc, h⟩ | ⟨hc, h⟩
  · refine (if_pos hc).trans ?_
    obtain ⟨k9, h⟩ := iv_ok h; refine (cl_ls (gk_276 hg) k9).trans ?_
    replace h := iv_lt h
    refine (cl_gR (gk_219 hg) (gr_219_93 hg)).trans ?_
    refine (cl_gI (gk_219 hg)).trans ?_
    refine (cl_rc (gk_219 hg)).trans ?_
    obtain ⟨x5, M4, k10, h⟩ := iv_ci h; refine (cl_ci k10).trans ?_
    rcases iv_ite h with ⟨hc, h⟩ | ⟨hc, h⟩
    · refine (if_pos hc).trans ?_
      obtain ⟨k11, h⟩ := iv_ok h; refine (cl_ls (gk_276 hg) k11).trans ?_
      replace h := iv_lt h
      refine (cl_gR (gk_219 hg) (gr_219_93 hg)).trans ?_
      rcases iv_ite h with ⟨hc, h⟩ | ⟨hc, h⟩
      · refine (if_pos hc).trans ?_
        exact h
      · refine (if_neg hc).trans ?_
        refine (cl_gI (gk_219 hg)).trans ?_
        rcases iv_ite h with ⟨hc, h⟩ | ⟨hc, h⟩
        · refine (if_pos hc).trans ?_
          exact h
        · refine (if_neg hc).trans ?_
          rcases iv_ite h with ⟨hc, h⟩ | ⟨hc, h⟩
          · refine (if_pos hc).trans ?_
            exact h
          · refine (if_neg hc).trans ?_
            refine (cl_gJ (gk_219 hg)).trans ?_
            obtain ⟨k12, h⟩ := iv_dw h; refine (cl_dw k12).trans ?_
            exact h
    · refine (if_neg hc).trans ?_
      obtain ⟨k13, h⟩ := iv_ok h; refine (cl_ls (gk_276 hg) k13).trans ?_
      replace h := iv_lt h
      refine (cl_gR (gk_219 hg) (gr_219_93 hg)).trans ?_
      rcases iv_ite h with ⟨hc, h⟩ | ⟨hc, h⟩
      · refine (if_pos hc).trans ?_
        exact h
      · refine (if_neg hc).trans ?_
        refine (cl_gI (gk_219 hg)).trans ?_
        rcases iv_ite h with ⟨hc, h⟩ | ⟨hc, h⟩
        · refine (if_pos hc).trans ?_
          exact h
        · refine (if_neg hc).trans ?_
          rcases iv_ite h with ⟨hc, h⟩ | ⟨hc, h⟩
          · refine (if_pos hc).trans ?_
            exact h
          · refine (if_neg hc).trans ?_
            refine (cl_gJ (gk_219 hg)).trans ?_
            obtain ⟨k14, h⟩ := iv_dw h; refine (cl_dw k14).trans ?_
            exact h
  · refine (if_neg hc).trans ?_
    obtain ⟨k15, h⟩ := iv_ok h; refine (cl_ls (gk_276 hg) k15).trans ?_
    replace h := iv_lt h
    refine (cl_gR (gk_219 hg) (gr_219_93 hg)).trans ?_
    refine (cl_gI (gk_219 hg)).trans ?_
    refine (cl_rc (gk_219 hg)).trans ?_
    obtain ⟨x10, M9, k16, h⟩ := iv_ci h; refine (cl_ci k16).trans ?_
    rcases iv_ite h with ⟨hc, h⟩ | ⟨hc, h⟩
    · refine (if_pos hc).trans ?_
      obtain ⟨k17, h⟩ := iv_ok h; refine (cl_ls (gk_276 hg) k17).trans ?_
      replace h := iv_lt h
      refine (cl_gR (gk_219 hg) (gr_219_93 hg)).trans ?_
      rcases iv_ite h with ⟨hc, h⟩ | ⟨hc, h⟩
      · refine (if_pos hc).trans ?_
        exact h
      · refine (if_neg hc).trans ?_
        refine (cl_gI (gk_219 hg)).trans ?_
        rcases iv_ite h with ⟨hc, h⟩ | ⟨hc, h⟩
        · refine (if_pos hc).trans ?_
          exact h
        · refine (if_neg hc).trans ?_
          rcases iv_ite h with ⟨hc, h⟩ | ⟨hc, h⟩
          · refine (if_pos hc).trans ?_
            exact h
          · refine (if_neg hc).trans ?_
            refine (cl_gJ (gk_219 hg)).trans ?_
            obtain ⟨k18, h⟩ := iv_dw h; refine (cl_dw k18).trans ?_
            exact h
    · refine (if_neg hc).trans ?_
      obtain ⟨k19, h⟩ := iv_ok h; refine (cl_ls (gk_276 hg) k19).trans ?_
      replace h := iv_lt h
      refine (cl_gR (gk_219 hg) (gr_219_93 hg)).trans ?_
      rcases iv_ite h with ⟨hc, h⟩ | ⟨hc, h⟩
      · refine (if_pos hc).trans ?_
        exact h
      · refine (if_neg hc).trans ?_
        refine (cl_gI (gk_219 hg)).trans ?_
        rcases iv_ite h with ⟨hc, h⟩ | ⟨hc, h⟩
        · refine (if_pos hc).trans ?_
          exact h
        · refine (if_neg hc).trans ?_
          rcases iv_ite h with ⟨hc, h⟩ | ⟨hc, h⟩
          · refine (if_pos hc).trans ?_
            exact h
          · refine (if_neg hc).trans ?_
            refine (cl_gJ (gk_219 hg)).trans ?_
            obtain ⟨k20, h⟩ := iv_dw h; refine (cl_dw k20).trans ?_
            exact h
theorem s_Model_marks_168 {g : am_G} {F : am_FT} (hF : F = am_F T0 g) (hg : GG g) {v1 : Int32} {v2 : Int32} {v3 : Int32} {vs1 : Int32} {ws2 : Int64} {M : am_M} {r : am_R} (h : (
  am_ok 6 vs1 <|
  am_lt (wJ M 276 vs1.toNatClampNeg ws2) fun M1 =>
  if v2 ≤ 0 then
    am_ok 6 3 <|
    am_lt (fX M1 276 3 0) fun M2 =>
    if v2 ≤ 0 then
      am_ok 6 4 <|
      am_lt (fX M2 276 4 0) fun M3 =>
      am_ok 6 5 <|
      am_lt (fX M3 276 5 v3.toInt64) fun M4 =>
      F 266 222 [.ref 219, .int v1, .int 100, .int 0] [] M4
    else
      am_ok 24 v1 <|
      am_ok 6 4 <|
      am_lt (fX M2 276 4 ((rJ M2 258 v1.toNatClampNeg))) fun M5 =>
      am_ok 6 5 <|
      am_lt (fX M5 276 5 v3.toInt64) fun M6 =>
      F 266 222 [.ref 219, .int v1, .int 100, .int 0] [] M6
  else
    am_ok 6 3 <|
    am_lt (fX M1 276 3 (((v2 - 1)).toInt64)) fun M7 =>
    if v2 ≤ 0 then
      am_ok 6 4 <|
      am_lt (fX M7 276 4 0) fun M8 =>
      am_ok 6 5 <|
      am_lt (fX M8 276 5 v3.toInt64) fun M9 =>
      F 266 222 [.ref 219, .int v1, .int 100, .int 0] [] M9
    else
      am_ok 24 v1 <|
      am_ok 6 4 <|
      am_lt (fX M7 276 4 ((rJ M7 258 v1.toNatClampNeg))) fun M10 =>
      am_ok 6 5 <|
      am_lt (fX M10 276 5 v3.toInt64) fun M11 =>
      F 266 222 [.ref 219, .int v1, .int 100, .int 0] [] M11) = some r) : F 266 168 [.ref 219, .int v1, .int v2, .int v3] [.long ws2, .int vs1, .ref 276] M = some r := by
  refine e_Model_marks_168 hF ?_
  obtain ⟨k1, h⟩ := iv_ok h; refine (cl_ls (gk_276 hg) k1).trans ?_
  replace h := iv_lt h
  refine (cl_gR (gk_219 hg) (gr_219_93 hg)).trans ?_
  rcases iv_ite h with ⟨hc, h⟩ | ⟨hc, h⟩
  · refine (if_pos hc).trans ?_
    obtain ⟨k2, h⟩ := iv_ok h; refine (cl_ls (gk_276 hg) k2).trans ?_
    replace h := iv_lt h
    refine (cl_gR (gk_219 hg) (gr_219_93 hg)).trans ?_
    rcases iv_ite h with ⟨hc, h⟩ | ⟨hc, h⟩
    · refine (if_pos hc).trans ?_
      obtain ⟨k3, h⟩ := iv_ok h; refine (cl_ls (gk_276 hg) k3).trans ?_
      replace h := iv_lt h
      refine (cl_gR (gk_219 hg) (gr_219_93 hg)).trans ?_
      obtain ⟨k4, h⟩ := iv_ok h; refine (cl_ls (gk_276 hg) k4).trans ?_
      replace h := iv_lt h
      exact h
    · refine (if_neg hc).trans ?_
      refine (cl_gR (gk_219 hg) (gr_219_52 hg)).trans ?_
      obtain ⟨k5, h⟩ := iv_ok h; refine (cl_la (gk_258 hg) k5).trans ?_
      obtain ⟨k6, h⟩ := iv_ok h; refine (cl_ls (gk_276 hg) k6).trans ?_
      replace h := iv_lt h
      refine (cl_gR (gk_219 hg) (gr_219_93 hg)).trans ?_
      obtain ⟨k7, h⟩ := iv_ok h; refine (cl_ls (gk_276 hg) k7).trans ?_
      replace h := iv_lt h
      exact h
  · refine (if_neg hc).trans ?_
    obtain ⟨k8, h⟩ := iv_ok h; refine (cl_ls (gk_276 hg) k8).trans ?_
    replace h := iv_lt h
    refine (cl_gR (gk_219 hg) (gr_219_93 hg)).trans ?_
    rcases iv_ite h with ⟨hc, h⟩ | ⟨hc, h⟩
    · refine (if_pos hc).trans ?_
      obtain ⟨k9, h⟩ := iv_ok h; refine (cl_ls (gk_276 hg) k9).trans ?_
      replace h := iv_lt h
      refine (cl_gR (gk_219 hg) (gr_219_93 hg)).trans ?_
      obtain ⟨k10, h⟩ := iv_ok h; refine (cl_ls (gk_276 hg) k10).trans ?_
      replace h := iv_lt h
      exact h
    · refine (if_neg hc).trans ?_
      refine (cl_gR (gk_219 hg) (gr_219_52 hg)).trans ?_
      obtain ⟨k11, h⟩ := iv_ok h; refine (cl_la (gk_258 hg) k11).trans ?_
      obtain ⟨k12, h⟩ := iv_ok h; refine (cl_ls (gk_276 hg) k12).trans ?_
      replace h := iv_lt h
      refine (cl_gR (gk_219 hg) (gr_219_93 hg)).trans ?_
      obtain ⟨k13, h⟩ := iv_ok h; refine (cl_ls (gk_276 hg) k13).trans ?_
      replace h := iv_lt h
      exact h
theorem s_Model_marks_222 {g : am_G} {F : am_FT} (hF : F = am_F T0 g) (hg : GG g) {v1 : Int32} {v7 : Int32} {v8 : Int32} {M : am_M} {r : am_R} (h : (
  if (fI M 219 45) ≤ v8 then
    if 0 ≤ v7 then
      am_ok 192 (((8 * v1) + 5)) <|
      am_lt (wI M 256 (((8 * v1) + 5)).toNatClampNeg v7) fun M1 =>
      am_ok 192 (((8 * v1) + 7)) <|
      am_lt (wI M1 256 (((8 * v1) + 7)).toNatClampNeg ((fI M1 219 14))) fun M2 =>
      some (none, M2)
    else
      am_ok 192 (((8 * v1) + 5)) <|
      am_lt (wI M 256 (((8 * v1) + 5)).toNatClampNeg 0) fun M3 =>
      am_ok 192 (((8 * v1) + 7)) <|
      am_lt (wI M3 256 (((8 * v1) + 7)).toNatClampNeg ((fI M3 219 14))) fun M4 =>
      some (none, M4)
  else
    F 266 237 [.ref 219, .int v1, .int v7, .int v8, .int 1, .int 0] [] M) = some r) : F 266 222 [.ref 219, .int v1, .int v7, .int v8] [] M = some r := by
  refine e_Model_marks_222 hF ?_
  refine (cl_gI (gk_219 hg)).trans ?_
  rcases iv_ite h with ⟨hc, h⟩ | ⟨hc, h⟩
  · refine (if_pos hc).trans ?_
    refine (cl_gR (gk_219 hg) (gr_219_50 hg)).trans ?_
    rcases iv_ite h with ⟨hc, h⟩ | ⟨hc, h⟩
    · refine (if_pos hc).trans ?_
      obtain ⟨k1, h⟩ := iv_ok h; refine (cl_is (gk_256 hg) k1).trans ?_
      replace h := iv_lt h
      refine (cl_gR (gk_219 hg) (gr_219_50 hg)).trans ?_
      refine (cl_gI (gk_219 hg)).trans ?_
      obtain ⟨k2, h⟩ := iv_ok h; refine (cl_is (gk_256 hg) k2).trans ?_
      replace h := iv_lt h
      exact h
    · refine (if_neg hc).trans ?_
      obtain ⟨k3, h⟩ := iv_ok h; refine (cl_is (gk_256 hg) k3).trans ?_
      replace h := iv_lt h
      refine (cl_gR (gk_219 hg) (gr_219_50 hg)).trans ?_
      refine (cl_gI (gk_219 hg)).trans ?_
      obtain ⟨k4, h⟩ := iv_ok h; refine (cl_is (gk_256 hg) k4).trans ?_
      replace h := iv_lt h
      exact h
  · refine (if_neg hc).trans ?_
    exact h
theorem s_Model_marks_237 {g : am_G} {F : am_FT} (hF : F = am_F T0 g) (hg : GG g) {v1 : Int32} {v7 : Int32} {v8 : Int32} {v9 : Int32} {v10 : Int32} {M : am_M} {r : am_R} (h : (
  am_ok 6 v8 <|
  if (rI M 254 v8.toNatClampNeg) ≤ v10 then
    if v9 = 0 then
      F 266 222 [.ref 219, .int v1, .int (v7 - 0), .int (v8 + 1)] [] M
    else
      am_ok 6 v8 <|
      F 266 222 [.ref 219, .int v1, .int (v7 - (rI M 253 v8.toNatClampNeg)), .int (v8 + 1)] [] M
  else
    am_ok 18 (((3 * v8) + v10)) <|
    am_dv 100000 <|
    am_ok 6 (((rI M 255 (((3 * v8) + v10)).toNatClampNeg) / 100000)) <|
    am_dv 10000 <|
    am_dv 10 <|
    am_dv 10000 <|
    if v9 = 0 then
      F 266 237 [.ref 219, .int v1, .int v7, .int v8, .int 0, .int (v10 + 1)] [] M
    else
      if (((rI M 255 (((3 * v8) + v10)).toNatClampNeg) / 10000) - ((rI M 255 (((3 * v8) + v10)).toNatClampNeg) / 10000) / 10 * 10) = 0 then
        if (lg_cmp ((rJ M 276 (((rI M 255 (((3 * v8) + v10)).toNatClampNeg) / 100000)).toNatClampNeg)) ((((rI M 255 (((3 * v8) + v10)).toNatClampNeg) - (rI M 255 (((3 * v8) + v10)).toNatClampNeg) / 10000 * 10000)).toInt64)) = 0 then
          F 266 237 [.ref 219, .int v1, .int v7, .int v8, .int 1, .int (v10 + 1)] [] M
        else
          F 266 237 [.ref 219, .int v1, .int v7, .int v8, .int 0, .int (v10 + 1)] [] M
      else
        if (((rI M 255 (((3 * v8) + v10)).toNatClampNeg) / 10000) - ((rI M 255 (((3 * v8) + v10)).toNatClampNeg) / 10000) / 10 * 10) = 1 then
          if 0 ≤ (lg_cmp ((rJ M 276 (((rI M 255 (((3 * v8) + v10)).toNatClampNeg) / 100000)).toNatClampNeg)) ((((rI M 255 (((3 * v8) + v10)).toNatClampNeg) - (rI M 255 (((3 * v8) + v10)).toNatClampNeg) / 10000 * 10000)).toInt64)) then
            F 266 237 [.ref 219, .int v1, .int v7, .int v8, .int 0, .int (v10 + 1)] [] M
          else
            F 266 237 [.ref 219, .int v1, .int v7, .int v8, .int 1, .int (v10 + 1)] [] M
        else
          if (lg_cmp ((rJ M 276 (((rI M 255 (((3 * v8) + v10)).toNatClampNeg) / 100000)).toNatClampNeg)) ((((rI M 255 (((3 * v8) + v10)).toNatClampNeg) - (rI M 255 (((3 * v8) + v10)).toNatClampNeg) / 10000 * 10000)).toInt64)) ≤ 0 then
            F 266 237 [.ref 219, .int v1, .int v7, .int v8, .int 0, .int (v10 + 1)] [] M
          else
            F 266 237 [.ref 219, .int v1, .int v7, .int v8, .int 1, .int (v10 + 1)] [] M) = some r) : F 266 237 [.ref 219, .int v1, .int v7, .int v8, .int v9, .int v10] [] M = some r := by
  refine e_Model_marks_237 hF ?_
  refine (cl_gR (gk_219 hg) (gr_219_47 hg)).trans ?_
  obtain ⟨k1, h⟩ := iv_ok h; refine (cl_ia (gk_254 hg) k1).trans ?_
  rcases iv_ite h with ⟨hc, h⟩ | ⟨hc, h⟩
  · refine (if_pos hc).trans ?_
    rcases iv_ite h with ⟨hc, h⟩ | ⟨hc, h⟩
    · refine (if_pos hc).trans ?_
      exact h
    · refine (if_neg hc).trans ?_
      refine (cl_gR (gk_219 hg) (gr_219_46 hg)).trans ?_
      obtain ⟨k2, h⟩ := iv_ok h; refine (cl_ia (gk_253 hg) k2).trans ?_
      exact h
  · refine (if_neg hc).trans ?_
    refine (cl_gR (gk_219 hg) (gr_219_48 hg)).trans ?_
    obtain ⟨k3, h⟩ := iv_ok h; refine (cl_ia (gk_255 hg) k3).trans ?_
    refine (cl_gR (gk_219 hg) (gr_219_93 hg)).trans ?_
    obtain ⟨k4, h⟩ := iv_dv h; refine (cl_dv k4).trans ?_
    obtain ⟨k5, h⟩ := iv_ok h; refine (cl_la (gk_276 hg) k5).trans ?_
    obtain ⟨k6, h⟩ := iv_dv h; refine (cl_dv k6).trans ?_
    obtain ⟨k7, h⟩ := iv_dv h; refine (cl_dv k7).trans ?_
    obtain ⟨k8, h⟩ := iv_dv h; refine (cl_dv k8).trans ?_
    rcases iv_ite h with ⟨hc, h⟩ | ⟨hc, h⟩
    · refine (if_pos hc).trans ?_
      exact h
    · refine (if_neg hc).trans ?_
      rcases iv_ite h with ⟨hc, h⟩ | ⟨hc, h⟩
      · refine (if_pos hc).trans ?_
        rcases iv_ite h with ⟨hc, h⟩ | ⟨hc, h⟩
        · refine (if_pos hc).trans ?_
          exact h
        · refine (if_neg hc).trans ?_
          exact h
      · refine (if_neg hc).trans ?_
        rcases iv_ite h with ⟨hc, h⟩ | ⟨hc, h⟩
        · refine (if_pos hc).trans ?_
          rcases iv_ite h with ⟨hc, h⟩ | ⟨hc, h⟩
          · refine (if_pos hc).trans ?_
            exact h
          · refine (if_neg hc).trans ?_
            exact h
        · refine (if_neg hc).trans ?_
          rcases iv_ite h with ⟨hc, h⟩ | ⟨hc, h⟩
          · refine (if_pos hc).trans ?_
            exact h
          · refine (if_neg hc).trans ?_
            exact h
theorem s_Model_mostAlike {g : am_G} {F : am_FT} (hF : F = am_F T0 g) (hg : GG g) {v1 : Int32} {v2 : Int32} {v3 : Int32} {v4 : Int32} {M : am_M} {r : am_R} (h : (
  F 267 6 [.ref 219, .int v1, .int v2, .int v3, .int v4, .int 0, .int 0] [] M) = some r) : F 267 0 [.ref 219, .int v1, .int v2, .int v3, .int v4] [] M = some r := by
  refine e_Model_mostAlike hF ?_
  exact h
theorem s_Model_mostAlike_6 {g : am_G} {F : am_FT} (hF : F = am_F T0 g) (hg : GG g) {v1 : Int32} {v2 : Int32} {v3 : Int32} {v4 : Int32} {v5 : Int32} {v6 : Int32} {M : am_M} {r : am_R} (h : (
  if (fI M 219 41) ≤ v6 then
    am_rt 1 v5 M
  else
    if ((v1 >>> (v6 &&& 31)) &&& 1) = 1 then
      am_cv (F 42 0 [.ref 219, .int v6, .int v4] [] M) fun M1 => /- Model_asPupil -/
      am_cv (F 260 0 [.ref 219, .int v2, .int v3] [] M1) fun M2 => /- Model_search -/
      am_ok 4 v6 <|
      am_lt (wI M2 274 v6.toNatClampNeg ((fI M2 219 64))) fun M3 =>
      F 267 53 [.ref 219, .int v1, .int v2, .int v3, .int v4, .int v5, .int v6, .int 0] [] M3
    else
      F 267 6 [.ref 219, .int v1, .int v2, .int v3, .int v4, .int v5, .int (v6 + 1)] [] M) = some r) : F 267 6 [.ref 219, .int v1, .int v2, .int v3, .int v4, .int v5, .int v6] [] M = some r := by
  refine e_Model_mostAlike_6 hF ?_
  refine (cl_gI (gk_219 hg)).trans ?_
  rcases iv_ite h with ⟨hc, h⟩ | ⟨hc, h⟩
  · refine (if_pos hc).trans ?_
    exact h
  · refine (if_neg hc).trans ?_
    rcases iv_ite h with ⟨hc, h⟩ | ⟨hc, h⟩
    · refine (if_pos hc).trans ?_
      refine (cl_rc (gk_219 hg)).trans ?_
      obtain ⟨M1, k1, h⟩ := iv_cv h; refine (cl_cv k1).trans ?_
      refine (cl_rc (gk_219 hg)).trans ?_
      obtain ⟨M2, k2, h⟩ := iv_cv h; refine (cl_cv k2).trans ?_
      refine (cl_gR (gk_219 hg) (gr_219_90 hg)).trans ?_
      refine (cl_gI (gk_219 hg)).trans ?_
      obtain ⟨k3, h⟩ := iv_ok h; refine (cl_is (gk_274 hg) k3).trans ?_
      replace h := iv_lt h
      exact h
    · refine (if_neg hc).trans ?_
      exact h
theorem s_Model_mostAlike_53 {g : am_G} {F : am_FT} (hF : F = am_F T0 g) (hg : GG g) {v1 : Int32} {v2 : Int32} {v3 : Int32} {v4 : Int32} {v5 : Int32} {v6 : Int32} {v7 : Int32} {M : am_M} {r : am_R} (h : (
  if (fI M 219 64) ≤ v7 then
    F 267 94 [.ref 219, .int v1, .int v2, .int v3, .int v4, .int v5, .int v6, .int 0, .int 0] [] M
  else
    am_ok 80 v7 <|
    am_ok 320 (((80 * v6) + v7)) <|
    am_lt (wI M 275 (((80 * v6) + v7)).toNatClampNeg ((rI M 264 v7.toNatClampNeg))) fun M1 =>
    F 267 53 [.ref 219, .int v1, .int v2, .int v3, .int v4, .int v5, .int v6, .int (v7 + 1)] [] M1) = some r) : F 267 53 [.ref 219, .int v1, .int v2, .int v3, .int v4, .int v5, .int v6, .int v7] [] M = some r := by
  refine e_Model_mostAlike_53 hF ?_
  refine (cl_gI (gk_219 hg)).trans ?_
  rcases iv_ite h with ⟨hc, h⟩ | ⟨hc, h⟩
  · refine (if_pos hc).trans ?_
    exact h
  · refine (if_neg hc).trans ?_
    refine (cl_gR (gk_219 hg) (gr_219_91 hg)).trans ?_
    refine (cl_gR (gk_219 hg) (gr_219_63 hg)).trans ?_
    obtain ⟨k1, h⟩ := iv_ok h; refine (cl_ia (gk_264 hg) k1).trans ?_
    obtain ⟨k2, h⟩ := iv_ok h; refine (cl_is (gk_275 hg) k2).trans ?_
    replace h := iv_lt h
    exact h
theorem s_Model_mostAlike_94 {g : am_G} {F : am_FT} (hF : F = am_F T0 g) (hg : GG g) {v1 : Int32} {v2 : Int32} {v3 : Int32} {v4 : Int32} {v5 : Int32} {v6 : Int32} {v7 : Int32} {v8 : Int32} {M : am_M} {r : am_R} (h : (
  if v6 < v8 then
    if v7 ≤ v5 then
      F 267 6 [.ref 219, .int v1, .int v2, .int v3, .int v4, .int v5, .int (v6 + 1)] [] M
    else
      F 267 6 [.ref 219, .int v1, .int v2, .int v3, .int v4, .int v7, .int (v6 + 1)] [] M
  else
    if ((v1 >>> (v8 &&& 31)) &&& 1) = 1 then
      am_ci (F 41 0 [.ref 219, .int v6, .int v8] [] M) fun x2 M1 => /- Model_areAlike -/
      if x2 = 0 then
        F 267 94 [.ref 219, .int v1, .int v2, .int v3, .int v4, .int v5, .int v6, .int (v7 + 0), .int (v8 + 1)] [] M1
      else
        F 267 94 [.ref 219, .int v1, .int v2, .int v3, .int v4, .int v5, .int v6, .int (v7 + 1), .int (v8 + 1)] [] M1
    else
      F 267 94 [.ref 219, .int v1, .int v2, .int v3, .int v4, .int v5, .int v6, .int (v7 + 0), .int (v8 + 1)] [] M) = some r) : F 267 94 [.ref 219, .int v1, .int v2, .int v3, .int v4, .int v5, .int v6, .int v7, .int v8] [] M = some r := by
  refine e_Model_mostAlike_94 hF ?_
  rcases iv_ite h with ⟨hc, h⟩ | ⟨hc, h⟩
  · refine (if_pos hc).trans ?_
    rcases iv_ite h with ⟨hc, h⟩ | ⟨hc, h⟩
    · refine (if_pos hc).trans ?_
      exact h
    · refine (if_neg hc).trans ?_
      exact h
  · refine (if_neg hc).trans ?_
    rcases iv_ite h with ⟨hc, h⟩ | ⟨hc, h⟩
    · refine (if_pos hc).trans ?_
      refine (cl_rc (gk_219 hg)).trans ?_
      obtain ⟨x2, M1, k1, h⟩ := iv_ci h; refine (cl_ci k1).trans ?_
      rcases iv_ite h with ⟨hc, h⟩ | ⟨hc, h⟩
      · refine (if_pos hc).trans ?_
        exact h
      · refine (if_neg hc).trans ?_
        exact h
    · refine (if_neg hc).trans ?_
      exact h
theorem s_Model_wouldSay {g : am_G} {F : am_FT} (hF : F = am_F T0 g) (hg : GG g) {v1 : Int32} {v2 : Int32} {v3 : Int32} {v4 : Int32} {M : am_M} {r : am_R} (h : (
  am_ci (F 119 0 [.ref 219, .int v1] [] M) fun x2 M1 => /- Model_isPupil -/
  if x2 = 0 then
    am_rt 1 ((-1)) M1
  else
    am_ci (F 115 0 [.ref 219, .int v2] [] M1) fun x4 M3 => /- Model_isDoor -/
    if x4 = 0 then
      am_rt 1 ((-1)) M3
    else
      am_ci (F 115 0 [.ref 219, .int v3] [] M3) fun x6 M5 => /- Model_isDoor -/
      if x6 = 0 then
        am_rt 1 ((-1)) M5
      else
        if v2 = v3 then
          am_rt 1 ((-2)) M5
        else
          am_ci (F 116 0 [.int v4] [] M5) fun x8 M7 => /- Model_isHour -/
          if x8 = 0 then
            am_rt 1 ((-2)) M7
          else
            am_cv (F 42 0 [.ref 219, .int v1, .int v4] [] M7) fun M9 => /- Model_asPupil -/
            am_cv (F 260 0 [.ref 219, .int v2, .int v3] [] M9) fun M10 => /- Model_search -/
            am_ci (F 62 0 [.ref 219] [] M10) fun x12 M11 => /- Model_tells -/
            am_rt 1 x12 M11) = some r) : F 268 0 [.ref 219, .int v1, .int v2, .int v3, .int v4] [] M = some r := by
  refine e_Model_wouldSay hF ?_
  refine (cl_rc (gk_219 hg)).trans ?_
  obtain ⟨x2, M1, k1, h⟩ := iv_ci h; refine (cl_ci k1).trans ?_
  rcases iv_ite h with ⟨hc, h⟩ | ⟨hc, h⟩
  · refine (if_pos hc).trans ?_
    exact h
  · refine (if_neg hc).trans ?_
    refine (cl_rc (gk_219 hg)).trans ?_
    obtain ⟨x4, M3, k2, h⟩ := iv_ci h; refine (cl_ci k2).trans ?_
    rcases iv_ite h with ⟨hc, h⟩ | ⟨hc, h⟩
    · refine (if_pos hc).trans ?_
      exact h
    · refine (if_neg hc).trans ?_
      refine (cl_rc (gk_219 hg)).trans ?_
      obtain ⟨x6, M5, k3, h⟩ := iv_ci h; refine (cl_ci k3).trans ?_
      rcases iv_ite h with ⟨hc, h⟩ | ⟨hc, h⟩
      · refine (if_pos hc).trans ?_
        exact h
      · refine (if_neg hc).trans ?_
        rcases iv_ite h with ⟨hc, h⟩ | ⟨hc, h⟩
        · refine (if_pos hc).trans ?_
          exact h
        · refine (if_neg hc).trans ?_
          obtain ⟨x8, M7, k4, h⟩ := iv_ci h; refine (cl_ci k4).trans ?_
          rcases iv_ite h with ⟨hc, h⟩ | ⟨hc, h⟩
          · refine (if_pos hc).trans ?_
            exact h
          · refine (if_neg hc).trans ?_
            refine (cl_rc (gk_219 hg)).trans ?_
            obtain ⟨M9, k5, h⟩ := iv_cv h; refine (cl_cv k5).trans ?_
            refine (cl_rc (gk_219 hg)).trans ?_
            obtain ⟨M10, k6, h⟩ := iv_cv h; refine (cl_cv k6).trans ?_
            refine (cl_rc (gk_219 hg)).trans ?_
            obtain ⟨x12, M11, k7, h⟩ := iv_ci h; refine (cl_ci k7).trans ?_
            exact h
theorem s_Model_appeal {g : am_G} {F : am_FT} (hF : F = am_F T0 g) (hg : GG g) {v1 : Int32} {M : am_M} {r : am_R} (h : (
  am_ci (F 53 0 [.int v1, .int 0, .int ((fI M 219 49) - 1)] [] M) fun x2 M1 => /- Model_in -/
  if x2 = 0 then
    am_rt 1 ((-1)) M1
  else
    am_ok 192 (((8 * v1) + 5)) <|
    am_cv (F 266 0 [.ref 219, .int v1] [] M1) fun M3 => /- Model_marks -/
    am_ok 192 (((8 * v1) + 5)) <|
    am_rt 1 (((rI M3 256 (((8 * v1) + 5)).toNatClampNeg) - (rI M1 256 (((8 * v1) + 5)).toNatClampNeg))) M3) = some r) : F 270 0 [.ref 219, .int v1] [] M = some r := by
  refine e_Model_appeal hF ?_
  refine (cl_gI (gk_219 hg)).trans ?_
  obtain ⟨x2, M1, k1, h⟩ := iv_ci h; refine (cl_ci k1).trans ?_
  rcases iv_ite h with ⟨hc, h⟩ | ⟨hc, h⟩
  · refine (if_pos hc).trans ?_
    exact h
  · refine (if_neg hc).trans ?_
    refine (cl_gR (gk_219 hg) (gr_219_50 hg)).trans ?_
    obtain ⟨k2, h⟩ := iv_ok h; refine (cl_ia (gk_256 hg) k2).trans ?_
    refine (cl_rc (gk_219 hg)).trans ?_
    obtain ⟨M3, k3, h⟩ := iv_cv h; refine (cl_cv k3).trans ?_
    refine (cl_gR (gk_219 hg) (gr_219_50 hg)).trans ?_
    obtain ⟨k4, h⟩ := iv_ok h; refine (cl_ia (gk_256 hg) k4).trans ?_
    exact h
theorem s_Model_ask {g : am_G} {F : am_FT} (hF : F = am_F T0 g) (hg : GG g) {v1 : Int32} {v2 : Int32} {v3 : Int32} {v4 : Int32} {M : am_M} {r : am_R} (h : (
  am_ci (F 119 0 [.ref 219, .int v1] [] M) fun x2 M1 => /- Model_isPupil -/
  if x2 = 0 then
    am_rt 1 ((-1)) M1
  else
    am_ci (F 115 0 [.ref 219, .int v2] [] M1) fun x4 M3 => /- Model_isDoor -/
    if x4 = 0 then
      am_rt 1 ((-1)) M3
    else
      am_ci (F 115 0 [.ref 219, .int v3] [] M3) fun x6 M5 => /- Model_isDoor -/
      if x6 = 0 then
        am_rt 1 ((-1)) M5
      else
        if v2 = v3 then
          am_rt 1 ((-2)) M5
        else
          am_ci (F 116 0 [.int v4] [] M5) fun x8 M7 => /- Model_isHour -/
          if x8 = 0 then
            am_rt 1 ((-2)) M7
          else
            if (fI M7 219 49) = 24 then
              am_rt 1 ((-4)) M7
            else
              am_cv (F 42 0 [.ref 219, .int v1, .int v4] [] M7) fun M9 => /- Model_asPupil -/
              am_cv (F 260 0 [.ref 219, .int v2, .int v3] [] M9) fun M10 => /- Model_search -/
              am_ok 192 ((8 * (fI M10 219 49))) <|
              am_lt (wI M10 256 ((8 * (fI M10 219 49))).toNatClampNeg v1) fun M11 =>
              am_ok 192 (((8 * (fI M10 219 49)) + 1)) <|
              am_lt (wI M11 256 (((8 * (fI M10 219 49)) + 1)).toNatClampNeg v2) fun M12 =>
              am_ok 192 (((8 * (fI M10 219 49)) + 2)) <|
              am_lt (wI M12 256 (((8 * (fI M10 219 49)) + 2)).toNatClampNeg v3) fun M13 =>
              am_ok 192 (((8 * (fI M10 219 49)) + 3)) <|
              am_lt (wI M13 256 (((8 * (fI M10 219 49)) + 3)).toNatClampNeg ((fI M13 219 14))) fun M14 =>
              am_ok 192 (((8 * (fI M10 219 49)) + 4)) <|
              am_lt (wI M14 256 (((8 * (fI M10 219 49)) + 4)).toNatClampNeg v4) fun M15 =>
              am_ok 192 (((8 * (fI M10 219 49)) + 6)) <|
              am_lt (wI M15 256 (((8 * (fI M10 219 49)) + 6)).toNatClampNeg ((fI M15 219 64))) fun M16 =>
              F 271 145 [.ref 219, .int 0] [] M16) = some r) : F 271 0 [.ref 219, .int v1, .int v2, .int v3, .int v4] [] M = some r := by
  refine e_Model_ask hF ?_
  refine (cl_rc (gk_219 hg)).trans ?_
  obtain ⟨x2, M1, k1, h⟩ := iv_ci h; refine (cl_ci k1).trans ?_
  rcases iv_ite h with ⟨hc, h⟩ | ⟨hc, h⟩
  · refine (if_pos hc).trans ?_
    exact h
  · refine (if_neg hc).trans ?_
    refine (cl_rc (gk_219 hg)).trans ?_
    obtain ⟨x4, M3, k2, h⟩ := iv_ci h; refine (cl_ci k2).trans ?_
    rcases iv_ite h with ⟨hc, h⟩ | ⟨hc, h⟩
    · refine (if_pos hc).trans ?_
      exact h
    · refine (if_neg hc).trans ?_
      refine (cl_rc (gk_219 hg)).trans ?_
      obtain ⟨x6, M5, k3, h⟩ := iv_ci h; refine (cl_ci k3).trans ?_
      rcases iv_ite h with ⟨hc, h⟩ | ⟨hc, h⟩
      · refine (if_pos hc).trans ?_
        exact h
      · refine (if_neg hc).trans ?_
        rcases iv_ite h with ⟨hc, h⟩ | ⟨hc, h⟩
        · refine (if_pos hc).trans ?_
          exact h
        · refine (if_neg hc).trans ?_
          obtain ⟨x8, M7, k4, h⟩ := iv_ci h; refine (cl_ci k4).trans ?_
          rcases iv_ite h with ⟨hc, h⟩ | ⟨hc, h⟩
          · refine (if_pos hc).trans ?_
            exact h
          · refine (if_neg hc).trans ?_
            refine (cl_gI (gk_219 hg)).trans ?_
            rcases iv_ite h with ⟨hc, h⟩ | ⟨hc, h⟩
            · refine (if_pos hc).trans ?_
              exact h
            · refine (if_neg hc).trans ?_
              refine (cl_rc (gk_219 hg)).trans ?_
              obtain ⟨M9, k5, h⟩ := iv_cv h; refine (cl_cv k5).trans ?_
              refine (cl_rc (gk_219 hg)).trans ?_
              obtain ⟨M10, k6, h⟩ := iv_cv h; refine (cl_cv k6).trans ?_
              refine (cl_gI (gk_219 hg)).trans ?_
              refine (cl_gR (gk_219 hg) (gr_219_50 hg)).trans ?_
              obtain ⟨k7, h⟩ := iv_ok h; refine (cl_is (gk_256 hg) k7).trans ?_
              replace h := iv_lt h
              refine (cl_gR (gk_219 hg) (gr_219_50 hg)).trans ?_
              obtain ⟨k8, h⟩ := iv_ok h; refine (cl_is (gk_256 hg) k8).trans ?_
              replace h := iv_lt h
              refine (cl_gR (gk_219 hg) (gr_219_50 hg)).trans ?_
              obtain ⟨k9, h⟩ := iv_ok h; refine (cl_is (gk_256 hg) k9).trans ?_
              replace h := iv_lt h
              refine (cl_gR (gk_219 hg) (gr_219_50 hg)).trans ?_
              refine (cl_gI (gk_219 hg)).trans ?_
              obtain ⟨k10, h⟩ := iv_ok h; refine (cl_is (gk_256 hg) k10).trans ?_
              replace h := iv_lt h
              refine (cl_gR (gk_219 hg) (gr_219_50 hg)).trans ?_
              obtain ⟨k11, h⟩ := iv_ok h; refine (cl_is (gk_256 hg) k11).trans ?_
              replace h := iv_lt h
              refine (cl_gR (gk_219 hg) (gr_219_50 hg)).trans ?_
              refine (cl_gI (gk_219 hg)).trans ?_
              obtain ⟨k12, h⟩ := iv_ok h; refine (cl_is (gk_256 hg) k12).trans ?_
              replace h := iv_lt h
              exact h
theorem s_Model_ask_145 {g : am_G} {F : am_FT} (hF : F = am_F T0 g) (hg : GG g) {v6 : Int32} {M : am_M} {r : am_R} (h : (
  if (fI M 219 64) ≤ v6 then
    am_ok 24 ((fI M 219 49)) <|
    am_lt (wJ M 258 ((fI M 219 49)).toNatClampNeg ((fJ M 219 66))) fun M1 =>
    am_cv (F 266 0 [.ref 219, .int (fI M1 219 49)] [] M1) fun M2 => /- Model_marks -/
    am_lt (fW M2 219 49 (((fI M2 219 49) + 1))) fun M3 =>
    am_rt 1 (((fI M3 219 49) - 1)) M3
  else
    am_ok 80 v6 <|
    am_ok 1920 (((80 * (fI M 219 49)) + v6)) <|
    am_lt (wI M 257 (((80 * (fI M 219 49)) + v6)).toNatClampNeg ((rI M 264 v6.toNatClampNeg))) fun M4 =>
    F 271 145 [.ref 219, .int (v6 + 1)] [] M4) = some r) : F 271 145 [.ref 219, .int v6] [] M = some r := by
  refine e_Model_ask_145 hF ?_
  refine (cl_gI (gk_219 hg)).trans ?_
  rcases iv_ite h with ⟨hc, h⟩ | ⟨hc, h⟩
  · refine (if_pos hc).trans ?_
    refine (cl_gR (gk_219 hg) (gr_219_52 hg)).trans ?_
    refine (cl_gI (gk_219 hg)).trans ?_
    refine (cl_gJ (gk_219 hg)).trans ?_
    obtain ⟨k1, h⟩ := iv_ok h; refine (cl_ls (gk_258 hg) k1).trans ?_
    replace h := iv_lt h
    refine (cl_gI (gk_219 hg)).trans ?_
    refine (cl_rc (gk_219 hg)).trans ?_
    obtain ⟨M2, k2, h⟩ := iv_cv h; refine (cl_cv k2).trans ?_
    refine (cl_gI (gk_219 hg)).trans ?_
    refine (cl_pI (gk_219 hg)).trans ?_
    replace h := iv_lt h
    refine (cl_gI (gk_219 hg)).trans ?_
    exact h
  · refine (if_neg hc).trans ?_
    refine (cl_gR (gk_219 hg) (gr_219_51 hg)).trans ?_
    refine (cl_gI (gk_219 hg)).trans ?_
    refine (cl_gR (gk_219 hg) (gr_219_63 hg)).trans ?_
    obtain ⟨k3, h⟩ := iv_ok h; refine (cl_ia (gk_264 hg) k3).trans ?_
    obtain ⟨k4, h⟩ := iv_ok h; refine (cl_is (gk_257 hg) k4).trans ?_
    replace h := iv_lt h
    exact h
theorem s_Model_parting {g : am_G} {F : am_FT} (hF : F = am_F T0 g) (hg : GG g) {v1 : Int32} {v2 : Int32} {M : am_M} {r : am_R} (h : (
  if v1 ≤ 0 then
    am_rt 1 ((-1)) M
  else
    if v1 < ((1 : Int32) <<< ((fI M 219 41) &&& 31)) then
      am_ci (F 116 0 [.int v2] [] M) fun x2 M1 => /- Model_isHour -/
      if x2 = 0 then
        am_rt 1 ((-2)) M1
      else
        F 272 31 [.ref 219, .int v1, .int v2, .int 0, .int 0] [] M1
    else
      am_rt 1 ((-1)) M) = some r) : F 272 0 [.ref 219, .int v1, .int v2] [] M = some r := by
  refine e_Model_parting hF ?_
  rcases iv_ite h with ⟨hc, h⟩ | ⟨hc, h⟩
  · refine (if_pos hc).trans ?_
    exact h
  · refine (if_neg hc).trans ?_
    refine (cl_gI (gk_219 hg)).trans ?_
    rcases iv_ite h with ⟨hc, h⟩ | ⟨hc, h⟩
    · refine (if_pos hc).trans ?_
      obtain ⟨x2, M1, k1, h⟩ := iv_ci h; refine (cl_ci k1).trans ?_
      rcases iv_ite h with ⟨hc, h⟩ | ⟨hc, h⟩
      · refine (if_pos hc).trans ?_
        exact h
      · refine (if_neg hc).trans ?_
        exact h
    · refine (if_neg hc).trans ?_
      exact h
theorem s_Model_parting_31 {g : am_G} {F : am_FT} (hF : F = am_F T0 g) (hg : GG g) {v1 : Int32} {v2 : Int32} {v3 : Int32} {v4 : Int32} {M : am_M} {r : am_R} (h : (
  if (fI M 219 41) ≤ v4 then
    F 272 62 [.ref 219, .int v1, .int v2, .int v3, .int (-3), .int 0] [] M
  else
    F 272 31 [.ref 219, .int v1, .int v2, .int (v3 + ((v1 >>> (v4 &&& 31)) &&& 1)), .int (v4 + 1)] [] M) = some r) : F 272 31 [.ref 219, .int v1, .int v2, .int v3, .int v4] [] M = some r := by
  refine e_Model_parting_31 hF ?_
  refine (cl_gI (gk_219 hg)).trans ?_
  rcases iv_ite h with ⟨hc, h⟩ | ⟨hc, h⟩
  · refine (if_pos hc).trans ?_
    exact h
  · refine (if_neg hc).trans ?_
    exact h
theorem s_Model_parting_62 {g : am_G} {F : am_FT} (hF : F = am_F T0 g) (hg : GG g) {v1 : Int32} {v2 : Int32} {v3 : Int32} {v4 : Int32} {v5 : Int32} {M : am_M} {r : am_R} (h : (
  if (fI M 219 10) ≤ v5 then
    am_rt 1 v4 M
  else
    F 272 74 [.ref 219, .int v1, .int v2, .int v3, .int v4, .int v5, .int 0] [] M) = some r) : F 272 62 [.ref 219, .int v1, .int v2, .int v3, .int v4, .int v5] [] M = some r := by
  refine e_Model_parting_62 hF ?_
  refine (cl_gI (gk_219 hg)).trans ?_
  rcases iv_ite h with ⟨hc, h⟩ | ⟨hc, h⟩
  · refine (if_pos hc).trans ?_
    exact h
  · refine (if_neg hc).trans ?_
    exact h
theorem s_Model_parting_74 {g : am_G} {F : am_FT} (hF : F = am_F T0 g) (hg : GG g) {v1 : Int32} {v2 : Int32} {v3 : Int32} {v4 : Int32} {v5 : Int32} {v6 : Int32} {M : am_M} {r : am_R} (h : (
  if (fI M 219 10) ≤ v6 then
    F 272 62 [.ref 219, .int v1, .int v2, .int v3, .int v4, .int (v5 + 1)] [] M
  else
    if v5 = v6 then
      if v3 ≤ 9 then
        F 272 74 [.ref 219, .int v1, .int v2, .int v3, .int v4, .int v5, .int (v6 + 1)] [] M
      else
        F 272 74 [.ref 219, .int v1, .int v2, .int 9, .int ((10 * v5) + v6), .int v5, .int (v6 + 1)] [] M
    else
      am_ci (F 267 0 [.ref 219, .int v1, .int v5, .int v6, .int v2] [] M) fun x2 M1 => /- Model_mostAlike -/
      if v3 ≤ x2 then
        F 272 74 [.ref 219, .int v1, .int v2, .int v3, .int v4, .int v5, .int (v6 + 1)] [] M1
      else
        F 272 74 [.ref 219, .int v1, .int v2, .int x2, .int ((10 * v5) + v6), .int v5, .int (v6 + 1)] [] M1) = some r) : F 272 74 [.ref 219, .int v1, .int v2, .int v3, .int v4, .int v5, .int v6] [] M = some r := by
  refine e_Model_parting_74 hF ?_
  refine (cl_gI (gk_219 hg)).trans ?_
  rcases iv_ite h with ⟨hc, h⟩ | ⟨hc, h⟩
  · refine (if_pos hc).trans ?_
    exact h
  · refine (if_neg hc).trans ?_
    rcases iv_ite h with ⟨hc, h⟩ | ⟨hc, h⟩
    · refine (if_pos hc).trans ?_
      rcases iv_ite h with ⟨hc, h⟩ | ⟨hc, h⟩
      · refine (if_pos hc).trans ?_
        exact h
      · refine (if_neg hc).trans ?_
        exact h
    · refine (if_neg hc).trans ?_
      refine (cl_rc (gk_219 hg)).trans ?_
      obtain ⟨x2, M1, k1, h⟩ := iv_ci h; refine (cl_ci k1).trans ?_
      rcases iv_ite h with ⟨hc, h⟩ | ⟨hc, h⟩
      · refine (if_pos hc).trans ?_
        exact h
      · refine (if_neg hc).trans ?_
        exact h
