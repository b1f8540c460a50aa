/-! THE ROWS of the methods, the graph being known (by program) -/
theorem s_RunSayer_noSheet {g : am_G} {F : am_FT} (hF : F = am_F T0 g) (hg : GG g) {v0 : Int32} {M : am_M} {r : am_R} (h : (
  am_ci (F 72 0 [.int v0, .int 0, .int 3] [] M) fun x2 M1 => /- RunSayer_outside -/
  am_rt 2 x2 M1) = some r) : F 153 0 [.int v0] [] M = some r := by
  refine e_RunSayer_noSheet hF ?_
  obtain ⟨x2, M1, k1, h⟩ := iv_ci h; refine (cl_ci k1).trans ?_
  exact h
theorem s_RunSayer_noWay {g : am_G} {F : am_FT} (hF : F = am_F T0 g) (hg : GG g) {v1 : Int32} {M : am_M} {r : am_R} (h : (
  am_ci (F 72 0 [.int v1, .int 0, .int ((fI M 1 7) - 1)] [] M) fun x2 M1 => /- RunSayer_outside -/
  am_rt 2 x2 M1) = some r) : F 154 0 [.ref 0, .int v1] [] M = some r := by
  refine e_RunSayer_noWay hF ?_
  refine (cl_gR (gk_0 hg) (gr_0_0 hg)).trans ?_
  refine (cl_gI (gk_1 hg)).trans ?_
  obtain ⟨x2, M1, k1, h⟩ := iv_ci h; refine (cl_ci k1).trans ?_
  exact h
theorem s_RunSayer_notKnown {g : am_G} {F : am_FT} (hF : F = am_F T0 g) (hg : GG g) {v1 : Int32} {M : am_M} {r : am_R} (h : (
  am_ci (F 72 0 [.int v1, .int 0, .int (fI M 18 0)] [] M) fun x2 M1 => /- RunSayer_outside -/
  am_rt 2 x2 M1) = some r) : F 155 0 [.ref 0, .int v1] [] M = some r := by
  refine e_RunSayer_notKnown hF ?_
  refine (cl_gR (gk_0 hg) (gr_0_1 hg)).trans ?_
  refine (cl_gI (gk_18 hg)).trans ?_
  obtain ⟨x2, M1, k1, h⟩ := iv_ci h; refine (cl_ci k1).trans ?_
  exact h
theorem s_RunSayer_pass {g : am_G} {F : am_FT} (hF : F = am_F T0 g) (hg : GG g) {v1 : Int32} {M : am_M} {r : am_R} (h : (
  am_ci (F 72 0 [.int v1, .int 1, .int 100] [] M) fun x2 M1 => /- RunSayer_outside -/
  if x2 = 0 then
    if ((fI M1 18 0) + v1) ≤ 299 then
      am_lt (fW M1 18 0 (((fI M1 18 0) + v1))) fun M3 =>
      am_rt 1 ((fI M3 18 0)) M3
    else
      am_rt 1 ((-4)) M1
  else
    am_rt 1 ((-2)) M1) = some r) : F 156 0 [.ref 0, .int v1] [] M = some r := by
  refine e_RunSayer_pass hF ?_
  obtain ⟨x2, M1, k1, h⟩ := iv_ci h; refine (cl_ci k1).trans ?_
  rcases iv_ite h with ⟨hc, h⟩ | ⟨hc, h⟩
  · refine (if_pos hc).trans ?_
    refine (cl_gR (gk_0 hg) (gr_0_1 hg)).trans ?_
    refine (cl_gI (gk_18 hg)).trans ?_
    rcases iv_ite h with ⟨hc, h⟩ | ⟨hc, h⟩
    · refine (if_pos hc).trans ?_
      refine (cl_gR (gk_0 hg) (gr_0_1 hg)).trans ?_
      refine (cl_gI (gk_18 hg)).trans ?_
      refine (cl_pI (gk_18 hg)).trans ?_
      replace h := iv_lt h
      refine (cl_gR (gk_0 hg) (gr_0_1 hg)).trans ?_
      refine (cl_gI (gk_18 hg)).trans ?_
      exact h
    · refine (if_neg hc).trans ?_
      exact h
  · refine (if_neg hc).trans ?_
    exact h
theorem s_RunSayer_planned {g : am_G} {F : am_FT} (hF : F = am_F T0 g) (hg : GG g) {v1 : Int32} {M : am_M} {r : am_R} (h : (
  am_ci (F 72 0 [.int v1, .int 0, .int ((fI M 0 18) - 1)] [] M) fun x2 M1 => /- RunSayer_outside -/
  if x2 = 0 then
    am_ok 4 v1 <|
    am_rt 1 ((rI M1 218 v1.toNatClampNeg)) M1
  else
    am_rt 1 ((-1)) M1) = some r) : F 157 0 [.ref 0, .int v1] [] M = some r := by
  refine e_RunSayer_planned hF ?_
  refine (cl_gI (gk_0 hg)).trans ?_
  obtain ⟨x2, M1, k1, h⟩ := iv_ci h; refine (cl_ci k1).trans ?_
  rcases iv_ite h with ⟨hc, h⟩ | ⟨hc, h⟩
  · refine (if_pos hc).trans ?_
    refine (cl_gR (gk_0 hg) (gr_0_17 hg)).trans ?_
    obtain ⟨k2, h⟩ := iv_ok h; refine (cl_ia (gk_218 hg) k2).trans ?_
    exact h
  · refine (if_neg hc).trans ?_
    exact h
theorem s_RunSayer_pupil {g : am_G} {F : am_FT} (hF : F = am_F T0 g) (hg : GG g) {v1 : Int32} {M : am_M} {r : am_R} (h : (
  am_ci (F 72 0 [.int v1, .int 1, .int 30] [] M) fun x2 M1 => /- RunSayer_outside -/
  if x2 = 0 then
    if (fI M1 0 11) < 4 then
      am_ok 4 ((fI M1 0 11)) <|
      am_lt (fW M1 (72 + 5 * ((fI M1 0 11)).toNatClampNeg) 0 v1) fun M3 =>
      am_lt (fW M3 0 11 (((fI M3 0 11) + 1))) fun M4 =>
      am_rt 1 (((fI M4 0 11) - 1)) M4
    else
      am_rt 1 ((-4)) M1
  else
    am_rt 1 ((-2)) M1) = some r) : F 158 0 [.ref 0, .int v1] [] M = some r := by
  refine e_RunSayer_pupil hF ?_
  obtain ⟨x2, M1, k1, h⟩ := iv_ci h; refine (cl_ci k1).trans ?_
  rcases iv_ite h with ⟨hc, h⟩ | ⟨hc, h⟩
  · refine (if_pos hc).trans ?_
    refine (cl_gI (gk_0 hg)).trans ?_
    rcases iv_ite h with ⟨hc, h⟩ | ⟨hc, h⟩
    · refine (if_pos hc).trans ?_
      refine (cl_gR (gk_0 hg) (gr_0_10 hg)).trans ?_
      refine (cl_gI (gk_0 hg)).trans ?_
      obtain ⟨k2, h⟩ := iv_ok h; refine (cl_qa (gk_69 hg) (by decide) (by decide) k2 (gq_69 hg k2)).trans ?_
      have k3 := go_69 hg k2
      refine (cl_pI k3.1).trans ?_
      replace h := iv_lt h
      refine (cl_gI (gk_0 hg)).trans ?_
      refine (cl_pI (gk_0 hg)).trans ?_
      replace h := iv_lt h
      refine (cl_gI (gk_0 hg)).trans ?_
      exact h
    · refine (if_neg hc).trans ?_
      exact h
  · refine (if_neg hc).trans ?_
    exact h
theorem s_RunSayer_run {g : am_G} {F : am_FT} (hF : F = am_F T0 g) (hg : GG g) {v1 : Int32} {v2 : Int32} {M : am_M} {r : am_R} (h : (
  am_ci (F 72 0 [.int v1, .int 0, .int ((fI M 0 9) - 1)] [] M) fun x2 M1 => /- RunSayer_outside -/
  if x2 = 0 then
    am_ok 10 v1 <|
    am_ci (F 72 0 [.int v2, .int (-1), .int ((fI M1 (91 + 2 * v1.toNatClampNeg) 5) - 1)] [] M1) fun x4 M3 => /- RunSayer_outside -/
    if x4 = 0 then
      if 0 ≤ v2 then
        am_ok 10 v1 <|
        am_ok 81 v2 <|
        am_rt 1 ((rI M3 (91 + 2 * v1.toNatClampNeg + 1) v2.toNatClampNeg)) M3
      else
        am_ok 10 v1 <|
        am_rt 1 ((fI M3 (91 + 2 * v1.toNatClampNeg) 5)) M3
    else
      am_rt 1 ((-2)) M3
  else
    am_rt 1 ((-1)) M1) = some r) : F 159 0 [.ref 0, .int v1, .int v2] [] M = some r := by
  refine e_RunSayer_run hF ?_
  refine (cl_gI (gk_0 hg)).trans ?_
  obtain ⟨x2, M1, k1, h⟩ := iv_ci h; refine (cl_ci k1).trans ?_
  rcases iv_ite h with ⟨hc, h⟩ | ⟨hc, h⟩
  · refine (if_pos hc).trans ?_
    refine (cl_gR (gk_0 hg) (gr_0_8 hg)).trans ?_
    obtain ⟨k2, h⟩ := iv_ok h; refine (cl_qa (gk_90 hg) (by decide) (by decide) k2 (gq_90 hg k2)).trans ?_
    have k3 := go_90 hg k2
    refine (cl_gI k3.1).trans ?_
    obtain ⟨x4, M3, k4, h⟩ := iv_ci h; refine (cl_ci k4).trans ?_
    rcases iv_ite h with ⟨hc, h⟩ | ⟨hc, h⟩
    · refine (if_pos hc).trans ?_
      rcases iv_ite h with ⟨hc, h⟩ | ⟨hc, h⟩
      · refine (if_pos hc).trans ?_
        refine (cl_gR (gk_0 hg) (gr_0_8 hg)).trans ?_
        obtain ⟨k5, h⟩ := iv_ok h; refine (cl_qa (gk_90 hg) (by decide) (by decide) k5 (gq_90 hg k5)).trans ?_
        have k6 := go_90 hg k5
        refine (cl_gR k6.1 k6.2.1).trans ?_
        obtain ⟨k7, h⟩ := iv_ok h; refine (cl_ia k6.2.2 k7).trans ?_
        exact h
      · refine (if_neg hc).trans ?_
        refine (cl_gR (gk_0 hg) (gr_0_8 hg)).trans ?_
        obtain ⟨k8, h⟩ := iv_ok h; refine (cl_qa (gk_90 hg) (by decide) (by decide) k8 (gq_90 hg k8)).trans ?_
        have k9 := go_90 hg k8
        refine (cl_gI k9.1).trans ?_
        exact h
    · refine (if_neg hc).trans ?_
      exact h
  · refine (if_neg hc).trans ?_
    exact h
theorem s_RunSayer_runTold {g : am_G} {F : am_FT} (hF : F = am_F T0 g) (hg : GG g) {v1 : Int32} {v2 : Int32} {M : am_M} {r : am_R} (h : (
  am_ci (F 72 0 [.int v1, .int 0, .int ((fI M 0 9) - 1)] [] M) fun x2 M1 => /- RunSayer_outside -/
  if x2 = 0 then
    if v2 = 0 then
      am_ok 10 v1 <|
      am_rt 1 ((fI M1 (91 + 2 * v1.toNatClampNeg) 0)) M1
    else
    if v2 = 1 then
      am_ok 10 v1 <|
      am_rt 1 ((fI M1 (91 + 2 * v1.toNatClampNeg) 1)) M1
    else
    if v2 = 2 then
      am_ok 10 v1 <|
      am_rt 1 ((fI M1 (91 + 2 * v1.toNatClampNeg) 2)) M1
    else
    if v2 = 3 then
      am_ok 10 v1 <|
      am_rt 1 ((fI M1 (91 + 2 * v1.toNatClampNeg) 3)) M1
    else
    if v2 = 4 then
      am_ok 10 v1 <|
      am_rt 1 ((fI M1 (91 + 2 * v1.toNatClampNeg) 7)) M1
    else
    if v2 = 5 then
      am_ok 10 v1 <|
      am_rt 1 ((fI M1 (91 + 2 * v1.toNatClampNeg) 6)) M1
    else
      am_rt 1 ((-2)) M1
  else
    am_rt 1 ((-1)) M1) = some r) : F 160 0 [.ref 0, .int v1, .int v2] [] M = some r := by
  refine e_RunSayer_runTold hF ?_
  refine (cl_gI (gk_0 hg)).trans ?_
  obtain ⟨x2, M1, k1, h⟩ := iv_ci h; refine (cl_ci k1).trans ?_
  rcases iv_ite h with ⟨hc, h⟩ | ⟨hc, h⟩
  · refine (if_pos hc).trans ?_
    rcases iv_ite h with ⟨hc, h⟩ | ⟨hc, h⟩
    · refine (if_pos hc).trans ?_
      refine (cl_gR (gk_0 hg) (gr_0_8 hg)).trans ?_
      obtain ⟨k2, h⟩ := iv_ok h; refine (cl_qa (gk_90 hg) (by decide) (by decide) k2 (gq_90 hg k2)).trans ?_
      have k3 := go_90 hg k2
      refine (cl_gI k3.1).trans ?_
      exact h
    · refine (if_neg hc).trans ?_
      rcases iv_ite h with ⟨hc, h⟩ | ⟨hc, h⟩
      · refine (if_pos hc).trans ?_
        refine (cl_gR (gk_0 hg) (gr_0_8 hg)).trans ?_
        obtain ⟨k4, h⟩ := iv_ok h; refine (cl_qa (gk_90 hg) (by decide) (by decide) k4 (gq_90 hg k4)).trans ?_
        have k5 := go_90 hg k4
        refine (cl_gI k5.1).trans ?_
        exact h
      · refine (if_neg hc).trans ?_
        rcases iv_ite h with ⟨hc, h⟩ | ⟨hc, h⟩
        · refine (if_pos hc).trans ?_
          refine (cl_gR (gk_0 hg) (gr_0_8 hg)).trans ?_
          obtain ⟨k6, h⟩ := iv_ok h; refine (cl_qa (gk_90 hg) (by decide) (by decide) k6 (gq_90 hg k6)).trans ?_
          have k7 := go_90 hg k6
          refine (cl_gI k7.1).trans ?_
          exact h
        · refine (if_neg hc).trans ?_
          rcases iv_ite h with ⟨hc, h⟩ | ⟨hc, h⟩
          · refine (if_pos hc).trans ?_
            refine (cl_gR (gk_0 hg) (gr_0_8 hg)).trans ?_
            obtain ⟨k8, h⟩ := iv_ok h; refine (cl_qa (gk_90 hg) (by decide) (by decide) k8 (gq_90 hg k8)).trans ?_
            have k9 := go_90 hg k8
            refine (cl_gI k9.1).trans ?_
            exact h
          · refine (if_neg hc).trans ?_
            rcases iv_ite h with ⟨hc, h⟩ | ⟨hc, h⟩
            · refine (if_pos hc).trans ?_
              refine (cl_gR (gk_0 hg) (gr_0_8 hg)).trans ?_
              obtain ⟨k10, h⟩ := iv_ok h; refine (cl_qa (gk_90 hg) (by decide) (by decide) k10 (gq_90 hg k10)).trans ?_
              have k11 := go_90 hg k10
              refine (cl_gI k11.1).trans ?_
              exact h
            · refine (if_neg hc).trans ?_
              rcases iv_ite h with ⟨hc, h⟩ | ⟨hc, h⟩
              · refine (if_pos hc).trans ?_
                refine (cl_gR (gk_0 hg) (gr_0_8 hg)).trans ?_
                obtain ⟨k12, h⟩ := iv_ok h; refine (cl_qa (gk_90 hg) (by decide) (by decide) k12 (gq_90 hg k12)).trans ?_
                have k13 := go_90 hg k12
                refine (cl_gI k13.1).trans ?_
                exact h
              · refine (if_neg hc).trans ?_
                exact h
  · refine (if_neg hc).trans ?_
    exact h
theorem s_RunSayer_wipe {g : am_G} {F : am_FT} (hF : F = am_F T0 g) (hg : GG g) {M : am_M} {r : am_R} (h : (
  am_cv (F 78 0 [.ref 61] [] M) fun M1 => /- Tape_clear -/
  am_rt 1 ((fI M 61 1)) M1) = some r) : F 161 0 [.ref 0] [] M = some r := by
  refine e_RunSayer_wipe hF ?_
  refine (cl_gR (gk_0 hg) (gr_0_4 hg)).trans ?_
  refine (cl_gI (gk_61 hg)).trans ?_
  refine (cl_gR (gk_0 hg) (gr_0_4 hg)).trans ?_
  refine (cl_rc (gk_61 hg)).trans ?_
  obtain ⟨M1, k1, h⟩ := iv_cv h; refine (cl_cv k1).trans ?_
  exact h
theorem s_Tape_skipBlanks {g : am_G} {F : am_FT} (hF : F = am_F T0 g) (hg : GG g) {M : am_M} {r : am_R} (h : (
  if (fI M 61 1) ≤ (fI M 61 2) then
    some (none, M)
  else
    am_ci (F 82 0 [.ref 61, .int (fI M 61 2)] [] M) fun x2 M1 => /- Tape_signAt -/
    if x2 = 32 then
      am_lt (fW M1 61 2 (((fI M1 61 2) + 1))) fun M3 =>
      F 162 0 [.ref 61] [] M3
    else
      some (none, M1)) = some r) : F 162 0 [.ref 61] [] M = some r := by
  refine e_Tape_skipBlanks hF ?_
  refine (cl_gI (gk_61 hg)).trans ?_
  refine (cl_gI (gk_61 hg)).trans ?_
  rcases iv_ite h with ⟨hc, h⟩ | ⟨hc, h⟩
  · refine (if_pos hc).trans ?_
    exact h
  · refine (if_neg hc).trans ?_
    refine (cl_gI (gk_61 hg)).trans ?_
    refine (cl_rc (gk_61 hg)).trans ?_
    obtain ⟨x2, M1, k1, h⟩ := iv_ci h; refine (cl_ci k1).trans ?_
    rcases iv_ite h with ⟨hc, h⟩ | ⟨hc, h⟩
    · refine (if_pos hc).trans ?_
      refine (cl_gI (gk_61 hg)).trans ?_
      refine (cl_pI (gk_61 hg)).trans ?_
      replace h := iv_lt h
      exact h
    · refine (if_neg hc).trans ?_
      exact h
theorem s_Tape_takeLoneDigit {g : am_G} {F : am_FT} (hF : F = am_F T0 g) (hg : GG g) {M : am_M} {r : am_R} (h : (
  am_ci (F 82 0 [.ref 61, .int (fI M 61 2)] [] M) fun x2 M1 => /- Tape_signAt -/
  am_ci (F 80 0 [.int x2] [] M1) fun x4 M3 => /- Tape_isDigit -/
  if x4 = 0 then
    am_rt 1 0 M3
  else
    if x2 = 48 then
      am_rt 1 0 M3
    else
      am_ci (F 82 0 [.ref 61, .int ((fI M3 61 2) + 1)] [] M3) fun x6 M5 => /- Tape_signAt -/
      am_ci (F 80 0 [.int x6] [] M5) fun x8 M7 => /- Tape_isDigit -/
      if x8 = 0 then
        am_lt (fW M7 61 2 (((fI M7 61 2) + 1))) fun M9 =>
        am_rt 1 ((x2 - 48)) M9
      else
        am_rt 1 0 M7) = some r) : F 163 0 [.ref 61] [] M = some r := by
  refine e_Tape_takeLoneDigit hF ?_
  refine (cl_gI (gk_61 hg)).trans ?_
  refine (cl_rc (gk_61 hg)).trans ?_
  obtain ⟨x2, M1, k1, h⟩ := iv_ci h; refine (cl_ci k1).trans ?_
  obtain ⟨x4, M3, k2, h⟩ := iv_ci h; refine (cl_ci k2).trans ?_
  rcases iv_ite h with ⟨hc, h⟩ | ⟨hc, h⟩
  · refine (if_pos hc).trans ?_
    exact h
  · refine (if_neg hc).trans ?_
    rcases iv_ite h with ⟨hc, h⟩ | ⟨hc, h⟩
    · refine (if_pos hc).trans ?_
      exact h
    · refine (if_neg hc).trans ?_
      refine (cl_gI (gk_61 hg)).trans ?_
      refine (cl_rc (gk_61 hg)).trans ?_
      obtain ⟨x6, M5, k3, h⟩ := iv_ci h; refine (cl_ci k3).trans ?_
      obtain ⟨x8, M7, k4, h⟩ := iv_ci h; refine (cl_ci k4).trans ?_
      rcases iv_ite h with ⟨hc, h⟩ | ⟨hc, h⟩
      · refine (if_pos hc).trans ?_
        refine (cl_gI (gk_61 hg)).trans ?_
        refine (cl_pI (gk_61 hg)).trans ?_
        replace h := iv_lt h
        exact h
      · refine (if_neg hc).trans ?_
        exact h
theorem s_Tape_takeNumber {g : am_G} {F : am_FT} (hF : F = am_F T0 g) (hg : GG g) {M : am_M} {r : am_R} (h : (
  am_ci (F 82 0 [.ref 61, .int (fI M 61 2)] [] M) fun x2 M1 => /- Tape_signAt -/
  am_ci (F 80 0 [.int x2] [] M1) fun x4 M3 => /- Tape_isDigit -/
  if x4 = 0 then
    am_rt 1 ((-1)) M3
  else
    F 164 20 [.ref 61, .int 0, .int 0] [] M3) = some r) : F 164 0 [.ref 61] [] M = some r := by
  refine e_Tape_takeNumber hF ?_
  refine (cl_gI (gk_61 hg)).trans ?_
  refine (cl_rc (gk_61 hg)).trans ?_
  obtain ⟨x2, M1, k1, h⟩ := iv_ci h; refine (cl_ci k1).trans ?_
  obtain ⟨x4, M3, k2, h⟩ := iv_ci h; refine (cl_ci k2).trans ?_
  rcases iv_ite h with ⟨hc, h⟩ | ⟨hc, h⟩
  · refine (if_pos hc).trans ?_
    exact h
  · refine (if_neg hc).trans ?_
    exact h
theorem s_Tape_takeNumber_20 {g : am_G} {F : am_FT} (hF : F = am_F T0 g) (hg : GG g) {v1 : Int32} {v2 : Int32} {M : am_M} {r : am_R} (h : (
  if 4 ≤ v2 then
    am_rt 1 v1 M
  else
    am_ci (F 82 0 [.ref 61, .int (fI M 61 2)] [] M) fun x2 M1 => /- Tape_signAt -/
    am_ci (F 80 0 [.int x2] [] M1) fun x4 M3 => /- Tape_isDigit -/
    if x4 = 0 then
      am_rt 1 v1 M3
    else
      am_ci (F 82 0 [.ref 61, .int (fI M3 61 2)] [] M3) fun x6 M5 => /- Tape_signAt -/
      am_lt (fW M5 61 2 (((fI M5 61 2) + 1))) fun M7 =>
      F 164 20 [.ref 61, .int (((10 * v1) + x6) - 48), .int (v2 + 1)] [] M7) = some r) : F 164 20 [.ref 61, .int v1, .int v2] [] M = some r := by
  refine e_Tape_takeNumber_20 hF ?_
  rcases iv_ite h with ⟨hc, h⟩ | ⟨hc, h⟩
  · refine (if_pos hc).trans ?_
    exact h
  · refine (if_neg hc).trans ?_
    refine (cl_gI (gk_61 hg)).trans ?_
    refine (cl_rc (gk_61 hg)).trans ?_
    obtain ⟨x2, M1, k1, h⟩ := iv_ci h; refine (cl_ci k1).trans ?_
    obtain ⟨x4, M3, k2, h⟩ := iv_ci h; refine (cl_ci k2).trans ?_
    rcases iv_ite h with ⟨hc, h⟩ | ⟨hc, h⟩
    · refine (if_pos hc).trans ?_
      exact h
    · refine (if_neg hc).trans ?_
      refine (cl_gI (gk_61 hg)).trans ?_
      refine (cl_rc (gk_61 hg)).trans ?_
      obtain ⟨x6, M5, k3, h⟩ := iv_ci h; refine (cl_ci k3).trans ?_
      refine (cl_gI (gk_61 hg)).trans ?_
      refine (cl_pI (gk_61 hg)).trans ?_
      replace h := iv_lt h
      exact h
theorem s_Tape_takeWord {g : am_G} {F : am_FT} (hF : F = am_F T0 g) (hg : GG g) {M : am_M} {r : am_R} (h : (
  F 165 4 [.ref 61, .long 0, .int 0] [] M) = some r) : F 165 0 [.ref 61] [] M = some r := by
  refine e_Tape_takeWord hF ?_
  exact h
theorem s_Tape_takeWord_4 {g : am_G} {F : am_FT} (hF : F = am_F T0 g) (hg : GG g) {w1 : Int64} {v3 : Int32} {M : am_M} {r : am_R} (h : (
  if (fI M 61 1) ≤ (fI M 61 2) then
    if v3 ≤ 8 then
      some (some (.long w1), M)
    else
      some (some (.long 0), M)
  else
    am_ci (F 82 0 [.ref 61, .int (fI M 61 2)] [] M) fun x2 M1 => /- Tape_signAt -/
    am_ci (F 81 0 [.int x2] [] M1) fun x4 M3 => /- Tape_isLetter -/
    if x4 = 0 then
      if v3 ≤ 8 then
        some (some (.long w1), M3)
      else
        some (some (.long 0), M3)
    else
      am_ci (F 82 0 [.ref 61, .int (fI M3 61 2)] [] M3) fun x6 M5 => /- Tape_signAt -/
      am_lt (fW M5 61 2 (((fI M5 61 2) + 1))) fun M7 =>
      F 165 4 [.ref 61, .long ((w1 <<< ((8 : Int32).toInt64 &&& 63)) ||| x6.toInt64), .int (v3 + 1)] [] M7) = some r) : F 165 4 [.ref 61, .long w1, .int v3] [] M = some r := by
  refine e_Tape_takeWord_4 hF ?_
  refine (cl_gI (gk_61 hg)).trans ?_
  refine (cl_gI (gk_61 hg)).trans ?_
  rcases iv_ite h with ⟨hc, h⟩ | ⟨hc, h⟩
  · refine (if_pos hc).trans ?_
    rcases iv_ite h with ⟨hc, h⟩ | ⟨hc, h⟩
    · refine (if_pos hc).trans ?_
      exact h
    · refine (if_neg hc).trans ?_
      exact h
  · refine (if_neg hc).trans ?_
    refine (cl_gI (gk_61 hg)).trans ?_
    refine (cl_rc (gk_61 hg)).trans ?_
    obtain ⟨x2, M1, k1, h⟩ := iv_ci h; refine (cl_ci k1).trans ?_
    obtain ⟨x4, M3, k2, h⟩ := iv_ci h; refine (cl_ci k2).trans ?_
    rcases iv_ite h with ⟨hc, h⟩ | ⟨hc, h⟩
    · refine (if_pos hc).trans ?_
      rcases iv_ite h with ⟨hc, h⟩ | ⟨hc, h⟩
      · refine (if_pos hc).trans ?_
        exact h
      · refine (if_neg hc).trans ?_
        exact h
    · refine (if_neg hc).trans ?_
      refine (cl_gI (gk_61 hg)).trans ?_
      refine (cl_rc (gk_61 hg)).trans ?_
      obtain ⟨x6, M5, k3, h⟩ := iv_ci h; refine (cl_ci k3).trans ?_
      refine (cl_gI (gk_61 hg)).trans ?_
      refine (cl_pI (gk_61 hg)).trans ?_
      replace h := iv_lt h
      exact h
theorem s_City_exitsAhead {g : am_G} {F : am_FT} (hF : F = am_F T0 g) (hg : GG g) {v1 : Int32} {v2 : Int32} {M : am_M} {r : am_R} (h : (
  am_ci (F 4 0 [.ref 1, .int v1] [] M) fun x2 M1 => /- City_endOf -/
  am_ci (F 87 0 [.ref 1, .int (v1 ^^^ 1), .int v2] [] M1) fun x4 M3 => /- City_isInFirstHalf -/
  F 166 22 [.ref 1, .int v1, .int v2, .int x2, .int 0, .int x4, .int 0] [] M3) = some r) : F 166 0 [.ref 1, .int v1, .int v2] [] M = some r := by
  refine e_City_exitsAhead hF ?_
  refine (cl_rc (gk_1 hg)).trans ?_
  obtain ⟨x2, M1, k1, h⟩ := iv_ci h; refine (cl_ci k1).trans ?_
  refine (cl_rc (gk_1 hg)).trans ?_
  obtain ⟨x4, M3, k2, h⟩ := iv_ci h; refine (cl_ci k2).trans ?_
  exact h
theorem s_City_exitsAhead_22 {g : am_G} {F : am_FT} (hF : F = am_F T0 g) (hg : GG g) {v1 : Int32} {v2 : Int32} {v3 : Int32} {v4 : Int32} {v5 : Int32} {v6 : Int32} {M : am_M} {r : am_R} (h : (
  am_ok 24 v3 <|
  if (rI M 17 v3.toNatClampNeg) ≤ v6 then
    am_rt 1 v4 M
  else
    am_ci (F 11 0 [.ref 1, .int v3, .int v6] [] M) fun x2 M1 => /- City_outLeg -/
    if x2 = v2 then
      F 166 22 [.ref 1, .int v1, .int v2, .int v3, .int v4, .int v5, .int (v6 + 1)] [] M1
    else
      if (x2 >>> ((1 : Int32) &&& 31)) = (v1 >>> ((1 : Int32) &&& 31)) then
        F 166 22 [.ref 1, .int v1, .int v2, .int v3, .int v4, .int v5, .int (v6 + 1)] [] M1
      else
        am_ci (F 87 0 [.ref 1, .int (v1 ^^^ 1), .int x2] [] M1) fun x4 M3 => /- City_isInFirstHalf -/
        if x4 = v5 then
          am_ci (F 2 0 [.ref 1, .int x2, .int v2] [] M3) fun x6 M5 => /- City_cross -/
          if x6 < 0 then
            if (1 : Int32) = 0 then
              F 166 22 [.ref 1, .int v1, .int v2, .int v3, .int v4, .int v5, .int (v6 + 1)] [] M5
            else
              F 166 22 [.ref 1, .int v1, .int v2, .int v3, .int (v4 + 1), .int v5, .int (v6 + 1)] [] M5
          else
            if x6 = 0 then
              if v2 ≤ x2 then
                if (0 : Int32) = 0 then
                  F 166 22 [.ref 1, .int v1, .int v2, .int v3, .int v4, .int v5, .int (v6 + 1)] [] M5
                else
                  F 166 22 [.ref 1, .int v1, .int v2, .int v3, .int (v4 + 1), .int v5, .int (v6 + 1)] [] M5
              else
                if (1 : Int32) = 0 then
                  F 166 22 [.ref 1, .int v1, .int v2, .int v3, .int v4, .int v5, .int (v6 + 1)] [] M5
                else
                  F 166 22 [.ref 1, .int v1, .int v2, .int v3, .int (v4 + 1), .int v5, .int (v6 + 1)] [] M5
            else
              if (0 : Int32) = 0 then
                F 166 22 [.ref 1, .int v1, .int v2, .int v3, .int v4, .int v5, .int (v6 + 1)] [] M5
              else
                F 166 22 [.ref 1, .int v1, .int v2, .int v3, .int (v4 + 1), .int v5, .int (v6 + 1)] [] M5
        else
          if x4 = 0 then
            F 166 22 [.ref 1, .int v1, .int v2, .int v3, .int v4, .int v5, .int (v6 + 1)] [] M3
          else
            F 166 22 [.ref 1, .int v1, .int v2, .int v3, .int (v4 + 1), .int v5, .int (v6 + 1)] [] M3) = some r) : F 166 22 [.ref 1, .int v1, .int v2, .int v3, .int v4, .int v5, .int v6] [] M = some r := by
  refine e_City_exitsAhead_22 hF ?_
  refine (cl_gR (gk_1 hg) (gr_1_19 hg)).trans ?_
  obtain ⟨k1, h⟩ := iv_ok h; refine (cl_ia (gk_17 hg) k1).trans ?_
  rcases iv_ite h with ⟨hc, h⟩ | ⟨hc, h⟩
  · refine (if_pos hc).trans ?_
    exact h
  · refine (if_neg hc).trans ?_
    refine (cl_rc (gk_1 hg)).trans ?_
    obtain ⟨x2, M1, k2, h⟩ := iv_ci h; refine (cl_ci k2).trans ?_
    rcases iv_ite h with ⟨hc, h⟩ | ⟨hc, h⟩
    · refine (if_pos hc).trans ?_
      exact h
    · refine (if_neg hc).trans ?_
      rcases iv_ite h with ⟨hc, h⟩ | ⟨hc, h⟩
      · refine (if_pos hc).trans ?_
        exact h
      · refine (if_neg hc).trans ?_
        refine (cl_rc (gk_1 hg)).trans ?_
        obtain ⟨x4, M3, k3, h⟩ := iv_ci h; refine (cl_ci k3).trans ?_
        rcases iv_ite h with ⟨hc, h⟩ | ⟨hc, h⟩
        · refine (if_pos hc).trans ?_
          refine (cl_rc (gk_1 hg)).trans ?_
          obtain ⟨x6, M5, k4, h⟩ := iv_ci h; refine (cl_ci k4).trans ?_
          rcases iv_ite h with ⟨hc, h⟩ | ⟨hc, h⟩
          · refine (if_pos hc).trans ?_
            rcases iv_ite h with ⟨hc, h⟩ | ⟨hc, h⟩
            · refine (if_pos hc).trans ?_
              exact h
            · refine (if_neg hc).trans ?_
              exact h
          · refine (if_neg hc).trans ?_
            rcases iv_ite h with ⟨hc, h⟩ | ⟨hc, h⟩
            · refine (if_pos hc).trans ?_
              rcases iv_ite h with ⟨hc, h⟩ | ⟨hc, h⟩
              · refine (if_pos hc).trans ?_
                rcases iv_ite h with ⟨hc, h⟩ | ⟨hc, h⟩
                · refine (if_pos hc).trans ?_
                  exact h
                · refine (if_neg hc).trans ?_
                  exact h
              · refine (if_neg hc).trans ?_
                rcases iv_ite h with ⟨hc, h⟩ | ⟨hc, h⟩
                · refine (if_pos hc).trans ?_
                  exact h
                · refine (if_neg hc).trans ?_
                  exact h
            · refine (if_neg hc).trans ?_
              rcases iv_ite h with ⟨hc, h⟩ | ⟨hc, h⟩
              · refine (if_pos hc).trans ?_
                exact h
              · refine (if_neg hc).trans ?_
                exact h
        · refine (if_neg hc).trans ?_
          rcases iv_ite h with ⟨hc, h⟩ | ⟨hc, h⟩
          · refine (if_pos hc).trans ?_
            exact h
          · refine (if_neg hc).trans ?_
            exact h
theorem s_Finder_costFrom {g : am_G} {F : am_FT} (hF : F = am_F T0 g) (hg : GG g) {v1 : Int32} {v2 : Int32} {v3 : Int32} {M : am_M} {r : am_R} (h : (
  am_ok 80 v1 <|
  if (rI M 33 v1.toNatClampNeg) = 0 then
    some (some (.long 9223372036854775807), M)
  else
    am_ok 80 v1 <|
    if (lg_cmp ((rJ M 40 v1.toNatClampNeg)) 9223372036854775807) = 0 then
      am_cj (F 93 0 [.ref 32, .int v1, .int v2, .int v3] [] M) fun l12 M11 => /- Finder_costAlone -/
      am_cj (F 26 0 [.long 9223372036854775807, .long l12] [] M11) fun l14 M13 => /- JMath_min_JJJ -/
      some (some (.long l14), M13)
    else
      am_ok 80 v1 <|
      am_ci (F 4 0 [.ref 1, .int v1] [] M) fun x2 M1 => /- City_endOf -/
      am_ok 24 x2 <|
      am_ci (F 7 0 [.ref 1, .int v1, .int v2] [] M1) fun x4 M3 => /- City_feetToEnd -/
      am_cj (F 17 0 [.ref 32, .int (rI M1 37 x2.toNatClampNeg), .int x4] [] M3) fun l6 M5 => /- Finder_key -/
      am_cj (F 93 0 [.ref 32, .int v1, .int v2, .int v3] [] M5) fun l8 M7 => /- Finder_costAlone -/
      am_cj (F 26 0 [.long ((rJ M 40 v1.toNatClampNeg) + l6), .long l8] [] M7) fun l10 M9 => /- JMath_min_JJJ -/
      some (some (.long l10), M9)) = some r) : F 167 0 [.ref 32, .int v1, .int v2, .int v3] [] M = some r := by
  refine e_Finder_costFrom hF ?_
  refine (cl_gR (gk_32 hg) (gr_32_2 hg)).trans ?_
  obtain ⟨k1, h⟩ := iv_ok h; refine (cl_za (gk_33 hg) k1).trans ?_
  rcases iv_ite h with ⟨hc, h⟩ | ⟨hc, h⟩
  · refine (if_pos hc).trans ?_
    exact h
  · refine (if_neg hc).trans ?_
    refine (cl_gR (gk_32 hg) (gr_32_11 hg)).trans ?_
    obtain ⟨k2, h⟩ := iv_ok h; refine (cl_la (gk_40 hg) k2).trans ?_
    rcases iv_ite h with ⟨hc, h⟩ | ⟨hc, h⟩
    · refine (if_pos hc).trans ?_
      refine (cl_rc (gk_32 hg)).trans ?_
      obtain ⟨l12, M11, k10, h⟩ := iv_cj h; refine (cl_cj k10).trans ?_
      obtain ⟨l14, M13, k11, h⟩ := iv_cj h; refine (cl_cj k11).trans ?_
      exact h
    · refine (if_neg hc).trans ?_
      refine (cl_gR (gk_32 hg) (gr_32_11 hg)).trans ?_
      obtain ⟨k3, h⟩ := iv_ok h; refine (cl_la (gk_40 hg) k3).trans ?_
      refine (cl_gR (gk_32 hg) (gr_32_8 hg)).trans ?_
      refine (cl_gR (gk_32 hg) (gr_32_0 hg)).trans ?_
      refine (cl_rc (gk_1 hg)).trans ?_
      obtain ⟨x2, M1, k4, h⟩ := iv_ci h; refine (cl_ci k4).trans ?_
      obtain ⟨k5, h⟩ := iv_ok h; refine (cl_ia (gk_37 hg) k5).trans ?_
      refine (cl_gR (gk_32 hg) (gr_32_0 hg)).trans ?_
      refine (cl_rc (gk_1 hg)).trans ?_
      obtain ⟨x4, M3, k6, h⟩ := iv_ci h; refine (cl_ci k6).trans ?_
      refine (cl_rc (gk_32 hg)).trans ?_
      obtain ⟨l6, M5, k7, h⟩ := iv_cj h; refine (cl_cj k7).trans ?_
      refine (cl_rc (gk_32 hg)).trans ?_
      obtain ⟨l8, M7, k8, h⟩ := iv_cj h; refine (cl_cj k8).trans ?_
      obtain ⟨l10, M9, k9, h⟩ := iv_cj h; refine (cl_cj k9).trans ?_
      exact h
theorem s_Finder_firstWrong {g : am_G} {F : am_FT} (hF : F = am_F T0 g) (hg : GG g) {a1 : Nat} {v2 : Int32} {M : am_M} (h1 : gK g a1 = (1, 100)) {r : am_R} (h : (
  F 168 2 [.ref 32, .ref a1, .int v2, .int 0] [] M) = some r) : F 168 0 [.ref 32, .ref a1, .int v2] [] M = some r := by
  refine e_Finder_firstWrong hF ?_
  exact h
theorem s_Finder_firstWrong_2 {g : am_G} {F : am_FT} (hF : F = am_F T0 g) (hg : GG g) {a1 : Nat} {v2 : Int32} {v3 : Int32} {M : am_M} (h1 : gK g a1 = (1, 100)) {r : am_R} (h : (
  am_ci (F 10 0 [.ref 1] [] M) fun x2 M1 => /- City_legCount -/
  if x2 ≤ v3 then
    am_rt 1 ((-1)) M1
  else
    if 100 ≤ v3 then
      am_rt 1 ((-1)) M1
    else
      am_ok 100 v3 <|
      if (rI M1 a1 v3.toNatClampNeg) < (-1) then
        am_rt 1 v3 M1
      else
        am_ci (F 94 0 [.ref 32, .int v3, .ref a1, .int v2] [] M1) fun x4 M3 => /- Finder_isRightAt -/
        if x4 = 0 then
          am_rt 1 v3 M3
        else
          F 168 2 [.ref 32, .ref a1, .int v2, .int (v3 + 1)] [] M3) = some r) : F 168 2 [.ref 32, .ref a1, .int v2, .int v3] [] M = some r := by
  refine e_Finder_firstWrong_2 hF ?_
  refine (cl_gR (gk_32 hg) (gr_32_0 hg)).trans ?_
  refine (cl_rc (gk_1 hg)).trans ?_
  obtain ⟨x2, M1, k1, h⟩ := iv_ci h; refine (cl_ci k1).trans ?_
  rcases iv_ite h with ⟨hc, h⟩ | ⟨hc, h⟩
  · refine (if_pos hc).trans ?_
    exact h
  · refine (if_neg hc).trans ?_
    refine (cl_ln h1 (Or.inl ⟨by decide, by decide⟩)).trans ?_
    rcases iv_ite h with ⟨hc, h⟩ | ⟨hc, h⟩
    · refine (if_pos hc).trans ?_
      exact h
    · refine (if_neg hc).trans ?_
      obtain ⟨k2, h⟩ := iv_ok h; refine (cl_ia h1 k2).trans ?_
      rcases iv_ite h with ⟨hc, h⟩ | ⟨hc, h⟩
      · refine (if_pos hc).trans ?_
        exact h
      · refine (if_neg hc).trans ?_
        refine (cl_rc (gk_32 hg)).trans ?_
        obtain ⟨x4, M3, k3, h⟩ := iv_ci h; refine (cl_ci k3).trans ?_
        rcases iv_ite h with ⟨hc, h⟩ | ⟨hc, h⟩
        · refine (if_pos hc).trans ?_
          exact h
        · refine (if_neg hc).trans ?_
          exact h
theorem s_Finder_measure {g : am_G} {F : am_FT} (hF : F = am_F T0 g) (hg : GG g) {a1 : Nat} {M : am_M} (h1 : isRt g a1) {r : am_R} (h : (
  if 0 ≤ ((fI M a1 5) - 1) then
    am_cv (F 98 0 [.ref 32, .int (fI M a1 0), .int (fI M a1 1)] [] M) fun M1 => /- Finder_stretchString -/
    am_lt (fW M1 a1 6 0) fun M2 =>
    if ((fI M a1 5) - 1) = 0 then
      am_ok 81 0 <|
      am_ci (F 5 0 [.ref 1, .int (fI M2 (a1 + 1) 0), .int (fI M2 a1 0), .int (fI M2 a1 1)] [] M2) fun x9 M8 => /- City_feetAhead -/
      am_lt (fW M8 a1 7 x9) fun M10 =>
      some (none, M10)
    else
      am_ok 81 0 <|
      am_ci (F 7 0 [.ref 1, .int (fI M2 (a1 + 1) 0), .int (fI M2 a1 0)] [] M2) fun x4 M3 => /- City_feetToEnd -/
      am_ok 81 (((fI M a1 5) - 1)) <|
      am_ci (F 6 0 [.ref 1, .int (rI M3 (a1 + 1) (((fI M a1 5) - 1)).toNatClampNeg), .int (fI M3 a1 1)] [] M3) fun x6 M5 => /- City_feetFromStart -/
      am_lt (fW M5 a1 7 ((x4 + x6))) fun M7 =>
      F 169 110 [.ref 32, .ref a1, .int ((fI M a1 5) - 1), .int 0] [] M7
  else
    am_lt (fW M a1 6 ((-1))) fun M11 =>
    am_lt (fW M11 a1 7 ((-1))) fun M12 =>
    some (none, M12)) = some r) : F 169 0 [.ref 32, .ref a1] [] M = some r := by
  refine e_Finder_measure hF ?_
  refine (cl_gI h1.1).trans ?_
  rcases iv_ite h with ⟨hc, h⟩ | ⟨hc, h⟩
  · refine (if_pos hc).trans ?_
    refine (cl_gI h1.1).trans ?_
    refine (cl_gI h1.1).trans ?_
    refine (cl_rc (gk_32 hg)).trans ?_
    obtain ⟨M1, k1, h⟩ := iv_cv h; refine (cl_cv k1).trans ?_
    refine (cl_pI h1.1).trans ?_
    replace h := iv_lt h
    rcases iv_ite h with ⟨hc, h⟩ | ⟨hc, h⟩
    · refine (if_pos hc).trans ?_
      refine (cl_gR (gk_32 hg) (gr_32_0 hg)).trans ?_
      refine (cl_gR h1.1 h1.2.1).trans ?_
      obtain ⟨k6, h⟩ := iv_ok h; refine (cl_ia h1.2.2 k6).trans ?_
      refine (cl_gI h1.1).trans ?_
      refine (cl_gI h1.1).trans ?_
      refine (cl_rc (gk_1 hg)).trans ?_
      obtain ⟨x9, M8, k7, h⟩ := iv_ci h; refine (cl_ci k7).trans ?_
      refine (cl_pI h1.1).trans ?_
      replace h := iv_lt h
      exact h
    · refine (if_neg hc).trans ?_
      refine (cl_gR (gk_32 hg) (gr_32_0 hg)).trans ?_
      refine (cl_gR h1.1 h1.2.1).trans ?_
      obtain ⟨k2, h⟩ := iv_ok h; refine (cl_ia h1.2.2 k2).trans ?_
      refine (cl_gI h1.1).trans ?_
      refine (cl_rc (gk_1 hg)).trans ?_
      obtain ⟨x4, M3, k3, h⟩ := iv_ci h; refine (cl_ci k3).trans ?_
      refine (cl_gR (gk_32 hg) (gr_32_0 hg)).trans ?_
      refine (cl_gR h1.1 h1.2.1).trans ?_
      obtain ⟨k4, h⟩ := iv_ok h; refine (cl_ia h1.2.2 k4).trans ?_
      refine (cl_gI h1.1).trans ?_
      refine (cl_rc (gk_1 hg)).trans ?_
      obtain ⟨x6, M5, k5, h⟩ := iv_ci h; refine (cl_ci k5).trans ?_
      refine (cl_pI h1.1).trans ?_
      replace h := iv_lt h
      exact h
  · refine (if_neg hc).trans ?_
    refine (cl_pI h1.1).trans ?_
    replace h := iv_lt h
    refine (cl_pI h1.1).trans ?_
    replace h := iv_lt h
    exact h
theorem s_Finder_measure_110 {g : am_G} {F : am_FT} (hF : F = am_F T0 g) (hg : GG g) {a1 : Nat} {v2 : Int32} {v3 : Int32} {M : am_M} (h1 : isRt g a1) {r : am_R} (h : (
  if v2 ≤ v3 then
    some (none, M)
  else
    am_ok 81 v3 <|
    am_ci (F 4 0 [.ref 1, .int (rI M (a1 + 1) v3.toNatClampNeg)] [] M) fun x2 M1 => /- City_endOf -/
    am_ok 24 x2 <|
    am_lt (fW M1 a1 6 (((fI M a1 6) + (rI M1 37 x2.toNatClampNeg)))) fun M3 =>
    if v3 ≤ 0 then
      F 169 110 [.ref 32, .ref a1, .int v2, .int (v3 + 1)] [] M3
    else
      am_ok 81 v3 <|
      am_ok 40 (((rI M3 (a1 + 1) v3.toNatClampNeg) >>> ((1 : Int32) &&& 31))) <|
      am_lt (fW M3 a1 7 (((fI M3 a1 7) + (rI M3 34 (((rI M3 (a1 + 1) v3.toNatClampNeg) >>> ((1 : Int32) &&& 31))).toNatClampNeg)))) fun M4 =>
      F 169 110 [.ref 32, .ref a1, .int v2, .int (v3 + 1)] [] M4) = some r) : F 169 110 [.ref 32, .ref a1, .int v2, .int v3] [] M = some r := by
  refine e_Finder_measure_110 hF ?_
  rcases iv_ite h with ⟨hc, h⟩ | ⟨hc, h⟩
  · refine (if_pos hc).trans ?_
    exact h
  · refine (if_neg hc).trans ?_
    refine (cl_gI h1.1).trans ?_
    refine (cl_gR (gk_32 hg) (gr_32_8 hg)).trans ?_
    refine (cl_gR (gk_32 hg) (gr_32_0 hg)).trans ?_
    refine (cl_gR h1.1 h1.2.1).trans ?_
    obtain ⟨k1, h⟩ := iv_ok h; refine (cl_ia h1.2.2 k1).trans ?_
    refine (cl_rc (gk_1 hg)).trans ?_
    obtain ⟨x2, M1, k2, h⟩ := iv_ci h; refine (cl_ci k2).trans ?_
    obtain ⟨k3, h⟩ := iv_ok h; refine (cl_ia (gk_37 hg) k3).trans ?_
    refine (cl_pI h1.1).trans ?_
    replace h := iv_lt h
    rcases iv_ite h with ⟨hc, h⟩ | ⟨hc, h⟩
    · refine (if_pos hc).trans ?_
      exact h
    · refine (if_neg hc).trans ?_
      refine (cl_gI h1.1).trans ?_
      refine (cl_gR (gk_32 hg) (gr_32_3 hg)).trans ?_
      refine (cl_gR h1.1 h1.2.1).trans ?_
      obtain ⟨k4, h⟩ := iv_ok h; refine (cl_ia h1.2.2 k4).trans ?_
      obtain ⟨k5, h⟩ := iv_ok h; refine (cl_ia (gk_34 hg) k5).trans ?_
      refine (cl_pI h1.1).trans ?_
      replace h := iv_lt h
      exact h
theorem s_Finder_setHour {g : am_G} {F : am_FT} (hF : F = am_F T0 g) (hg : GG g) {v1 : Int32} {M : am_M} {r : am_R} (h : (
  F 170 2 [.ref 32, .int v1, .int 0] [] M) = some r) : F 170 0 [.ref 32, .int v1] [] M = some r := by
  refine e_Finder_setHour hF ?_
  exact h
theorem s_Finder_setHour_2 {g : am_G} {F : am_FT} (hF : F = am_F T0 g) (hg : GG g) {v1 : Int32} {v2 : Int32} {M : am_M} {r : am_R} (h : (
  am_ci (F 10 0 [.ref 1] [] M) fun x2 M1 => /- City_legCount -/
  if x2 ≤ v2 then
    F 170 36 [.ref 32, .int v1, .int 0] [] M1
  else
    am_ci (F 88 0 [.ref 1, .int v2, .int v1] [] M1) fun x4 M3 => /- City_isPassable -/
    am_ok 80 v2 <|
    am_lt (wI M3 33 v2.toNatClampNeg (vp_nar .boolean x4)) fun M5 =>
    F 170 2 [.ref 32, .int v1, .int (v2 + 1)] [] M5) = some r) : F 170 2 [.ref 32, .int v1, .int v2] [] M = some r := by
  refine e_Finder_setHour_2 hF ?_
  refine (cl_gR (gk_32 hg) (gr_32_0 hg)).trans ?_
  refine (cl_rc (gk_1 hg)).trans ?_
  obtain ⟨x2, M1, k1, h⟩ := iv_ci h; refine (cl_ci k1).trans ?_
  rcases iv_ite h with ⟨hc, h⟩ | ⟨hc, h⟩
  · refine (if_pos hc).trans ?_
    exact h
  · refine (if_neg hc).trans ?_
    refine (cl_gR (gk_32 hg) (gr_32_2 hg)).trans ?_
    refine (cl_gR (gk_32 hg) (gr_32_0 hg)).trans ?_
    refine (cl_rc (gk_1 hg)).trans ?_
    obtain ⟨x4, M3, k2, h⟩ := iv_ci h; refine (cl_ci k2).trans ?_
    obtain ⟨k3, h⟩ := iv_ok h; refine (cl_zs (gk_33 hg) k3).trans ?_
    replace h := iv_lt h
    exact h
theorem s_Finder_setHour_36 {g : am_G} {F : am_FT} (hF : F = am_F T0 g) (hg : GG g) {v1 : Int32} {v2 : Int32} {M : am_M} {r : am_R} (h : (
  if (fI M 1 7) ≤ v2 then
    some (none, M)
  else
    am_ci (F 12 0 [.ref 1, .int v2, .int v1] [] M) fun x2 M1 => /- City_priceOf -/
    am_ok 40 v2 <|
    am_lt (wI M1 34 v2.toNatClampNeg x2) fun M3 =>
    F 170 36 [.ref 32, .int v1, .int (v2 + 1)] [] M3) = some r) : F 170 36 [.ref 32, .int v1, .int v2] [] M = some r := by
  refine e_Finder_setHour_36 hF ?_
  refine (cl_gR (gk_32 hg) (gr_32_0 hg)).trans ?_
  refine (cl_gI (gk_1 hg)).trans ?_
  rcases iv_ite h with ⟨hc, h⟩ | ⟨hc, h⟩
  · refine (if_pos hc).trans ?_
    exact h
  · refine (if_neg hc).trans ?_
    refine (cl_gR (gk_32 hg) (gr_32_3 hg)).trans ?_
    refine (cl_gR (gk_32 hg) (gr_32_0 hg)).trans ?_
    refine (cl_rc (gk_1 hg)).trans ?_
    obtain ⟨x2, M1, k1, h⟩ := iv_ci h; refine (cl_ci k1).trans ?_
    obtain ⟨k2, h⟩ := iv_ok h; refine (cl_is (gk_34 hg) k2).trans ?_
    replace h := iv_lt h
    exact h
theorem s_Finder_spread {g : am_G} {F : am_FT} (hF : F = am_F T0 g) (hg : GG g) {v1 : Int32} {v2 : Int32} {v3 : Int32} {M : am_M} {r : am_R} (h : (
  okb v3 <|
  am_lt (fW M 32 13 v3) fun M1 =>
  am_cv (F 98 0 [.ref 32, .int v1, .int v2] [] M1) fun M2 => /- Finder_stretchString -/
  am_cv (F 99 0 [.ref 32, .int v2] [] M2) fun M3 => /- Finder_weighLegs -/
  am_ci (F 10 0 [.ref 1] [] M3) fun x5 M4 => /- City_legCount -/
  am_ok 8 v2 <|
  F 171 41 [.ref 32, .int x5, .int (2 * (rI M4 11 v2.toNatClampNeg)), .int 0] [] M4) = some r) : F 171 0 [.ref 32, .int v1, .int v2, .int v3] [] M = some r := by
  refine e_Finder_spread hF ?_
  obtain ⟨k1, h⟩ := iv_okb h; refine (cl_pZ k1 (gk_32 hg)).trans ?_
  replace h := iv_lt h
  refine (cl_rc (gk_32 hg)).trans ?_
  obtain ⟨M2, k2, h⟩ := iv_cv h; refine (cl_cv k2).trans ?_
  refine (cl_rc (gk_32 hg)).trans ?_
  obtain ⟨M3, k3, h⟩ := iv_cv h; refine (cl_cv k3).trans ?_
  refine (cl_gR (gk_32 hg) (gr_32_0 hg)).trans ?_
  refine (cl_rc (gk_1 hg)).trans ?_
  obtain ⟨x5, M4, k4, h⟩ := iv_ci h; refine (cl_ci k4).trans ?_
  refine (cl_gR (gk_32 hg) (gr_32_0 hg)).trans ?_
  refine (cl_gR (gk_1 hg) (gr_1_11 hg)).trans ?_
  obtain ⟨k5, h⟩ := iv_ok h; refine (cl_ia (gk_11 hg) k5).trans ?_
  exact h
theorem s_Finder_spread_41 {g : am_G} {F : am_FT} (hF : F = am_F T0 g) (hg : GG g) {v4 : Int32} {v5 : Int32} {v6 : Int32} {M : am_M} {r : am_R} (h : (
  if v4 ≤ v6 then
    am_ok 80 v5 <|
    am_cv (F 97 0 [.ref 32, .int v5, .long (rJ M 39 v5.toNatClampNeg)] [] M) fun M1 => /- Finder_offer -/
    am_ok 80 ((v5 + 1)) <|
    am_cv (F 97 0 [.ref 32, .int (v5 + 1), .long (rJ M1 39 ((v5 + 1)).toNatClampNeg)] [] M1) fun M2 => /- Finder_offer -/
    F 171 105 [.ref 32, .int v4, .int 0] [] M2
  else
    am_ok 80 v6 <|
    am_lt (wJ M 40 v6.toNatClampNeg 9223372036854775807) fun M3 =>
    am_ok 80 v6 <|
    am_lt (wI M3 41 v6.toNatClampNeg (vp_nar .boolean 0)) fun M4 =>
    F 171 41 [.ref 32, .int v4, .int v5, .int (v6 + 1)] [] M4) = some r) : F 171 41 [.ref 32, .int v4, .int v5, .int v6] [] M = some r := by
  refine e_Finder_spread_41 hF ?_
  rcases iv_ite h with ⟨hc, h⟩ | ⟨hc, h⟩
  · refine (if_pos hc).trans ?_
    refine (cl_gR (gk_32 hg) (gr_32_10 hg)).trans ?_
    obtain ⟨k1, h⟩ := iv_ok h; refine (cl_la (gk_39 hg) k1).trans ?_
    refine (cl_rc (gk_32 hg)).trans ?_
    obtain ⟨M1, k2, h⟩ := iv_cv h; refine (cl_cv k2).trans ?_
    refine (cl_gR (gk_32 hg) (gr_32_10 hg)).trans ?_
    obtain ⟨k3, h⟩ := iv_ok h; refine (cl_la (gk_39 hg) k3).trans ?_
    refine (cl_rc (gk_32 hg)).trans ?_
    obtain ⟨M2, k4, h⟩ := iv_cv h; refine (cl_cv k4).trans ?_
    exact h
  · refine (if_neg hc).trans ?_
    refine (cl_gR (gk_32 hg) (gr_32_11 hg)).trans ?_
    obtain ⟨k5, h⟩ := iv_ok h; refine (cl_ls (gk_40 hg) k5).trans ?_
    replace h := iv_lt h
    refine (cl_gR (gk_32 hg) (gr_32_12 hg)).trans ?_
    obtain ⟨k6, h⟩ := iv_ok h; refine (cl_zs (gk_41 hg) k6).trans ?_
    replace h := iv_lt h
    exact h
theorem s_Finder_spread_105 {g : am_G} {F : am_FT} (hF : F = am_F T0 g) (hg : GG g) {v4 : Int32} {v6 : Int32} {M : am_M} {r : am_R} (h : (
  if v4 ≤ v6 then
    some (none, M)
  else
    am_ci (F 20 0 [.ref 32, .int v4] [] M) fun x2 M1 => /- Finder_nearest -/
    if 0 ≤ x2 then
      am_ok 80 x2 <|
      am_lt (wI M1 41 x2.toNatClampNeg (vp_nar .boolean 1)) fun M3 =>
      am_cj (F 16 0 [.ref 32, .int x2] [] M3) fun l5 M4 => /- Finder_costThrough -/
      am_cv (F 97 0 [.ref 32, .int x2, .long l5] [] M4) fun M6 => /- Finder_offer -/
      F 171 105 [.ref 32, .int v4, .int (v6 + 1)] [] M6
    else
      some (none, M1)) = some r) : F 171 105 [.ref 32, .int v4, .int v6] [] M = some r := by
  refine e_Finder_spread_105 hF ?_
  rcases iv_ite h with ⟨hc, h⟩ | ⟨hc, h⟩
  · refine (if_pos hc).trans ?_
    exact h
  · refine (if_neg hc).trans ?_
    refine (cl_rc (gk_32 hg)).trans ?_
    obtain ⟨x2, M1, k1, h⟩ := iv_ci h; refine (cl_ci k1).trans ?_
    rcases iv_ite h with ⟨hc, h⟩ | ⟨hc, h⟩
    · refine (if_pos hc).trans ?_
      refine (cl_gR (gk_32 hg) (gr_32_12 hg)).trans ?_
      obtain ⟨k2, h⟩ := iv_ok h; refine (cl_zs (gk_41 hg) k2).trans ?_
      replace h := iv_lt h
      refine (cl_rc (gk_32 hg)).trans ?_
      obtain ⟨l5, M4, k3, h⟩ := iv_cj h; refine (cl_cj k3).trans ?_
      refine (cl_rc (gk_32 hg)).trans ?_
      obtain ⟨M6, k4, h⟩ := iv_cv h; refine (cl_cv k4).trans ?_
      exact h
    · refine (if_neg hc).trans ?_
      exact h
theorem s_Finder_trace {g : am_G} {F : am_FT} (hF : F = am_F T0 g) (hg : GG g) {a1 : Nat} {v2 : Int32} {w3 : Int64} {M : am_M} (h1 : isRt g a1) {r : am_R} (h : (
  am_cv (F 66 0 [.ref a1, .int v2] [] M) fun M1 => /- Route_add -/
  am_cj (F 93 0 [.ref 32, .int v2, .int (fI M1 a1 0), .int (fI M1 a1 1)] [] M1) fun l3 M2 => /- Finder_costAlone -/
  if (lg_cmp l3 w3) = 0 then
    some (none, M2)
  else
    F 172 30 [.ref 32, .ref a1, .int v2, .int 0] [] M2) = some r) : F 172 0 [.ref 32, .ref a1, .int v2, .long w3] [] M = some r := by
  refine e_Finder_trace hF ?_
  refine (cl_rc h1.1).trans ?_
  obtain ⟨M1, k1, h⟩ := iv_cv h; refine (cl_cv k1).trans ?_
  refine (cl_gI h1.1).trans ?_
  refine (cl_gI h1.1).trans ?_
  refine (cl_rc (gk_32 hg)).trans ?_
  obtain ⟨l3, M2, k2, h⟩ := iv_cj h; refine (cl_cj k2).trans ?_
  rcases iv_ite h with ⟨hc, h⟩ | ⟨hc, h⟩
  · refine (if_pos hc).trans ?_
    exact h
  · refine (if_neg hc).trans ?_
    exact h
theorem s_Finder_trace_30 {g : am_G} {F : am_FT} (hF : F = am_F T0 g) (hg : GG g) {a1 : Nat} {v5 : Int32} {v6 : Int32} {M : am_M} (h1 : isRt g a1) {r : am_R} (h : (
  am_ci (F 10 0 [.ref 1] [] M) fun x2 M1 => /- City_legCount -/
  if x2 ≤ v6 then
    some (none, M1)
  else
    am_ci (F 96 0 [.ref 32, .int v5] [] M1) fun x4 M3 => /- Finder_nextLeg -/
    if 0 ≤ x4 then
      am_cv (F 66 0 [.ref a1, .int x4] [] M3) fun M5 => /- Route_add -/
      am_ok 80 x4 <|
      am_ok 80 v5 <|
      if (lg_cmp ((rJ M5 39 x4.toNatClampNeg)) ((rJ M5 40 v5.toNatClampNeg))) = 0 then
        some (none, M5)
      else
        F 172 30 [.ref 32, .ref a1, .int x4, .int (v6 + 1)] [] M5
    else
      some (none, M3)) = some r) : F 172 30 [.ref 32, .ref a1, .int v5, .int v6] [] M = some r := by
  refine e_Finder_trace_30 hF ?_
  refine (cl_gR (gk_32 hg) (gr_32_0 hg)).trans ?_
  refine (cl_rc (gk_1 hg)).trans ?_
  obtain ⟨x2, M1, k1, h⟩ := iv_ci h; refine (cl_ci k1).trans ?_
  rcases iv_ite h with ⟨hc, h⟩ | ⟨hc, h⟩
  · refine (if_pos hc).trans ?_
    exact h
  · refine (if_neg hc).trans ?_
    refine (cl_rc (gk_32 hg)).trans ?_
    obtain ⟨x4, M3, k2, h⟩ := iv_ci h; refine (cl_ci k2).trans ?_
    rcases iv_ite h with ⟨hc, h⟩ | ⟨hc, h⟩
    · refine (if_pos hc).trans ?_
      refine (cl_rc h1.1).trans ?_
      obtain ⟨M5, k3, h⟩ := iv_cv h; refine (cl_cv k3).trans ?_
      refine (cl_gR (gk_32 hg) (gr_32_10 hg)).trans ?_
      obtain ⟨k4, h⟩ := iv_ok h; refine (cl_la (gk_39 hg) k4).trans ?_
      refine (cl_gR (gk_32 hg) (gr_32_11 hg)).trans ?_
      obtain ⟨k5, h⟩ := iv_ok h; refine (cl_la (gk_40 hg) k5).trans ?_
      rcases iv_ite h with ⟨hc, h⟩ | ⟨hc, h⟩
      · refine (if_pos hc).trans ?_
        exact h
      · refine (if_neg hc).trans ?_
        exact h
    · refine (if_neg hc).trans ?_
      exact h
theorem s_Links_addRun {g : am_G} {F : am_FT} (hF : F = am_F T0 g) (hg : GG g) {v1 : Int32} {a2 : Nat} {M : am_M} (h2 : isRt g a2) {r : am_R} (h : (
  am_ok 10 v1 <|
  am_lt (wI M 57 v1.toNatClampNeg 0) fun M1 =>
  F 174 9 [.ref 42, .int v1, .ref a2, .int 1] [] M1) = some r) : F 174 0 [.ref 42, .int v1, .ref a2] [] M = some r := by
  refine e_Links_addRun hF ?_
  refine (cl_gR (gk_42 hg) (gr_42_5 hg)).trans ?_
  obtain ⟨k1, h⟩ := iv_ok h; refine (cl_is (gk_57 hg) k1).trans ?_
  replace h := iv_lt h
  exact h
theorem s_Links_addRun_9 {g : am_G} {F : am_FT} (hF : F = am_F T0 g) (hg : GG g) {v1 : Int32} {a2 : Nat} {v3 : Int32} {M : am_M} (h2 : isRt g a2) {r : am_R} (h : (
  if (fI M a2 5) ≤ v3 then
    some (none, M)
  else
    am_ok 81 ((v3 - 1)) <|
    am_ok 81 v3 <|
    am_ci (F 105 0 [.ref 42, .int (rI M (a2 + 1) ((v3 - 1)).toNatClampNeg), .int (rI M (a2 + 1) v3.toNatClampNeg)] [] M) fun x2 M1 => /- Links_numberedLink -/
    if x2 < 0 then
      F 174 9 [.ref 42, .int v1, .ref a2, .int (v3 + 1)] [] M1
    else
      am_ci (F 38 0 [.ref 42, .int v1, .int x2] [] M1) fun x4 M3 => /- Links_isInRun -/
      if x4 = 0 then
        am_ok 10 v1 <|
        if 20 ≤ (rI M3 57 v1.toNatClampNeg) then
          F 174 9 [.ref 42, .int v1, .ref a2, .int (v3 + 1)] [] M3
        else
          am_ok 10 v1 <|
          am_ok 10 v1 <|
          am_ok 20 ((rI M3 57 v1.toNatClampNeg)) <|
          am_lt (wI M3 (47 + 1 * v1.toNatClampNeg) ((rI M3 57 v1.toNatClampNeg)).toNatClampNeg x2) fun M5 =>
          am_ok 10 v1 <|
          am_ok 10 v1 <|
          am_lt (wI M5 57 v1.toNatClampNeg (((rI M5 57 v1.toNatClampNeg) + 1))) fun M6 =>
          F 174 9 [.ref 42, .int v1, .ref a2, .int (v3 + 1)] [] M6
      else
        F 174 9 [.ref 42, .int v1, .ref a2, .int (v3 + 1)] [] M3) = some r) : F 174 9 [.ref 42, .int v1, .ref a2, .int v3] [] M = some r := by
  refine e_Links_addRun_9 hF ?_
  refine (cl_gI h2.1).trans ?_
  rcases iv_ite h with ⟨hc, h⟩ | ⟨hc, h⟩
  · refine (if_pos hc).trans ?_
    exact h
  · refine (if_neg hc).trans ?_
    refine (cl_gR h2.1 h2.2.1).trans ?_
    obtain ⟨k1, h⟩ := iv_ok h; refine (cl_ia h2.2.2 k1).trans ?_
    refine (cl_gR h2.1 h2.2.1).trans ?_
    obtain ⟨k2, h⟩ := iv_ok h; refine (cl_ia h2.2.2 k2).trans ?_
    refine (cl_rc (gk_42 hg)).trans ?_
    obtain ⟨x2, M1, k3, h⟩ := iv_ci h; refine (cl_ci k3).trans ?_
    rcases iv_ite h with ⟨hc, h⟩ | ⟨hc, h⟩
    · refine (if_pos hc).trans ?_
      exact h
    · refine (if_neg hc).trans ?_
      refine (cl_rc (gk_42 hg)).trans ?_
      obtain ⟨x4, M3, k4, h⟩ := iv_ci h; refine (cl_ci k4).trans ?_
      rcases iv_ite h with ⟨hc, h⟩ | ⟨hc, h⟩
      · refine (if_pos hc).trans ?_
        refine (cl_gR (gk_42 hg) (gr_42_5 hg)).trans ?_
        obtain ⟨k5, h⟩ := iv_ok h; refine (cl_ia (gk_57 hg) k5).trans ?_
        rcases iv_ite h with ⟨hc, h⟩ | ⟨hc, h⟩
        · refine (if_pos hc).trans ?_
          exact h
        · refine (if_neg hc).trans ?_
          refine (cl_gR (gk_42 hg) (gr_42_4 hg)).trans ?_
          obtain ⟨k6, h⟩ := iv_ok h; refine (cl_qa (gk_46 hg) (by decide) (by decide) k6 (gq_46 hg k6)).trans ?_
          have k7 := go_46 hg k6
          refine (cl_gR (gk_42 hg) (gr_42_5 hg)).trans ?_
          obtain ⟨k8, h⟩ := iv_ok h; refine (cl_ia (gk_57 hg) k8).trans ?_
          obtain ⟨k9, h⟩ := iv_ok h; refine (cl_is k7 k9).trans ?_
          replace h := iv_lt h
          refine (cl_gR (gk_42 hg) (gr_42_5 hg)).trans ?_
          obtain ⟨k10, h⟩ := iv_ok h; refine (cl_ia (gk_57 hg) k10).trans ?_
          obtain ⟨k11, h⟩ := iv_ok h; refine (cl_is (gk_57 hg) k11).trans ?_
          replace h := iv_lt h
          exact h
      · refine (if_neg hc).trans ?_
        exact h
theorem s_Links_heldAfter {g : am_G} {F : am_FT} (hF : F = am_F T0 g) (hg : GG g) {a1 : Nat} {v2 : Int32} {v3 : Int32} {v4 : Int32} {M : am_M} (h1 : isPu g a1) {r : am_R} (h : (
  F 175 6 [.ref 42, .ref a1, .int v2, .int v3, .int v4, .int 0, .int 0] [] M) = some r) : F 175 0 [.ref 42, .ref a1, .int v2, .int v3, .int v4] [] M = some r := by
  refine e_Links_heldAfter hF ?_
  exact h
theorem s_Links_heldAfter_6 {g : am_G} {F : am_FT} (hF : F = am_F T0 g) (hg : GG g) {a1 : Nat} {v2 : Int32} {v3 : Int32} {v4 : Int32} {v5 : Int32} {v6 : Int32} {M : am_M} (h1 : isPu g a1) {r : am_R} (h : (
  if (fI M 42 2) ≤ v6 then
    am_rt 1 v5 M
  else
    am_ok 200 v6 <|
    am_ok 200 v6 <|
    F 175 36 [.ref 42, .ref a1, .int v2, .int v3, .int v4, .int v5, .int v6, .int (rI M (a1 + 1) v6.toNatClampNeg), .int (rI M (a1 + 2) v6.toNatClampNeg), .int 0] [] M) = some r) : F 175 6 [.ref 42, .ref a1, .int v2, .int v3, .int v4, .int v5, .int v6] [] M = some r := by
  refine e_Links_heldAfter_6 hF ?_
  refine (cl_gI (gk_42 hg)).trans ?_
  rcases iv_ite h with ⟨hc, h⟩ | ⟨hc, h⟩
  · refine (if_pos hc).trans ?_
    exact h
  · refine (if_neg hc).trans ?_
    refine (cl_gR h1.1 h1.2.1).trans ?_
    obtain ⟨k1, h⟩ := iv_ok h; refine (cl_ia h1.2.2.1 k1).trans ?_
    refine (cl_gR h1.1 h1.2.2.2.1).trans ?_
    obtain ⟨k2, h⟩ := iv_ok h; refine (cl_ia h1.2.2.2.2 k2).trans ?_
    exact h
theorem s_Links_heldAfter_36 {g : am_G} {F : am_FT} (hF : F = am_F T0 g) (hg : GG g) {a1 : Nat} {v2 : Int32} {v3 : Int32} {v4 : Int32} {v5 : Int32} {v6 : Int32} {v7 : Int32} {v8 : Int32} {v9 : Int32} {M : am_M} (h1 : isPu g a1) {r : am_R} (h : (
  if v2 ≤ v9 then
    am_ci (F 144 0 [.ref a1, .int v7, .int v8, .int v4] [] M) fun x2 M1 => /- Pupil_wouldHold -/
    if x2 = 0 then
      F 175 6 [.ref 42, .ref a1, .int v2, .int v3, .int v4, .int v5, .int (v6 + 1)] [] M1
    else
      F 175 6 [.ref 42, .ref a1, .int v2, .int v3, .int v4, .int (v5 + 1), .int (v6 + 1)] [] M1
  else
    am_ok 200 v6 <|
    am_ok 4 v9 <|
    if (((rI M 59 v6.toNatClampNeg) >>> ((rI M 60 v9.toNatClampNeg) &&& 31)) &&& 1) = 1 then
      F 175 36 [.ref 42, .ref a1, .int v2, .int v3, .int v4, .int v5, .int v6, .int (v7 + 1), .int (v3 + v9), .int (v9 + 1)] [] M
    else
      F 175 36 [.ref 42, .ref a1, .int v2, .int v3, .int v4, .int v5, .int v6, .int v7, .int v8, .int (v9 + 1)] [] M) = some r) : F 175 36 [.ref 42, .ref a1, .int v2, .int v3, .int v4, .int v5, .int v6, .int v7, .int v8, .int v9] [] M = some r := by
  refine e_Links_heldAfter_36 hF ?_
  rcases iv_ite h with ⟨hc, h⟩ | ⟨hc, h⟩
  · refine (if_pos hc).trans ?_
    refine (cl_rc h1.1).trans ?_
    obtain ⟨x2, M1, k1, h⟩ := iv_ci h; refine (cl_ci k1).trans ?_
    rcases iv_ite h with ⟨hc, h⟩ | ⟨hc, h⟩
    · refine (if_pos hc).trans ?_
      exact h
    · refine (if_neg hc).trans ?_
      exact h
  · refine (if_neg hc).trans ?_
    refine (cl_gR (gk_42 hg) (gr_42_8 hg)).trans ?_
    obtain ⟨k2, h⟩ := iv_ok h; refine (cl_ia (gk_59 hg) k2).trans ?_
    refine (cl_gR (gk_42 hg) (gr_42_9 hg)).trans ?_
    obtain ⟨k3, h⟩ := iv_ok h; refine (cl_ia (gk_60 hg) k3).trans ?_
    rcases iv_ite h with ⟨hc, h⟩ | ⟨hc, h⟩
    · refine (if_pos hc).trans ?_
      exact h
    · refine (if_neg hc).trans ?_
      exact h
theorem s_Links_rideRun {g : am_G} {F : am_FT} (hF : F = am_F T0 g) (hg : GG g) {a1 : Nat} {v2 : Int32} {v3 : Int32} {M : am_M} (h1 : isPu g a1) {r : am_R} (h : (
  F 176 3 [.ref 42, .ref a1, .int v2, .int v3, .int 0] [] M) = some r) : F 176 0 [.ref 42, .ref a1, .int v2, .int v3] [] M = some r := by
  refine e_Links_rideRun hF ?_
  exact h
theorem s_Links_rideRun_3 {g : am_G} {F : am_FT} (hF : F = am_F T0 g) (hg : GG g) {a1 : Nat} {v2 : Int32} {v3 : Int32} {v4 : Int32} {M : am_M} (h1 : isPu g a1) {r : am_R} (h : (
  am_ok 10 v2 <|
  if (rI M 57 v2.toNatClampNeg) ≤ v4 then
    some (none, M)
  else
    am_ok 10 v2 <|
    am_ok 20 v4 <|
    am_cv (F 143 0 [.ref a1, .int (rI M (47 + 1 * v2.toNatClampNeg) v4.toNatClampNeg), .int v3] [] M) fun M1 => /- Pupil_rideLink -/
    F 176 3 [.ref 42, .ref a1, .int v2, .int v3, .int (v4 + 1)] [] M1) = some r) : F 176 3 [.ref 42, .ref a1, .int v2, .int v3, .int v4] [] M = some r := by
  refine e_Links_rideRun_3 hF ?_
  refine (cl_gR (gk_42 hg) (gr_42_5 hg)).trans ?_
  obtain ⟨k1, h⟩ := iv_ok h; refine (cl_ia (gk_57 hg) k1).trans ?_
  rcases iv_ite h with ⟨hc, h⟩ | ⟨hc, h⟩
  · refine (if_pos hc).trans ?_
    exact h
  · refine (if_neg hc).trans ?_
    refine (cl_gR (gk_42 hg) (gr_42_4 hg)).trans ?_
    obtain ⟨k2, h⟩ := iv_ok h; refine (cl_qa (gk_46 hg) (by decide) (by decide) k2 (gq_46 hg k2)).trans ?_
    have k3 := go_46 hg k2
    obtain ⟨k4, h⟩ := iv_ok h; refine (cl_ia k3 k4).trans ?_
    refine (cl_rc h1.1).trans ?_
    obtain ⟨M1, k5, h⟩ := iv_cv h; refine (cl_cv k5).trans ?_
    exact h
theorem s_Pupil_isHeld {g : am_G} {F : am_FT} (hF : F = am_F T0 g) (hg : GG g) {a0 : Nat} {v1 : Int32} {v2 : Int32} {M : am_M} (h0 : isPu g a0) {r : am_R} (h : (
  am_ok 200 v1 <|
  am_ok 200 v1 <|
  am_ci (F 144 0 [.ref a0, .int (rI M (a0 + 1) v1.toNatClampNeg), .int (rI M (a0 + 2) v1.toNatClampNeg), .int v2] [] M) fun x2 M1 => /- Pupil_wouldHold -/
  am_rt 2 x2 M1) = some r) : F 195 0 [.ref a0, .int v1, .int v2] [] M = some r := by
  refine e_Pupil_isHeld hF ?_
  refine (cl_gR h0.1 h0.2.1).trans ?_
  obtain ⟨k1, h⟩ := iv_ok h; refine (cl_ia h0.2.2.1 k1).trans ?_
  refine (cl_gR h0.1 h0.2.2.2.1).trans ?_
  obtain ⟨k2, h⟩ := iv_ok h; refine (cl_ia h0.2.2.2.2 k2).trans ?_
  refine (cl_rc h0.1).trans ?_
  obtain ⟨x2, M1, k3, h⟩ := iv_ci h; refine (cl_ci k3).trans ?_
  exact h
theorem s_Rule_appliesTo {g : am_G} {F : am_FT} (hF : F = am_F T0 g) (hg : GG g) {a0 : Nat} {a1 : Nat} {M : am_M} (h0 : isRu g a0) (h1 : isEx g a1) {r : am_R} (h : (
  F 196 2 [.ref a0, .ref a1, .int 0] [] M) = some r) : F 196 0 [.ref a0, .ref a1] [] M = some r := by
  refine e_Rule_appliesTo hF ?_
  exact h
theorem s_Rule_appliesTo_2 {g : am_G} {F : am_FT} (hF : F = am_F T0 g) (hg : GG g) {a0 : Nat} {a1 : Nat} {v2 : Int32} {M : am_M} (h0 : isRu g a0) (h1 : isEx g a1) {r : am_R} (h : (
  if (fI M a0 1) ≤ v2 then
    am_rt 2 1 M
  else
    am_ok 3 v2 <|
    am_ci (F 91 0 [.ref a1, .int (rI M (a0 + 1) v2.toNatClampNeg)] [] M) fun x2 M1 => /- Exam_valueOf -/
    am_ok 3 v2 <|
    am_ci (F 70 0 [.int (x2 - (rI M1 (a0 + 3) v2.toNatClampNeg))] [] M1) fun x4 M3 => /- Rule_signOf -/
    am_ok 3 v2 <|
    if x4 = (rI M3 (a0 + 2) v2.toNatClampNeg) then
      F 196 2 [.ref a0, .ref a1, .int (v2 + 1)] [] M3
    else
      am_rt 2 0 M3) = some r) : F 196 2 [.ref a0, .ref a1, .int v2] [] M = some r := by
  refine e_Rule_appliesTo_2 hF ?_
  refine (cl_gI h0.1).trans ?_
  rcases iv_ite h with ⟨hc, h⟩ | ⟨hc, h⟩
  · refine (if_pos hc).trans ?_
    exact h
  · refine (if_neg hc).trans ?_
    refine (cl_gR h0.1 h0.2.1).trans ?_
    obtain ⟨k1, h⟩ := iv_ok h; refine (cl_ia h0.2.2.1 k1).trans ?_
    refine (cl_rc h1.1).trans ?_
    obtain ⟨x2, M1, k2, h⟩ := iv_ci h; refine (cl_ci k2).trans ?_
    refine (cl_gR h0.1 h0.2.2.2.2.2.1).trans ?_
    obtain ⟨k3, h⟩ := iv_ok h; refine (cl_ia h0.2.2.2.2.2.2 k3).trans ?_
    obtain ⟨x4, M3, k4, h⟩ := iv_ci h; refine (cl_ci k4).trans ?_
    refine (cl_gR h0.1 h0.2.2.2.1).trans ?_
    obtain ⟨k5, h⟩ := iv_ok h; refine (cl_ia h0.2.2.2.2.1 k5).trans ?_
    rcases iv_ite h with ⟨hc, h⟩ | ⟨hc, h⟩
    · refine (if_pos hc).trans ?_
      exact h
    · refine (if_neg hc).trans ?_
      exact h
theorem s_RunSayer_about {g : am_G} {F : am_FT} (hF : F = am_F T0 g) (hg : GG g) {v1 : Int32} {v2 : Int32} {v3 : Int32} {M : am_M} {r : am_R} (h : (
  am_ci (F 154 0 [.ref 0, .int v1] [] M) fun x2 M1 => /- RunSayer_noWay -/
  if x2 = 0 then
    am_ci (F 72 0 [.int v2, .int 0, .int 6] [] M1) fun x4 M3 => /- RunSayer_outside -/
    if x4 = 0 then
      am_ci (F 150 0 [.int v3] [] M3) fun x6 M5 => /- RunSayer_noHour -/
      if x6 = 0 then
        am_ci (F 90 0 [.ref 1, .int v1, .int v2, .int v3] [] M5) fun x8 M7 => /- City_tellWay -/
        am_rt 1 x8 M7
      else
        am_rt 1 ((-2)) M5
    else
      am_rt 1 ((-2)) M3
  else
    am_rt 1 ((-1)) M1) = some r) : F 197 0 [.ref 0, .int v1, .int v2, .int v3] [] M = some r := by
  refine e_RunSayer_about hF ?_
  refine (cl_rc (gk_0 hg)).trans ?_
  obtain ⟨x2, M1, k1, h⟩ := iv_ci h; refine (cl_ci k1).trans ?_
  rcases iv_ite h with ⟨hc, h⟩ | ⟨hc, h⟩
  · refine (if_pos hc).trans ?_
    obtain ⟨x4, M3, k2, h⟩ := iv_ci h; refine (cl_ci k2).trans ?_
    rcases iv_ite h with ⟨hc, h⟩ | ⟨hc, h⟩
    · refine (if_pos hc).trans ?_
      obtain ⟨x6, M5, k3, h⟩ := iv_ci h; refine (cl_ci k3).trans ?_
      rcases iv_ite h with ⟨hc, h⟩ | ⟨hc, h⟩
      · refine (if_pos hc).trans ?_
        refine (cl_gR (gk_0 hg) (gr_0_0 hg)).trans ?_
        refine (cl_rc (gk_1 hg)).trans ?_
        obtain ⟨x8, M7, k4, h⟩ := iv_ci h; refine (cl_ci k4).trans ?_
        exact h
      · refine (if_neg hc).trans ?_
        exact h
    · refine (if_neg hc).trans ?_
      exact h
  · refine (if_neg hc).trans ?_
    exact h
theorem s_RunSayer_answers {g : am_G} {F : am_FT} (hF : F = am_F T0 g) (hg : GG g) {v1 : Int32} {w2 : Int64} {v4 : Int32} {M : am_M} {r : am_R} (h : (
  am_ci (F 154 0 [.ref 0, .int v1] [] M) fun x2 M1 => /- RunSayer_noWay -/
  if x2 = 0 then
    am_ci (F 104 0 [.long w2] [] M1) fun x4 M3 => /- Ledger_isWord -/
    if x4 = 0 then
      am_rt 1 ((-2)) M3
    else
      am_ci (F 155 0 [.ref 0, .int v4] [] M3) fun x6 M5 => /- RunSayer_notKnown -/
      if x6 = 0 then
        am_ci (F 33 0 [.ref 18, .int v1, .long w2, .int v4] [] M5) fun x8 M7 => /- Ledger_answersTo -/
        if x8 = 0 then
          am_rt 1 0 M7
        else
          am_rt 1 1 M7
      else
        am_rt 1 ((-2)) M5
  else
    am_rt 1 ((-1)) M1) = some r) : F 198 0 [.ref 0, .int v1, .long w2, .int v4] [] M = some r := by
  refine e_RunSayer_answers hF ?_
  refine (cl_rc (gk_0 hg)).trans ?_
  obtain ⟨x2, M1, k1, h⟩ := iv_ci h; refine (cl_ci k1).trans ?_
  rcases iv_ite h with ⟨hc, h⟩ | ⟨hc, h⟩
  · refine (if_pos hc).trans ?_
    obtain ⟨x4, M3, k2, h⟩ := iv_ci h; refine (cl_ci k2).trans ?_
    rcases iv_ite h with ⟨hc, h⟩ | ⟨hc, h⟩
    · refine (if_pos hc).trans ?_
      exact h
    · refine (if_neg hc).trans ?_
      refine (cl_rc (gk_0 hg)).trans ?_
      obtain ⟨x6, M5, k3, h⟩ := iv_ci h; refine (cl_ci k3).trans ?_
      rcases iv_ite h with ⟨hc, h⟩ | ⟨hc, h⟩
      · refine (if_pos hc).trans ?_
        refine (cl_gR (gk_0 hg) (gr_0_1 hg)).trans ?_
        refine (cl_rc (gk_18 hg)).trans ?_
        obtain ⟨x8, M7, k4, h⟩ := iv_ci h; refine (cl_ci k4).trans ?_
        rcases iv_ite h with ⟨hc, h⟩ | ⟨hc, h⟩
        · refine (if_pos hc).trans ?_
          exact h
        · refine (if_neg hc).trans ?_
          exact h
      · refine (if_neg hc).trans ?_
        exact h
  · refine (if_neg hc).trans ?_
    exact h
theorem s_RunSayer_ban {g : am_G} {F : am_FT} (hF : F = am_F T0 g) (hg : GG g) {v1 : Int32} {v2 : Int32} {v3 : Int32} {v4 : Int32} {M : am_M} {r : am_R} (h : (
  am_ci (F 151 0 [.ref 0, .int v1] [] M) fun x2 M1 => /- RunSayer_noLeg -/
  if x2 = 0 then
    am_ci (F 151 0 [.ref 0, .int v2] [] M1) fun x4 M3 => /- RunSayer_noLeg -/
    if x4 = 0 then
      am_dv 100 <|
      am_dv 100 <|
      am_ci (F 150 0 [.int (v3 / 100)] [] M3) fun x6 M5 => /- RunSayer_noHour -/
      if x6 = 0 then
        am_ci (F 72 0 [.int (v3 - v3 / 100 * 100), .int ((v3 / 100) + 1), .int 24] [] M5) fun x8 M7 => /- RunSayer_outside -/
        if x8 = 0 then
          am_ci (F 72 0 [.int v4, .int 1, .int 127] [] M7) fun x10 M9 => /- RunSayer_outside -/
          if x10 = 0 then
            am_ci (F 86 0 [.ref 1, .int v1, .int v2] [] M9) fun x12 M11 => /- City_follows -/
            if x12 = 0 then
              am_rt 1 ((-3)) M11
            else
              am_ci (F 30 0 [.ref 18, .int v1, .int v2, .int (v3 / 100), .int (v3 - v3 / 100 * 100), .int v4] [] M11) fun x14 M13 => /- Ledger_addBan -/
              am_rt 1 x14 M13
          else
            am_rt 1 ((-2)) M9
        else
          am_rt 1 ((-2)) M7
      else
        am_rt 1 ((-2)) M5
    else
      am_rt 1 ((-1)) M3
  else
    am_rt 1 ((-1)) M1) = some r) : F 199 0 [.ref 0, .int v1, .int v2, .int v3, .int v4] [] M = some r := by
  refine e_RunSayer_ban hF ?_
  refine (cl_rc (gk_0 hg)).trans ?_
  obtain ⟨x2, M1, k1, h⟩ := iv_ci h; refine (cl_ci k1).trans ?_
  rcases iv_ite h with ⟨hc, h⟩ | ⟨hc, h⟩
  · refine (if_pos hc).trans ?_
    refine (cl_rc (gk_0 hg)).trans ?_
    obtain ⟨x4, M3, k2, h⟩ := iv_ci h; refine (cl_ci k2).trans ?_
    rcases iv_ite h with ⟨hc, h⟩ | ⟨hc, h⟩
    · refine (if_pos hc).trans ?_
      obtain ⟨k3, h⟩ := iv_dv h; refine (cl_dv k3).trans ?_
      obtain ⟨k4, h⟩ := iv_dv h; refine (cl_dv k4).trans ?_
      obtain ⟨x6, M5, k5, h⟩ := iv_ci h; refine (cl_ci k5).trans ?_
      rcases iv_ite h with ⟨hc, h⟩ | ⟨hc, h⟩
      · refine (if_pos hc).trans ?_
        obtain ⟨x8, M7, k6, h⟩ := iv_ci h; refine (cl_ci k6).trans ?_
        rcases iv_ite h with ⟨hc, h⟩ | ⟨hc, h⟩
        · refine (if_pos hc).trans ?_
          obtain ⟨x10, M9, k7, h⟩ := iv_ci h; refine (cl_ci k7).trans ?_
          rcases iv_ite h with ⟨hc, h⟩ | ⟨hc, h⟩
          · refine (if_pos hc).trans ?_
            refine (cl_gR (gk_0 hg) (gr_0_0 hg)).trans ?_
            refine (cl_rc (gk_1 hg)).trans ?_
            obtain ⟨x12, M11, k8, h⟩ := iv_ci h; refine (cl_ci k8).trans ?_
            rcases iv_ite h with ⟨hc, h⟩ | ⟨hc, h⟩
            · refine (if_pos hc).trans ?_
              exact h
            · refine (if_neg hc).trans ?_
              refine (cl_gR (gk_0 hg) (gr_0_1 hg)).trans ?_
              refine (cl_rc (gk_18 hg)).trans ?_
              obtain ⟨x14, M13, k9, h⟩ := iv_ci h; refine (cl_ci k9).trans ?_
              exact h
          · refine (if_neg hc).trans ?_
            exact h
        · refine (if_neg hc).trans ?_
          exact h
      · refine (if_neg hc).trans ?_
        exact h
    · refine (if_neg hc).trans ?_
      exact h
  · refine (if_neg hc).trans ?_
    exact h
theorem s_RunSayer_cell {g : am_G} {F : am_FT} (hF : F = am_F T0 g) (hg : GG g) {v1 : Int32} {v2 : Int32} {v3 : Int32} {M : am_M} {r : am_R} (h : (
  am_ci (F 153 0 [.int v1] [] M) fun x2 M1 => /- RunSayer_noSheet -/
  if x2 = 0 then
    am_ok 4 v1 <|
    if (fI M1 (210 + 2 * v1.toNatClampNeg) 0) = (-1) then
      am_rt 1 ((-11)) M1
    else
      am_ok 4 v1 <|
      am_ci (F 72 0 [.int v2, .int 0, .int ((fI M1 (210 + 2 * v1.toNatClampNeg) 1) - 1)] [] M1) fun x4 M3 => /- RunSayer_outside -/
      if x4 = 0 then
        am_ok 4 v1 <|
        am_cv (F 75 0 [.ref (210 + 2 * v1.toNatClampNeg), .int v2, .int v3] [] M3) fun M5 => /- Sheet_put -/
        am_rt 1 1 M5
      else
        am_rt 1 ((-12)) M3
  else
    am_rt 1 ((-2)) M1) = some r) : F 200 0 [.ref 0, .int v1, .int v2, .int v3] [] M = some r := by
  refine e_RunSayer_cell hF ?_
  obtain ⟨x2, M1, k1, h⟩ := iv_ci h; refine (cl_ci k1).trans ?_
  rcases iv_ite h with ⟨hc, h⟩ | ⟨hc, h⟩
  · refine (if_pos hc).trans ?_
    refine (cl_gR (gk_0 hg) (gr_0_16 hg)).trans ?_
    obtain ⟨k2, h⟩ := iv_ok h; refine (cl_qa (gk_209 hg) (by decide) (by decide) k2 (gq_209 hg k2)).trans ?_
    have k3 := go_209 hg k2
    refine (cl_gI k3.1).trans ?_
    rcases iv_ite h with ⟨hc, h⟩ | ⟨hc, h⟩
    · refine (if_pos hc).trans ?_
      exact h
    · refine (if_neg hc).trans ?_
      refine (cl_gR (gk_0 hg) (gr_0_16 hg)).trans ?_
      obtain ⟨k4, h⟩ := iv_ok h; refine (cl_qa (gk_209 hg) (by decide) (by decide) k4 (gq_209 hg k4)).trans ?_
      have k5 := go_209 hg k4
      refine (cl_gI k5.1).trans ?_
      obtain ⟨x4, M3, k6, h⟩ := iv_ci h; refine (cl_ci k6).trans ?_
      rcases iv_ite h with ⟨hc, h⟩ | ⟨hc, h⟩
      · refine (if_pos hc).trans ?_
        refine (cl_gR (gk_0 hg) (gr_0_16 hg)).trans ?_
        obtain ⟨k7, h⟩ := iv_ok h; refine (cl_qa (gk_209 hg) (by decide) (by decide) k7 (gq_209 hg k7)).trans ?_
        have k8 := go_209 hg k7
        refine (cl_rc k8.1).trans ?_
        obtain ⟨M5, k9, h⟩ := iv_cv h; refine (cl_cv k9).trans ?_
        exact h
      · refine (if_neg hc).trans ?_
        exact h
  · refine (if_neg hc).trans ?_
    exact h
theorem s_RunSayer_copy {g : am_G} {F : am_FT} (hF : F = am_F T0 g) (hg : GG g) {v1 : Int32} {v2 : Int32} {v3 : Int32} {v4 : Int32} {v5 : Int32} {M : am_M} {r : am_R} (h : (
  am_ci (F 153 0 [.int v1] [] M) fun x2 M1 => /- RunSayer_noSheet -/
  if x2 = 0 then
    am_ci (F 153 0 [.int v3] [] M1) fun x4 M3 => /- RunSayer_noSheet -/
    if x4 = 0 then
      am_ok 4 v1 <|
      am_ok 4 v3 <|
      if (fI M3 (210 + 2 * v1.toNatClampNeg) 0) = (-1) then
        am_rt 1 ((-11)) M3
      else
        if (fI M3 (210 + 2 * v3.toNatClampNeg) 0) = (-1) then
          am_rt 1 ((-11)) M3
        else
          if (fI M3 (210 + 2 * v1.toNatClampNeg) 0) = (fI M3 (210 + 2 * v3.toNatClampNeg) 0) then
            am_ci (F 74 0 [.ref (210 + 2 * v1.toNatClampNeg), .int v2, .int v5] [] M3) fun x6 M5 => /- Sheet_hasRow -/
            if x6 = 0 then
              am_rt 1 ((-12)) M5
            else
              am_ci (F 74 0 [.ref (210 + 2 * v3.toNatClampNeg), .int v4, .int v5] [] M5) fun x8 M7 => /- Sheet_hasRow -/
              if x8 = 0 then
                am_rt 1 ((-12)) M7
              else
                am_cp g M7 (210 + 2 * v1.toNatClampNeg + 1) v2 (210 + 2 * v3.toNatClampNeg + 1) v4 v5 fun M9 =>
                am_rt 1 v5 M9
          else
            am_rt 1 ((-13)) M3
    else
      am_rt 1 ((-2)) M3
  else
    am_rt 1 ((-2)) M1) = some r) : F 201 0 [.ref 0, .int v1, .int v2, .int v3, .int v4, .int v5] [] M = some r := by
  refine e_RunSayer_copy hF ?_
  obtain ⟨x2, M1, k1, h⟩ := iv_ci h; refine (cl_ci k1).trans ?_
  rcases iv_ite h with ⟨hc, h⟩ | ⟨hc, h⟩
  · refine (if_pos hc).trans ?_
    obtain ⟨x4, M3, k2, h⟩ := iv_ci h; refine (cl_ci k2).trans ?_
    rcases iv_ite h with ⟨hc, h⟩ | ⟨hc, h⟩
    · refine (if_pos hc).trans ?_
      refine (cl_gR (gk_0 hg) (gr_0_16 hg)).trans ?_
      obtain ⟨k3, h⟩ := iv_ok h; refine (cl_qa (gk_209 hg) (by decide) (by decide) k3 (gq_209 hg k3)).trans ?_
      have k4 := go_209 hg k3
      refine (cl_gR (gk_0 hg) (gr_0_16 hg)).trans ?_
      obtain ⟨k5, h⟩ := iv_ok h; refine (cl_qa (gk_209 hg) (by decide) (by decide) k5 (gq_209 hg k5)).trans ?_
      have k6 := go_209 hg k5
      refine (cl_gI k4.1).trans ?_
      rcases iv_ite h with ⟨hc, h⟩ | ⟨hc, h⟩
      · refine (if_pos hc).trans ?_
        exact h
      · refine (if_neg hc).trans ?_
        refine (cl_gI k6.1).trans ?_
        rcases iv_ite h with ⟨hc, h⟩ | ⟨hc, h⟩
        · refine (if_pos hc).trans ?_
          exact h
        · refine (if_neg hc).trans ?_
          refine (cl_gI k4.1).trans ?_
          refine (cl_gI k6.1).trans ?_
          rcases iv_ite h with ⟨hc, h⟩ | ⟨hc, h⟩
          · refine (if_pos hc).trans ?_
            refine (cl_rc k4.1).trans ?_
            obtain ⟨x6, M5, k7, h⟩ := iv_ci h; refine (cl_ci k7).trans ?_
            rcases iv_ite h with ⟨hc, h⟩ | ⟨hc, h⟩
            · refine (if_pos hc).trans ?_
              exact h
            · refine (if_neg hc).trans ?_
              refine (cl_rc k6.1).trans ?_
              obtain ⟨x8, M7, k8, h⟩ := iv_ci h; refine (cl_ci k8).trans ?_
              rcases iv_ite h with ⟨hc, h⟩ | ⟨hc, h⟩
              · refine (if_pos hc).trans ?_
                exact h
              · refine (if_neg hc).trans ?_
                refine (cl_gR k4.1 k4.2.1).trans ?_
                refine (cl_gR k6.1 k6.2.1).trans ?_
                obtain ⟨k9, h⟩ := iv_if h; refine (if_pos k9).trans ?_
                exact h
          · refine (if_neg hc).trans ?_
            exact h
    · refine (if_neg hc).trans ?_
      exact h
  · refine (if_neg hc).trans ?_
    exact h
theorem s_RunSayer_cost {g : am_G} {F : am_FT} (hF : F = am_F T0 g) (hg : GG g) {v1 : Int32} {M : am_M} {r : am_R} (h : (
  am_ci (F 148 0 [.int v1] [] M) fun x2 M1 => /- RunSayer_noBit -/
  if x2 = 0 then
    if v1 = 0 then
      some (some (.long (((fI M1 66 6)).toInt64)), M1)
    else
      some (some (.long (((fI M1 66 7)).toInt64)), M1)
  else
    some (some (.long ((-4611686018427387904))), M1)) = some r) : F 202 0 [.ref 0, .int v1] [] M = some r := by
  refine e_RunSayer_cost hF ?_
  obtain ⟨x2, M1, k1, h⟩ := iv_ci h; refine (cl_ci k1).trans ?_
  rcases iv_ite h with ⟨hc, h⟩ | ⟨hc, h⟩
  · refine (if_pos hc).trans ?_
    rcases iv_ite h with ⟨hc, h⟩ | ⟨hc, h⟩
    · refine (if_pos hc).trans ?_
      refine (cl_gR (gk_0 hg) (gr_0_6 hg)).trans ?_
      refine (cl_gI (gk_66 hg)).trans ?_
      exact h
    · refine (if_neg hc).trans ?_
      refine (cl_gR (gk_0 hg) (gr_0_6 hg)).trans ?_
      refine (cl_gI (gk_66 hg)).trans ?_
      exact h
  · refine (if_neg hc).trans ?_
    exact h
theorem s_RunSayer_door {g : am_G} {F : am_FT} (hF : F = am_F T0 g) (hg : GG g) {v1 : Int32} {v2 : Int32} {v3 : Int32} {M : am_M} {r : am_R} (h : (
  am_ci (F 154 0 [.ref 0, .int v1] [] M) fun x2 M1 => /- RunSayer_noWay -/
  if x2 = 0 then
    am_ok 40 v1 <|
    am_ci (F 72 0 [.int v2, .int 1, .int ((rI M1 6 v1.toNatClampNeg) - 1)] [] M1) fun x4 M3 => /- RunSayer_outside -/
    if x4 = 0 then
      am_ci (F 148 0 [.int v3] [] M3) fun x6 M5 => /- RunSayer_noBit -/
      if x6 = 0 then
        am_ci (F 83 0 [.ref 1, .int v1, .int v2, .int v3] [] M5) fun x8 M7 => /- City_addDoor -/
        am_rt 1 x8 M7
      else
        am_rt 1 ((-2)) M5
    else
      am_rt 1 ((-2)) M3
  else
    am_rt 1 ((-1)) M1) = some r) : F 203 0 [.ref 0, .int v1, .int v2, .int v3] [] M = some r := by
  refine e_RunSayer_door hF ?_
  refine (cl_rc (gk_0 hg)).trans ?_
  obtain ⟨x2, M1, k1, h⟩ := iv_ci h; refine (cl_ci k1).trans ?_
  rcases iv_ite h with ⟨hc, h⟩ | ⟨hc, h⟩
  · refine (if_pos hc).trans ?_
    refine (cl_gR (gk_0 hg) (gr_0_0 hg)).trans ?_
    refine (cl_gR (gk_1 hg) (gr_1_5 hg)).trans ?_
    obtain ⟨k2, h⟩ := iv_ok h; refine (cl_ia (gk_6 hg) k2).trans ?_
    obtain ⟨x4, M3, k3, h⟩ := iv_ci h; refine (cl_ci k3).trans ?_
    rcases iv_ite h with ⟨hc, h⟩ | ⟨hc, h⟩
    · refine (if_pos hc).trans ?_
      obtain ⟨x6, M5, k4, h⟩ := iv_ci h; refine (cl_ci k4).trans ?_
      rcases iv_ite h with ⟨hc, h⟩ | ⟨hc, h⟩
      · refine (if_pos hc).trans ?_
        refine (cl_gR (gk_0 hg) (gr_0_0 hg)).trans ?_
        refine (cl_rc (gk_1 hg)).trans ?_
        obtain ⟨x8, M7, k5, h⟩ := iv_ci h; refine (cl_ci k5).trans ?_
        exact h
      · refine (if_neg hc).trans ?_
        exact h
    · refine (if_neg hc).trans ?_
      exact h
  · refine (if_neg hc).trans ?_
    exact h
theorem s_RunSayer_drivable {g : am_G} {F : am_FT} (hF : F = am_F T0 g) (hg : GG g) {v1 : Int32} {v2 : Int32} {v3 : Int32} {v4 : Int32} {M : am_M} {r : am_R} (h : (
  am_ci (F 151 0 [.ref 0, .int v1] [] M) fun x2 M1 => /- RunSayer_noLeg -/
  if x2 = 0 then
    am_ci (F 72 0 [.int v2, .int 0, .int 299] [] M1) fun x4 M3 => /- RunSayer_outside -/
    if x4 = 0 then
      am_ci (F 150 0 [.int v3] [] M3) fun x6 M5 => /- RunSayer_noHour -/
      if x6 = 0 then
        am_ci (F 155 0 [.ref 0, .int v4] [] M5) fun x8 M7 => /- RunSayer_notKnown -/
        if x8 = 0 then
          am_ci (F 88 0 [.ref 1, .int v1, .int v3] [] M7) fun x10 M9 => /- City_isPassable -/
          if x10 = 0 then
            am_rt 1 0 M9
          else
            am_ci (F 35 0 [.ref 18, .int (v1 >>> ((1 : Int32) &&& 31)), .int v2, .int v4] [] M9) fun x12 M11 => /- Ledger_isShut -/
            if x12 = 0 then
              am_rt 1 1 M11
            else
              am_rt 1 0 M11
        else
          am_rt 1 ((-2)) M7
      else
        am_rt 1 ((-2)) M5
    else
      am_rt 1 ((-2)) M3
  else
    am_rt 1 ((-1)) M1) = some r) : F 204 0 [.ref 0, .int v1, .int v2, .int v3, .int v4] [] M = some r := by
  refine e_RunSayer_drivable hF ?_
  refine (cl_rc (gk_0 hg)).trans ?_
  obtain ⟨x2, M1, k1, h⟩ := iv_ci h; refine (cl_ci k1).trans ?_
  rcases iv_ite h with ⟨hc, h⟩ | ⟨hc, h⟩
  · refine (if_pos hc).trans ?_
    obtain ⟨x4, M3, k2, h⟩ := iv_ci h; refine (cl_ci k2).trans ?_
    rcases iv_ite h with ⟨hc, h⟩ | ⟨hc, h⟩
    · refine (if_pos hc).trans ?_
      obtain ⟨x6, M5, k3, h⟩ := iv_ci h; refine (cl_ci k3).trans ?_
      rcases iv_ite h with ⟨hc, h⟩ | ⟨hc, h⟩
      · refine (if_pos hc).trans ?_
        refine (cl_rc (gk_0 hg)).trans ?_
        obtain ⟨x8, M7, k4, h⟩ := iv_ci h; refine (cl_ci k4).trans ?_
        rcases iv_ite h with ⟨hc, h⟩ | ⟨hc, h⟩
        · refine (if_pos hc).trans ?_
          refine (cl_gR (gk_0 hg) (gr_0_0 hg)).trans ?_
          refine (cl_rc (gk_1 hg)).trans ?_
          obtain ⟨x10, M9, k5, h⟩ := iv_ci h; refine (cl_ci k5).trans ?_
          rcases iv_ite h with ⟨hc, h⟩ | ⟨hc, h⟩
          · refine (if_pos hc).trans ?_
            exact h
          · refine (if_neg hc).trans ?_
            refine (cl_gR (gk_0 hg) (gr_0_1 hg)).trans ?_
            refine (cl_rc (gk_18 hg)).trans ?_
            obtain ⟨x12, M11, k6, h⟩ := iv_ci h; refine (cl_ci k6).trans ?_
            rcases iv_ite h with ⟨hc, h⟩ | ⟨hc, h⟩
            · refine (if_pos hc).trans ?_
              exact h
            · refine (if_neg hc).trans ?_
              exact h
        · refine (if_neg hc).trans ?_
          exact h
      · refine (if_neg hc).trans ?_
        exact h
    · refine (if_neg hc).trans ?_
      exact h
  · refine (if_neg hc).trans ?_
    exact h
theorem s_RunSayer_junction {g : am_G} {F : am_FT} (hF : F = am_F T0 g) (hg : GG g) {v1 : Int32} {v2 : Int32} {v3 : Int32} {M : am_M} {r : am_R} (h : (
  am_ci (F 72 0 [.int v1, .int 0, .int 99] [] M) fun x2 M1 => /- RunSayer_outside -/
  if x2 = 0 then
    am_ci (F 72 0 [.int v2, .int 0, .int 99] [] M1) fun x4 M3 => /- RunSayer_outside -/
    if x4 = 0 then
      am_ci (F 148 0 [.int v3] [] M3) fun x6 M5 => /- RunSayer_noBit -/
      if x6 = 0 then
        am_ci (F 84 0 [.ref 1, .int v1, .int v2, .int v3] [] M5) fun x8 M7 => /- City_addJunction -/
        am_rt 1 x8 M7
      else
        am_rt 1 ((-2)) M5
    else
      am_rt 1 ((-2)) M3
  else
    am_rt 1 ((-2)) M1) = some r) : F 205 0 [.ref 0, .int v1, .int v2, .int v3] [] M = some r := by
  refine e_RunSayer_junction hF ?_
  obtain ⟨x2, M1, k1, h⟩ := iv_ci h; refine (cl_ci k1).trans ?_
  rcases iv_ite h with ⟨hc, h⟩ | ⟨hc, h⟩
  · refine (if_pos hc).trans ?_
    obtain ⟨x4, M3, k2, h⟩ := iv_ci h; refine (cl_ci k2).trans ?_
    rcases iv_ite h with ⟨hc, h⟩ | ⟨hc, h⟩
    · refine (if_pos hc).trans ?_
      obtain ⟨x6, M5, k3, h⟩ := iv_ci h; refine (cl_ci k3).trans ?_
      rcases iv_ite h with ⟨hc, h⟩ | ⟨hc, h⟩
      · refine (if_pos hc).trans ?_
        refine (cl_gR (gk_0 hg) (gr_0_0 hg)).trans ?_
        refine (cl_rc (gk_1 hg)).trans ?_
        obtain ⟨x8, M7, k4, h⟩ := iv_ci h; refine (cl_ci k4).trans ?_
        exact h
      · refine (if_neg hc).trans ?_
        exact h
    · refine (if_neg hc).trans ?_
      exact h
  · refine (if_neg hc).trans ?_
    exact h
theorem s_RunSayer_name {g : am_G} {F : am_FT} (hF : F = am_F T0 g) (hg : GG g) {v1 : Int32} {w2 : Int64} {M : am_M} {r : am_R} (h : (
  am_ci (F 154 0 [.ref 0, .int v1] [] M) fun x2 M1 => /- RunSayer_noWay -/
  if x2 = 0 then
    am_ci (F 104 0 [.long w2] [] M1) fun x4 M3 => /- Ledger_isWord -/
    if x4 = 0 then
      am_rt 1 ((-2)) M3
    else
      am_ci (F 31 0 [.ref 18, .int v1, .long w2] [] M3) fun x6 M5 => /- Ledger_addName -/
      am_rt 1 x6 M5
  else
    am_rt 1 ((-1)) M1) = some r) : F 206 0 [.ref 0, .int v1, .long w2] [] M = some r := by
  refine e_RunSayer_name hF ?_
  refine (cl_rc (gk_0 hg)).trans ?_
  obtain ⟨x2, M1, k1, h⟩ := iv_ci h; refine (cl_ci k1).trans ?_
  rcases iv_ite h with ⟨hc, h⟩ | ⟨hc, h⟩
  · refine (if_pos hc).trans ?_
    obtain ⟨x4, M3, k2, h⟩ := iv_ci h; refine (cl_ci k2).trans ?_
    rcases iv_ite h with ⟨hc, h⟩ | ⟨hc, h⟩
    · refine (if_pos hc).trans ?_
      exact h
    · refine (if_neg hc).trans ?_
      refine (cl_gR (gk_0 hg) (gr_0_1 hg)).trans ?_
      refine (cl_rc (gk_18 hg)).trans ?_
      obtain ⟨x6, M5, k3, h⟩ := iv_ci h; refine (cl_ci k3).trans ?_
      exact h
  · refine (if_neg hc).trans ?_
    exact h
theorem s_RunSayer_read {g : am_G} {F : am_FT} (hF : F = am_F T0 g) (hg : GG g) {v1 : Int32} {v2 : Int32} {M : am_M} {r : am_R} (h : (
  am_ci (F 153 0 [.int v1] [] M) fun x2 M1 => /- RunSayer_noSheet -/
  if x2 = 0 then
    am_ok 4 v1 <|
    am_ci (F 72 0 [.int v2, .int 0, .int ((fI M1 (210 + 2 * v1.toNatClampNeg) 1) - 1)] [] M1) fun x4 M3 => /- RunSayer_outside -/
    if x4 = 0 then
      am_ok 4 v1 <|
      am_ok 100 v2 <|
      am_rt 1 ((rI M3 (210 + 2 * v1.toNatClampNeg + 1) v2.toNatClampNeg)) M3
    else
      am_rt 1 0 M3
  else
    am_rt 1 ((-2)) M1) = some r) : F 207 0 [.ref 0, .int v1, .int v2] [] M = some r := by
  refine e_RunSayer_read hF ?_
  obtain ⟨x2, M1, k1, h⟩ := iv_ci h; refine (cl_ci k1).trans ?_
  rcases iv_ite h with ⟨hc, h⟩ | ⟨hc, h⟩
  · refine (if_pos hc).trans ?_
    refine (cl_gR (gk_0 hg) (gr_0_16 hg)).trans ?_
    obtain ⟨k2, h⟩ := iv_ok h; refine (cl_qa (gk_209 hg) (by decide) (by decide) k2 (gq_209 hg k2)).trans ?_
    have k3 := go_209 hg k2
    refine (cl_gI k3.1).trans ?_
    obtain ⟨x4, M3, k4, h⟩ := iv_ci h; refine (cl_ci k4).trans ?_
    rcases iv_ite h with ⟨hc, h⟩ | ⟨hc, h⟩
    · refine (if_pos hc).trans ?_
      refine (cl_gR (gk_0 hg) (gr_0_16 hg)).trans ?_
      obtain ⟨k5, h⟩ := iv_ok h; refine (cl_qa (gk_209 hg) (by decide) (by decide) k5 (gq_209 hg k5)).trans ?_
      have k6 := go_209 hg k5
      refine (cl_gR k6.1 k6.2.1).trans ?_
      obtain ⟨k7, h⟩ := iv_ok h; refine (cl_ia k6.2.2 k7).trans ?_
      exact h
    · refine (if_neg hc).trans ?_
      exact h
  · refine (if_neg hc).trans ?_
    exact h
theorem s_RunSayer_ring {g : am_G} {F : am_FT} (hF : F = am_F T0 g) (hg : GG g) {v1 : Int32} {v2 : Int32} {M : am_M} {r : am_R} (h : (
  am_ci (F 72 0 [.int v1, .int 0, .int ((fI M 1 3) - 1)] [] M) fun x2 M1 => /- RunSayer_outside -/
  if x2 = 0 then
    am_ci (F 148 0 [.int v2] [] M1) fun x4 M3 => /- RunSayer_noBit -/
    if x4 = 0 then
      am_ok 24 v1 <|
      am_ok 24 v1 <|
      am_lt (wI M3 4 v1.toNatClampNeg v2) fun M5 =>
      am_rt 1 ((rI M3 4 v1.toNatClampNeg)) M5
    else
      am_rt 1 ((-2)) M3
  else
    am_rt 1 ((-1)) M1) = some r) : F 208 0 [.ref 0, .int v1, .int v2] [] M = some r := by
  refine e_RunSayer_ring hF ?_
  refine (cl_gR (gk_0 hg) (gr_0_0 hg)).trans ?_
  refine (cl_gI (gk_1 hg)).trans ?_
  obtain ⟨x2, M1, k1, h⟩ := iv_ci h; refine (cl_ci k1).trans ?_
  rcases iv_ite h with ⟨hc, h⟩ | ⟨hc, h⟩
  · refine (if_pos hc).trans ?_
    obtain ⟨x4, M3, k2, h⟩ := iv_ci h; refine (cl_ci k2).trans ?_
    rcases iv_ite h with ⟨hc, h⟩ | ⟨hc, h⟩
    · refine (if_pos hc).trans ?_
      refine (cl_gR (gk_0 hg) (gr_0_0 hg)).trans ?_
      refine (cl_gR (gk_1 hg) (gr_1_2 hg)).trans ?_
      obtain ⟨k3, h⟩ := iv_ok h; refine (cl_ia (gk_4 hg) k3).trans ?_
      refine (cl_gR (gk_0 hg) (gr_0_0 hg)).trans ?_
      refine (cl_gR (gk_1 hg) (gr_1_2 hg)).trans ?_
      obtain ⟨k4, h⟩ := iv_ok h; refine (cl_is (gk_4 hg) k4).trans ?_
      replace h := iv_lt h
      exact h
    · refine (if_neg hc).trans ?_
      exact h
  · refine (if_neg hc).trans ?_
    exact h
theorem s_RunSayer_sheet {g : am_G} {F : am_FT} (hF : F = am_F T0 g) (hg : GG g) {v1 : Int32} {v2 : Int32} {v3 : Int32} {M : am_M} {r : am_R} (h : (
  am_ci (F 153 0 [.int v1] [] M) fun x2 M1 => /- RunSayer_noSheet -/
  if x2 = 0 then
    am_ci (F 72 0 [.int v2, .int (-1), .int 2] [] M1) fun x4 M3 => /- RunSayer_outside -/
    if x4 = 0 then
      if v2 = (-1) then
        am_ok 4 v1 <|
        am_cv (F 73 0 [.ref (210 + 2 * v1.toNatClampNeg), .int (-1), .int 0] [] M3) fun M6 => /- Sheet_become -/
        am_rt 1 1 M6
      else
        if v3 ≤ 100 then
          if 0 ≤ v3 then
            am_ok 4 v1 <|
            am_cv (F 73 0 [.ref (210 + 2 * v1.toNatClampNeg), .int v2, .int v3] [] M3) fun M5 => /- Sheet_become -/
            am_rt 1 1 M5
          else
            am_rt 1 ((-14)) M3
        else
          am_rt 1 ((-2)) M3
    else
      am_rt 1 ((-2)) M3
  else
    am_rt 1 ((-2)) M1) = some r) : F 209 0 [.ref 0, .int v1, .int v2, .int v3] [] M = some r := by
  refine e_RunSayer_sheet hF ?_
  obtain ⟨x2, M1, k1, h⟩ := iv_ci h; refine (cl_ci k1).trans ?_
  rcases iv_ite h with ⟨hc, h⟩ | ⟨hc, h⟩
  · refine (if_pos hc).trans ?_
    obtain ⟨x4, M3, k2, h⟩ := iv_ci h; refine (cl_ci k2).trans ?_
    rcases iv_ite h with ⟨hc, h⟩ | ⟨hc, h⟩
    · refine (if_pos hc).trans ?_
      rcases iv_ite h with ⟨hc, h⟩ | ⟨hc, h⟩
      · refine (if_pos hc).trans ?_
        refine (cl_gR (gk_0 hg) (gr_0_16 hg)).trans ?_
        obtain ⟨k6, h⟩ := iv_ok h; refine (cl_qa (gk_209 hg) (by decide) (by decide) k6 (gq_209 hg k6)).trans ?_
        have k7 := go_209 hg k6
        refine (cl_rc k7.1).trans ?_
        obtain ⟨M6, k8, h⟩ := iv_cv h; refine (cl_cv k8).trans ?_
        exact h
      · refine (if_neg hc).trans ?_
        rcases iv_ite h with ⟨hc, h⟩ | ⟨hc, h⟩
        · refine (if_pos hc).trans ?_
          rcases iv_ite h with ⟨hc, h⟩ | ⟨hc, h⟩
          · refine (if_pos hc).trans ?_
            refine (cl_gR (gk_0 hg) (gr_0_16 hg)).trans ?_
            obtain ⟨k3, h⟩ := iv_ok h; refine (cl_qa (gk_209 hg) (by decide) (by decide) k3 (gq_209 hg k3)).trans ?_
            have k4 := go_209 hg k3
            refine (cl_rc k4.1).trans ?_
            obtain ⟨M5, k5, h⟩ := iv_cv h; refine (cl_cv k5).trans ?_
            exact h
          · refine (if_neg hc).trans ?_
            exact h
        · refine (if_neg hc).trans ?_
          exact h
    · refine (if_neg hc).trans ?_
      exact h
  · refine (if_neg hc).trans ?_
    exact h
theorem s_RunSayer_shut {g : am_G} {F : am_FT} (hF : F = am_F T0 g) (hg : GG g) {v1 : Int32} {v2 : Int32} {v3 : Int32} {M : am_M} {r : am_R} (h : (
  am_ci (F 154 0 [.ref 0, .int v1] [] M) fun x2 M1 => /- RunSayer_noWay -/
  if x2 = 0 then
    if v2 < 0 then
      am_rt 1 ((-2)) M1
    else
      if 300 < v3 then
        am_rt 1 ((-2)) M1
      else
        if v2 < v3 then
          am_ci (F 32 0 [.ref 18, .int v1, .int v2, .int v3] [] M1) fun x4 M3 => /- Ledger_addShut -/
          am_rt 1 x4 M3
        else
          am_rt 1 ((-2)) M1
  else
    am_rt 1 ((-1)) M1) = some r) : F 210 0 [.ref 0, .int v1, .int v2, .int v3] [] M = some r := by
  refine e_RunSayer_shut hF ?_
  refine (cl_rc (gk_0 hg)).trans ?_
  obtain ⟨x2, M1, k1, h⟩ := iv_ci h; refine (cl_ci k1).trans ?_
  rcases iv_ite h with ⟨hc, h⟩ | ⟨hc, h⟩
  · refine (if_pos hc).trans ?_
    rcases iv_ite h with ⟨hc, h⟩ | ⟨hc, h⟩
    · refine (if_pos hc).trans ?_
      exact h
    · refine (if_neg hc).trans ?_
      rcases iv_ite h with ⟨hc, h⟩ | ⟨hc, h⟩
      · refine (if_pos hc).trans ?_
        exact h
      · refine (if_neg hc).trans ?_
        rcases iv_ite h with ⟨hc, h⟩ | ⟨hc, h⟩
        · refine (if_pos hc).trans ?_
          refine (cl_gR (gk_0 hg) (gr_0_1 hg)).trans ?_
          refine (cl_rc (gk_18 hg)).trans ?_
          obtain ⟨x4, M3, k2, h⟩ := iv_ci h; refine (cl_ci k2).trans ?_
          exact h
        · refine (if_neg hc).trans ?_
          exact h
  · refine (if_neg hc).trans ?_
    exact h
theorem s_RunSayer_taken {g : am_G} {F : am_FT} (hF : F = am_F T0 g) (hg : GG g) {v1 : Int32} {v2 : Int32} {M : am_M} {r : am_R} (h : (
  am_ci (F 72 0 [.int v2, .int 0, .int 8] [] M) fun x2 M1 => /- RunSayer_outside -/
  if x2 = 0 then
    am_lt (fW M1 0 19 (((fI M1 0 19) + 1))) fun M3 =>
    am_ci (F 72 0 [.int v1, .int 0, .int ((fI M3 1 17) - 1)] [] M3) fun x5 M4 => /- RunSayer_outside -/
    if x5 = 0 then
      am_ci (F 89 0 [.ref 1, .int v1, .int v2] [] M4) fun x7 M6 => /- City_takeThing -/
      am_rt 1 x7 M6
    else
      am_rt 1 ((-11)) M4
  else
    am_rt 1 ((-2)) M1) = some r) : F 211 0 [.ref 0, .int v1, .int v2] [] M = some r := by
  refine e_RunSayer_taken hF ?_
  obtain ⟨x2, M1, k1, h⟩ := iv_ci h; refine (cl_ci k1).trans ?_
  rcases iv_ite h with ⟨hc, h⟩ | ⟨hc, h⟩
  · refine (if_pos hc).trans ?_
    refine (cl_gI (gk_0 hg)).trans ?_
    refine (cl_pI (gk_0 hg)).trans ?_
    replace h := iv_lt h
    refine (cl_gR (gk_0 hg) (gr_0_0 hg)).trans ?_
    refine (cl_gI (gk_1 hg)).trans ?_
    obtain ⟨x5, M4, k2, h⟩ := iv_ci h; refine (cl_ci k2).trans ?_
    rcases iv_ite h with ⟨hc, h⟩ | ⟨hc, h⟩
    · refine (if_pos hc).trans ?_
      refine (cl_gR (gk_0 hg) (gr_0_0 hg)).trans ?_
      refine (cl_rc (gk_1 hg)).trans ?_
      obtain ⟨x7, M6, k3, h⟩ := iv_ci h; refine (cl_ci k3).trans ?_
      exact h
    · refine (if_neg hc).trans ?_
      exact h
  · refine (if_neg hc).trans ?_
    exact h
theorem s_RunSayer_wasShut {g : am_G} {F : am_FT} (hF : F = am_F T0 g) (hg : GG g) {v1 : Int32} {v2 : Int32} {v3 : Int32} {M : am_M} {r : am_R} (h : (
  am_ci (F 154 0 [.ref 0, .int v1] [] M) fun x2 M1 => /- RunSayer_noWay -/
  if x2 = 0 then
    am_ci (F 72 0 [.int v2, .int 0, .int 299] [] M1) fun x4 M3 => /- RunSayer_outside -/
    if x4 = 0 then
      am_ci (F 155 0 [.ref 0, .int v3] [] M3) fun x6 M5 => /- RunSayer_notKnown -/
      if x6 = 0 then
        am_ci (F 35 0 [.ref 18, .int v1, .int v2, .int v3] [] M5) fun x8 M7 => /- Ledger_isShut -/
        if x8 = 0 then
          am_rt 1 0 M7
        else
          am_rt 1 1 M7
      else
        am_rt 1 ((-2)) M5
    else
      am_rt 1 ((-2)) M3
  else
    am_rt 1 ((-1)) M1) = some r) : F 212 0 [.ref 0, .int v1, .int v2, .int v3] [] M = some r := by
  refine e_RunSayer_wasShut hF ?_
  refine (cl_rc (gk_0 hg)).trans ?_
  obtain ⟨x2, M1, k1, h⟩ := iv_ci h; refine (cl_ci k1).trans ?_
  rcases iv_ite h with ⟨hc, h⟩ | ⟨hc, h⟩
  · refine (if_pos hc).trans ?_
    obtain ⟨x4, M3, k2, h⟩ := iv_ci h; refine (cl_ci k2).trans ?_
    rcases iv_ite h with ⟨hc, h⟩ | ⟨hc, h⟩
    · refine (if_pos hc).trans ?_
      refine (cl_rc (gk_0 hg)).trans ?_
      obtain ⟨x6, M5, k3, h⟩ := iv_ci h; refine (cl_ci k3).trans ?_
      rcases iv_ite h with ⟨hc, h⟩ | ⟨hc, h⟩
      · refine (if_pos hc).trans ?_
        refine (cl_gR (gk_0 hg) (gr_0_1 hg)).trans ?_
        refine (cl_rc (gk_18 hg)).trans ?_
        obtain ⟨x8, M7, k4, h⟩ := iv_ci h; refine (cl_ci k4).trans ?_
        rcases iv_ite h with ⟨hc, h⟩ | ⟨hc, h⟩
        · refine (if_pos hc).trans ?_
          exact h
        · refine (if_neg hc).trans ?_
          exact h
      · refine (if_neg hc).trans ?_
        exact h
    · refine (if_neg hc).trans ?_
      exact h
  · refine (if_neg hc).trans ?_
    exact h
theorem s_RunSayer_way {g : am_G} {F : am_FT} (hF : F = am_F T0 g) (hg : GG g) {v1 : Int32} {v2 : Int32} {v3 : Int32} {v4 : Int32} {v5 : Int32} {M : am_M} {r : am_R} (h : (
  am_ci (F 72 0 [.int v2, .int 0, .int ((fI M 1 3) - 1)] [] M) fun x2 M1 => /- RunSayer_outside -/
  if x2 = 0 then
    am_ci (F 72 0 [.int v3, .int 0, .int ((fI M1 1 3) - 1)] [] M1) fun x4 M3 => /- RunSayer_outside -/
    if x4 = 0 then
      am_ci (F 72 0 [.int v1, .int 0, .int 5] [] M3) fun x6 M5 => /- RunSayer_outside -/
      if x6 = 0 then
        if v2 = v3 then
          am_rt 1 ((-2)) M5
        else
          am_ci (F 72 0 [.int v4, .int 2, .int 999] [] M5) fun x8 M7 => /- RunSayer_outside -/
          if x8 = 0 then
            am_ci (F 148 0 [.int v5] [] M7) fun x10 M9 => /- RunSayer_noBit -/
            if x10 = 0 then
              am_ci (F 85 0 [.ref 1, .int v1, .int v2, .int v3, .int v4, .int v5] [] M9) fun x12 M11 => /- City_addWay -/
              am_rt 1 x12 M11
            else
              am_rt 1 ((-2)) M9
          else
            am_rt 1 ((-2)) M7
      else
        am_rt 1 ((-2)) M5
    else
      am_rt 1 ((-1)) M3
  else
    am_rt 1 ((-1)) M1) = some r) : F 213 0 [.ref 0, .int v1, .int v2, .int v3, .int v4, .int v5] [] M = some r := by
  refine e_RunSayer_way hF ?_
  refine (cl_gR (gk_0 hg) (gr_0_0 hg)).trans ?_
  refine (cl_gI (gk_1 hg)).trans ?_
  obtain ⟨x2, M1, k1, h⟩ := iv_ci h; refine (cl_ci k1).trans ?_
  rcases iv_ite h with ⟨hc, h⟩ | ⟨hc, h⟩
  · refine (if_pos hc).trans ?_
    refine (cl_gR (gk_0 hg) (gr_0_0 hg)).trans ?_
    refine (cl_gI (gk_1 hg)).trans ?_
    obtain ⟨x4, M3, k2, h⟩ := iv_ci h; refine (cl_ci k2).trans ?_
    rcases iv_ite h with ⟨hc, h⟩ | ⟨hc, h⟩
    · refine (if_pos hc).trans ?_
      obtain ⟨x6, M5, k3, h⟩ := iv_ci h; refine (cl_ci k3).trans ?_
      rcases iv_ite h with ⟨hc, h⟩ | ⟨hc, h⟩
      · refine (if_pos hc).trans ?_
        rcases iv_ite h with ⟨hc, h⟩ | ⟨hc, h⟩
        · refine (if_pos hc).trans ?_
          exact h
        · refine (if_neg hc).trans ?_
          obtain ⟨x8, M7, k4, h⟩ := iv_ci h; refine (cl_ci k4).trans ?_
          rcases iv_ite h with ⟨hc, h⟩ | ⟨hc, h⟩
          · refine (if_pos hc).trans ?_
            obtain ⟨x10, M9, k5, h⟩ := iv_ci h; refine (cl_ci k5).trans ?_
            rcases iv_ite h with ⟨hc, h⟩ | ⟨hc, h⟩
            · refine (if_pos hc).trans ?_
              refine (cl_gR (gk_0 hg) (gr_0_0 hg)).trans ?_
              refine (cl_rc (gk_1 hg)).trans ?_
              obtain ⟨x12, M11, k6, h⟩ := iv_ci h; refine (cl_ci k6).trans ?_
              exact h
            · refine (if_neg hc).trans ?_
              exact h
          · refine (if_neg hc).trans ?_
            exact h
      · refine (if_neg hc).trans ?_
        exact h
    · refine (if_neg hc).trans ?_
      exact h
  · refine (if_neg hc).trans ?_
    exact h
theorem s_Speech_readSetDown {g : am_G} {F : am_FT} (hF : F = am_F T0 g) (hg : GG g) {M : am_M} {r : am_R} (h : (
  am_cv (F 162 0 [.ref 61] [] M) fun M1 => /- Tape_skipBlanks -/
  am_cj (F 165 0 [.ref 61] [] M1) fun l3 M2 => /- Tape_takeWord -/
  if (lg_cmp l3 1818584692) = 0 then
    if (lg_cmp l3 491394656372) = 0 then
      am_lt (fW M2 63 1 1) fun M8 =>
      am_cv (F 162 0 [.ref 61] [] M8) fun M9 => /- Tape_skipBlanks -/
      am_ci (F 79 0 [.ref 61] [] M9) fun x11 M10 => /- Tape_isAtEnd -/
      if x11 = 0 then
        am_rt 1 ((fI M10 61 2)) M10
      else
        am_rt 1 ((-1)) M10
    else
      am_lt (fW M2 63 1 0) fun M4 =>
      am_cv (F 162 0 [.ref 61] [] M4) fun M5 => /- Tape_skipBlanks -/
      am_ci (F 79 0 [.ref 61] [] M5) fun x7 M6 => /- Tape_isAtEnd -/
      if x7 = 0 then
        am_rt 1 ((fI M6 61 2)) M6
      else
        am_rt 1 ((-1)) M6
  else
    if (lg_cmp l3 491394656372) = 0 then
      if (lg_cmp l3 491394656372) = 0 then
        am_lt (fW M2 63 1 1) fun M16 =>
        am_cv (F 162 0 [.ref 61] [] M16) fun M17 => /- Tape_skipBlanks -/
        am_ci (F 79 0 [.ref 61] [] M17) fun x19 M18 => /- Tape_isAtEnd -/
        if x19 = 0 then
          am_rt 1 ((fI M18 61 2)) M18
        else
          am_rt 1 ((-1)) M18
      else
        am_lt (fW M2 63 1 0) fun M12 =>
        am_cv (F 162 0 [.ref 61] [] M12) fun M13 => /- Tape_skipBlanks -/
        am_ci (F 79 0 [.ref 61] [] M13) fun x15 M14 => /- Tape_isAtEnd -/
        if x15 = 0 then
          am_rt 1 ((fI M14 61 2)) M14
        else
          am_rt 1 ((-1)) M14
    else
      am_rt 1 ((fI M1 61 2)) M2) = some r) : F 214 0 [.ref 63, .ref 61] [] M = some r := by
  refine e_Speech_readSetDown hF ?_
  refine (cl_rc (gk_61 hg)).trans ?_
  obtain ⟨M1, k1, h⟩ := iv_cv h; refine (cl_cv k1).trans ?_
  refine (cl_gI (gk_61 hg)).trans ?_
  refine (cl_rc (gk_61 hg)).trans ?_
  obtain ⟨l3, M2, k2, h⟩ := iv_cj h; refine (cl_cj k2).trans ?_
  rcases iv_ite h with ⟨hc, h⟩ | ⟨hc, h⟩
  · refine (if_pos hc).trans ?_
    rcases iv_ite h with ⟨hc, h⟩ | ⟨hc, h⟩
    · refine (if_pos hc).trans ?_
      refine (cl_pI (gk_63 hg)).trans ?_
      replace h := iv_lt h
      refine (cl_rc (gk_61 hg)).trans ?_
      obtain ⟨M9, k5, h⟩ := iv_cv h; refine (cl_cv k5).trans ?_
      refine (cl_rc (gk_61 hg)).trans ?_
      obtain ⟨x11, M10, k6, h⟩ := iv_ci h; refine (cl_ci k6).trans ?_
      rcases iv_ite h with ⟨hc, h⟩ | ⟨hc, h⟩
      · refine (if_pos hc).trans ?_
        refine (cl_gI (gk_61 hg)).trans ?_
        exact h
      · refine (if_neg hc).trans ?_
        exact h
    · refine (if_neg hc).trans ?_
      refine (cl_pI (gk_63 hg)).trans ?_
      replace h := iv_lt h
      refine (cl_rc (gk_61 hg)).trans ?_
      obtain ⟨M5, k3, h⟩ := iv_cv h; refine (cl_cv k3).trans ?_
      refine (cl_rc (gk_61 hg)).trans ?_
      obtain ⟨x7, M6, k4, h⟩ := iv_ci h; refine (cl_ci k4).trans ?_
      rcases iv_ite h with ⟨hc, h⟩ | ⟨hc, h⟩
      · refine (if_pos hc).trans ?_
        refine (cl_gI (gk_61 hg)).trans ?_
        exact h
      · refine (if_neg hc).trans ?_
        exact h
  · refine (if_neg hc).trans ?_
    rcases iv_ite h with ⟨hc, h⟩ | ⟨hc, h⟩
    · refine (if_pos hc).trans ?_
      rcases iv_ite h with ⟨hc, h⟩ | ⟨hc, h⟩
      · refine (if_pos hc).trans ?_
        refine (cl_pI (gk_63 hg)).trans ?_
        replace h := iv_lt h
        refine (cl_rc (gk_61 hg)).trans ?_
        obtain ⟨M17, k9, h⟩ := iv_cv h; refine (cl_cv k9).trans ?_
        refine (cl_rc (gk_61 hg)).trans ?_
        obtain ⟨x19, M18, k10, h⟩ := iv_ci h; refine (cl_ci k10).trans ?_
        rcases iv_ite h with ⟨hc, h⟩ | ⟨hc, h⟩
        · refine (if_pos hc).trans ?_
          refine (cl_gI (gk_61 hg)).trans ?_
          exact h
        · refine (if_neg hc).trans ?_
          exact h
      · refine (if_neg hc).trans ?_
        refine (cl_pI (gk_63 hg)).trans ?_
        replace h := iv_lt h
        refine (cl_rc (gk_61 hg)).trans ?_
        obtain ⟨M13, k7, h⟩ := iv_cv h; refine (cl_cv k7).trans ?_
        refine (cl_rc (gk_61 hg)).trans ?_
        obtain ⟨x15, M14, k8, h⟩ := iv_ci h; refine (cl_ci k8).trans ?_
        rcases iv_ite h with ⟨hc, h⟩ | ⟨hc, h⟩
        · refine (if_pos hc).trans ?_
          refine (cl_gI (gk_61 hg)).trans ?_
          exact h
        · refine (if_neg hc).trans ?_
          exact h
    · refine (if_neg hc).trans ?_
      exact h
theorem s_Speech_readTurn {g : am_G} {F : am_FT} (hF : F = am_F T0 g) (hg : GG g) {w2 : Int64} {v4 : Int32} {M : am_M} {r : am_R} (h : (
  am_ci (F 76 0 [.long w2] [] M) fun x2 M1 => /- Speech_turnOf -/
  if x2 = (-2) then
    am_rt 1 v4 M1
  else
    if x2 = (-1) then
      am_cv (F 162 0 [.ref 61] [] M1) fun M9 => /- Tape_skipBlanks -/
      am_ci (F 163 0 [.ref 61] [] M9) fun x11 M10 => /- Tape_takeLoneDigit -/
      if x11 = 0 then
        am_rt 1 ((fI M10 61 2)) M10
      else
        am_cv (F 162 0 [.ref 61] [] M10) fun M12 => /- Tape_skipBlanks -/
        am_cj (F 165 0 [.ref 61] [] M12) fun l14 M13 => /- Tape_takeWord -/
        if (lg_cmp l14 0) = 0 then
          am_rt 1 ((fI M12 61 2)) M13
        else
          am_ok 20 ((fI M13 63 2)) <|
          am_lt (wI M13 64 ((fI M13 63 2)).toNatClampNeg ((2 + x11))) fun M15 =>
          am_ok 20 ((fI M15 63 2)) <|
          am_lt (wJ M15 65 ((fI M15 63 2)).toNatClampNeg l14) fun M16 =>
          am_lt (fW M16 63 2 (((fI M16 63 2) + 1))) fun M17 =>
          am_rt 1 ((-1)) M17
    else
      am_cv (F 162 0 [.ref 61] [] M1) fun M3 => /- Tape_skipBlanks -/
      am_cj (F 165 0 [.ref 61] [] M3) fun l5 M4 => /- Tape_takeWord -/
      if (lg_cmp l5 0) = 0 then
        am_rt 1 ((fI M3 61 2)) M4
      else
        am_ok 20 ((fI M4 63 2)) <|
        am_lt (wI M4 64 ((fI M4 63 2)).toNatClampNeg x2) fun M6 =>
        am_ok 20 ((fI M6 63 2)) <|
        am_lt (wJ M6 65 ((fI M6 63 2)).toNatClampNeg l5) fun M7 =>
        am_lt (fW M7 63 2 (((fI M7 63 2) + 1))) fun M8 =>
        am_rt 1 ((-1)) M8) = some r) : F 215 0 [.ref 63, .ref 61, .long w2, .int v4] [] M = some r := by
  refine e_Speech_readTurn hF ?_
  obtain ⟨x2, M1, k1, h⟩ := iv_ci h; refine (cl_ci k1).trans ?_
  rcases iv_ite h with ⟨hc, h⟩ | ⟨hc, h⟩
  · refine (if_pos hc).trans ?_
    exact h
  · refine (if_neg hc).trans ?_
    rcases iv_ite h with ⟨hc, h⟩ | ⟨hc, h⟩
    · refine (if_pos hc).trans ?_
      refine (cl_rc (gk_61 hg)).trans ?_
      obtain ⟨M9, k6, h⟩ := iv_cv h; refine (cl_cv k6).trans ?_
      refine (cl_rc (gk_61 hg)).trans ?_
      obtain ⟨x11, M10, k7, h⟩ := iv_ci h; refine (cl_ci k7).trans ?_
      rcases iv_ite h with ⟨hc, h⟩ | ⟨hc, h⟩
      · refine (if_pos hc).trans ?_
        refine (cl_gI (gk_61 hg)).trans ?_
        exact h
      · refine (if_neg hc).trans ?_
        refine (cl_rc (gk_61 hg)).trans ?_
        obtain ⟨M12, k8, h⟩ := iv_cv h; refine (cl_cv k8).trans ?_
        refine (cl_gI (gk_61 hg)).trans ?_
        refine (cl_rc (gk_61 hg)).trans ?_
        obtain ⟨l14, M13, k9, h⟩ := iv_cj h; refine (cl_cj k9).trans ?_
        rcases iv_ite h with ⟨hc, h⟩ | ⟨hc, h⟩
        · refine (if_pos hc).trans ?_
          exact h
        · refine (if_neg hc).trans ?_
          refine (cl_gR (gk_63 hg) (gr_63_3 hg)).trans ?_
          refine (cl_gI (gk_63 hg)).trans ?_
          obtain ⟨k10, h⟩ := iv_ok h; refine (cl_is (gk_64 hg) k10).trans ?_
          replace h := iv_lt h
          refine (cl_gR (gk_63 hg) (gr_63_4 hg)).trans ?_
          refine (cl_gI (gk_63 hg)).trans ?_
          obtain ⟨k11, h⟩ := iv_ok h; refine (cl_ls (gk_65 hg) k11).trans ?_
          replace h := iv_lt h
          refine (cl_gI (gk_63 hg)).trans ?_
          refine (cl_pI (gk_63 hg)).trans ?_
          replace h := iv_lt h
          exact h
    · refine (if_neg hc).trans ?_
      refine (cl_rc (gk_61 hg)).trans ?_
      obtain ⟨M3, k2, h⟩ := iv_cv h; refine (cl_cv k2).trans ?_
      refine (cl_gI (gk_61 hg)).trans ?_
      refine (cl_rc (gk_61 hg)).trans ?_
      obtain ⟨l5, M4, k3, h⟩ := iv_cj h; refine (cl_cj k3).trans ?_
      rcases iv_ite h with ⟨hc, h⟩ | ⟨hc, h⟩
      · refine (if_pos hc).trans ?_
        exact h
      · refine (if_neg hc).trans ?_
        refine (cl_gR (gk_63 hg) (gr_63_3 hg)).trans ?_
        refine (cl_gI (gk_63 hg)).trans ?_
        obtain ⟨k4, h⟩ := iv_ok h; refine (cl_is (gk_64 hg) k4).trans ?_
        replace h := iv_lt h
        refine (cl_gR (gk_63 hg) (gr_63_4 hg)).trans ?_
        refine (cl_gI (gk_63 hg)).trans ?_
        obtain ⟨k5, h⟩ := iv_ok h; refine (cl_ls (gk_65 hg) k5).trans ?_
        replace h := iv_lt h
        refine (cl_gI (gk_63 hg)).trans ?_
        refine (cl_pI (gk_63 hg)).trans ?_
        replace h := iv_lt h
        exact h
theorem s_City_howTurned {g : am_G} {F : am_FT} (hF : F = am_F T0 g) (hg : GG g) {v1 : Int32} {v2 : Int32} {M : am_M} {r : am_R} (h : (
  am_ci (F 4 0 [.ref 1, .int v1] [] M) fun x2 M1 => /- City_endOf -/
  am_ok 24 x2 <|
  if (rI M1 4 x2.toNatClampNeg) = 1 then
    am_ci (F 166 0 [.ref 1, .int v1, .int v2] [] M1) fun x8 M7 => /- City_exitsAhead -/
    am_rt 1 ((3 + x8)) M7
  else
    am_ci (F 2 0 [.ref 1, .int v1, .int v2] [] M1) fun x4 M3 => /- City_cross -/
    if 0 ≤ x4 then
      if x4 = 0 then
        am_ci (F 3 0 [.ref 1, .int v1, .int v2] [] M3) fun x6 M5 => /- City_dot -/
        if x6 ≤ 0 then
          am_rt 1 0 M5
        else
          am_rt 1 2 M5
      else
        am_rt 1 0 M3
    else
      am_rt 1 1 M3) = some r) : F 216 0 [.ref 1, .int v1, .int v2] [] M = some r := by
  refine e_City_howTurned hF ?_
  refine (cl_gR (gk_1 hg) (gr_1_2 hg)).trans ?_
  refine (cl_rc (gk_1 hg)).trans ?_
  obtain ⟨x2, M1, k1, h⟩ := iv_ci h; refine (cl_ci k1).trans ?_
  obtain ⟨k2, h⟩ := iv_ok h; refine (cl_ia (gk_4 hg) k2).trans ?_
  rcases iv_ite h with ⟨hc, h⟩ | ⟨hc, h⟩
  · refine (if_pos hc).trans ?_
    refine (cl_rc (gk_1 hg)).trans ?_
    obtain ⟨x8, M7, k5, h⟩ := iv_ci h; refine (cl_ci k5).trans ?_
    exact h
  · refine (if_neg hc).trans ?_
    refine (cl_rc (gk_1 hg)).trans ?_
    obtain ⟨x4, M3, k3, h⟩ := iv_ci h; refine (cl_ci k3).trans ?_
    rcases iv_ite h with ⟨hc, h⟩ | ⟨hc, h⟩
    · refine (if_pos hc).trans ?_
      rcases iv_ite h with ⟨hc, h⟩ | ⟨hc, h⟩
      · refine (if_pos hc).trans ?_
        refine (cl_rc (gk_1 hg)).trans ?_
        obtain ⟨x6, M5, k4, h⟩ := iv_ci h; refine (cl_ci k4).trans ?_
        rcases iv_ite h with ⟨hc, h⟩ | ⟨hc, h⟩
        · refine (if_pos hc).trans ?_
          exact h
        · refine (if_neg hc).trans ?_
          exact h
      · refine (if_neg hc).trans ?_
        exact h
    · refine (if_neg hc).trans ?_
      exact h
theorem s_Finder_findBest {g : am_G} {F : am_FT} (hF : F = am_F T0 g) (hg : GG g) {a1 : Nat} {v2 : Int32} {v3 : Int32} {v4 : Int32} {M : am_M} (h1 : isRt g a1) {r : am_R} (h : (
  am_cv (F 67 0 [.ref a1, .int v2, .int v3] [] M) fun M1 => /- Route_begin -/
  am_cv (F 171 0 [.ref 32, .int v2, .int v3, .int v4] [] M1) fun M2 => /- Finder_spread -/
  am_ok 8 v2 <|
  am_cj (F 167 0 [.ref 32, .int (2 * (rI M2 11 v2.toNatClampNeg)), .int v2, .int v3] [] M2) fun l4 M3 => /- Finder_costFrom -/
  am_cj (F 167 0 [.ref 32, .int ((2 * (rI M2 11 v2.toNatClampNeg)) + 1), .int v2, .int v3] [] M3) fun l6 M5 => /- Finder_costFrom -/
  if (lg_cmp l4 9223372036854775807) = 0 then
    if (lg_cmp l6 9223372036854775807) = 0 then
      am_cv (F 169 0 [.ref 32, .ref a1] [] M5) fun M7 => /- Finder_measure -/
      am_rt 1 ((fI M7 a1 5)) M7
    else
      am_cv (F 172 0 [.ref 32, .ref a1, .int ((2 * (rI M2 11 v2.toNatClampNeg)) + 1), .long l6] [] M5) fun M8 => /- Finder_trace -/
      am_cv (F 169 0 [.ref 32, .ref a1] [] M8) fun M9 => /- Finder_measure -/
      am_rt 1 ((fI M9 a1 5)) M9
  else
    if 0 < (lg_cmp l4 l6) then
      if (lg_cmp l6 9223372036854775807) = 0 then
        am_cv (F 169 0 [.ref 32, .ref a1] [] M5) fun M10 => /- Finder_measure -/
        am_rt 1 ((fI M10 a1 5)) M10
      else
        am_cv (F 172 0 [.ref 32, .ref a1, .int ((2 * (rI M2 11 v2.toNatClampNeg)) + 1), .long l6] [] M5) fun M11 => /- Finder_trace -/
        am_cv (F 169 0 [.ref 32, .ref a1] [] M11) fun M12 => /- Finder_measure -/
        am_rt 1 ((fI M12 a1 5)) M12
    else
      am_cv (F 172 0 [.ref 32, .ref a1, .int (2 * (rI M2 11 v2.toNatClampNeg)), .long l4] [] M5) fun M13 => /- Finder_trace -/
      am_cv (F 169 0 [.ref 32, .ref a1] [] M13) fun M14 => /- Finder_measure -/
      am_rt 1 ((fI M14 a1 5)) M14) = some r) : F 217 0 [.ref 32, .ref a1, .int v2, .int v3, .int v4] [] M = some r := by
  refine e_Finder_findBest hF ?_
  refine (cl_rc h1.1).trans ?_
  obtain ⟨M1, k1, h⟩ := iv_cv h; refine (cl_cv k1).trans ?_
  refine (cl_rc (gk_32 hg)).trans ?_
  obtain ⟨M2, k2, h⟩ := iv_cv h; refine (cl_cv k2).trans ?_
  refine (cl_gR (gk_32 hg) (gr_32_0 hg)).trans ?_
  refine (cl_gR (gk_1 hg) (gr_1_11 hg)).trans ?_
  obtain ⟨k3, h⟩ := iv_ok h; refine (cl_ia (gk_11 hg) k3).trans ?_
  refine (cl_rc (gk_32 hg)).trans ?_
  obtain ⟨l4, M3, k4, h⟩ := iv_cj h; refine (cl_cj k4).trans ?_
  refine (cl_rc (gk_32 hg)).trans ?_
  obtain ⟨l6, M5, k5, h⟩ := iv_cj h; refine (cl_cj k5).trans ?_
  rcases iv_ite h with ⟨hc, h⟩ | ⟨hc, h⟩
  · refine (if_pos hc).trans ?_
    rcases iv_ite h with ⟨hc, h⟩ | ⟨hc, h⟩
    · refine (if_pos hc).trans ?_
      refine (cl_rc (gk_32 hg)).trans ?_
      obtain ⟨M7, k6, h⟩ := iv_cv h; refine (cl_cv k6).trans ?_
      refine (cl_gI h1.1).trans ?_
      exact h
    · refine (if_neg hc).trans ?_
      refine (cl_rc (gk_32 hg)).trans ?_
      obtain ⟨M8, k7, h⟩ := iv_cv h; refine (cl_cv k7).trans ?_
      refine (cl_rc (gk_32 hg)).trans ?_
      obtain ⟨M9, k8, h⟩ := iv_cv h; refine (cl_cv k8).trans ?_
      refine (cl_gI h1.1).trans ?_
      exact h
  · refine (if_neg hc).trans ?_
    rcases iv_ite h with ⟨hc, h⟩ | ⟨hc, h⟩
    · refine (if_pos hc).trans ?_
      rcases iv_ite h with ⟨hc, h⟩ | ⟨hc, h⟩
      · refine (if_pos hc).trans ?_
        refine (cl_rc (gk_32 hg)).trans ?_
        obtain ⟨M10, k9, h⟩ := iv_cv h; refine (cl_cv k9).trans ?_
        refine (cl_gI h1.1).trans ?_
        exact h
      · refine (if_neg hc).trans ?_
        refine (cl_rc (gk_32 hg)).trans ?_
        obtain ⟨M11, k10, h⟩ := iv_cv h; refine (cl_cv k10).trans ?_
        refine (cl_rc (gk_32 hg)).trans ?_
        obtain ⟨M12, k11, h⟩ := iv_cv h; refine (cl_cv k11).trans ?_
        refine (cl_gI h1.1).trans ?_
        exact h
    · refine (if_neg hc).trans ?_
      refine (cl_rc (gk_32 hg)).trans ?_
      obtain ⟨M13, k12, h⟩ := iv_cv h; refine (cl_cv k12).trans ?_
      refine (cl_rc (gk_32 hg)).trans ?_
      obtain ⟨M14, k13, h⟩ := iv_cv h; refine (cl_cv k13).trans ?_
      refine (cl_gI h1.1).trans ?_
      exact h
theorem s_Finder_setCity {g : am_G} {F : am_FT} (hF : F = am_F T0 g) (hg : GG g) {v1 : Int32} {v2 : Int32} {v3 : Int32} {M : am_M} {r : am_R} (h : (
  am_cv (F 170 0 [.ref 32, .int v2] [] M) fun M1 => /- Finder_setHour -/
  F 218 8 [.ref 32, .int v1, .int v2, .int v3, .int 0] [] M1) = some r) : F 218 0 [.ref 32, .int v1, .int v2, .int v3] [] M = some r := by
  refine e_Finder_setCity hF ?_
  refine (cl_rc (gk_32 hg)).trans ?_
  obtain ⟨M1, k1, h⟩ := iv_cv h; refine (cl_cv k1).trans ?_
  exact h
theorem s_Finder_setCity_8 {g : am_G} {F : am_FT} (hF : F = am_F T0 g) (hg : GG g) {v1 : Int32} {v2 : Int32} {v3 : Int32} {v4 : Int32} {M : am_M} {r : am_R} (h : (
  am_ci (F 10 0 [.ref 1] [] M) fun x2 M1 => /- City_legCount -/
  if x2 ≤ v4 then
    am_cv (F 21 0 [.ref 32] [] M1) fun M3 => /- Finder_unmark -/
    okb 0 <|
    am_lt (fW M3 32 7 0) fun M4 =>
    F 218 76 [.ref 32, .int v1, .int v2, .int 0] [] M4
  else
    am_ok 80 v4 <|
    if (rI M1 33 v4.toNatClampNeg) = 0 then
      am_ok 80 v4 <|
      am_lt (wI M1 33 v4.toNatClampNeg (vp_nar .boolean 0)) fun M5 =>
      F 218 8 [.ref 32, .int v1, .int v2, .int v3, .int (v4 + 1)] [] M5
    else
      am_ci (F 35 0 [.ref 18, .int (v4 >>> ((1 : Int32) &&& 31)), .int v1, .int v3] [] M1) fun x7 M6 => /- Ledger_isShut -/
      if x7 = 0 then
        am_ok 80 v4 <|
        am_lt (wI M6 33 v4.toNatClampNeg (vp_nar .boolean 1)) fun M9 =>
        F 218 8 [.ref 32, .int v1, .int v2, .int v3, .int (v4 + 1)] [] M9
      else
        am_ok 80 v4 <|
        am_lt (wI M6 33 v4.toNatClampNeg (vp_nar .boolean 0)) fun M8 =>
        F 218 8 [.ref 32, .int v1, .int v2, .int v3, .int (v4 + 1)] [] M8) = some r) : F 218 8 [.ref 32, .int v1, .int v2, .int v3, .int v4] [] M = some r := by
  refine e_Finder_setCity_8 hF ?_
  refine (cl_gR (gk_32 hg) (gr_32_0 hg)).trans ?_
  refine (cl_rc (gk_1 hg)).trans ?_
  obtain ⟨x2, M1, k1, h⟩ := iv_ci h; refine (cl_ci k1).trans ?_
  rcases iv_ite h with ⟨hc, h⟩ | ⟨hc, h⟩
  · refine (if_pos hc).trans ?_
    refine (cl_rc (gk_32 hg)).trans ?_
    obtain ⟨M3, k2, h⟩ := iv_cv h; refine (cl_cv k2).trans ?_
    obtain ⟨k3, h⟩ := iv_okb h; refine (cl_pZ k3 (gk_32 hg)).trans ?_
    replace h := iv_lt h
    exact h
  · refine (if_neg hc).trans ?_
    refine (cl_gR (gk_32 hg) (gr_32_2 hg)).trans ?_
    refine (cl_gR (gk_32 hg) (gr_32_2 hg)).trans ?_
    obtain ⟨k4, h⟩ := iv_ok h; refine (cl_za (gk_33 hg) k4).trans ?_
    rcases iv_ite h with ⟨hc, h⟩ | ⟨hc, h⟩
    · refine (if_pos hc).trans ?_
      obtain ⟨k5, h⟩ := iv_ok h; refine (cl_zs (gk_33 hg) k5).trans ?_
      replace h := iv_lt h
      exact h
    · refine (if_neg hc).trans ?_
      refine (cl_gR (gk_32 hg) (gr_32_1 hg)).trans ?_
      refine (cl_rc (gk_18 hg)).trans ?_
      obtain ⟨x7, M6, k6, h⟩ := iv_ci h; refine (cl_ci k6).trans ?_
      rcases iv_ite h with ⟨hc, h⟩ | ⟨hc, h⟩
      · refine (if_pos hc).trans ?_
        obtain ⟨k8, h⟩ := iv_ok h; refine (cl_zs (gk_33 hg) k8).trans ?_
        replace h := iv_lt h
        exact h
      · refine (if_neg hc).trans ?_
        obtain ⟨k7, h⟩ := iv_ok h; refine (cl_zs (gk_33 hg) k7).trans ?_
        replace h := iv_lt h
        exact h
theorem s_Finder_setCity_76 {g : am_G} {F : am_FT} (hF : F = am_F T0 g) (hg : GG g) {v1 : Int32} {v2 : Int32} {v4 : Int32} {M : am_M} {r : am_R} (h : (
  if (fI M 18 16) ≤ v4 then
    some (none, M)
  else
    am_ci (F 34 0 [.ref 18, .int v4, .int v1, .int v2] [] M) fun x2 M1 => /- Ledger_isBanOn -/
    if x2 = 0 then
      F 218 76 [.ref 32, .int v1, .int v2, .int (v4 + 1)] [] M1
    else
      am_ok 40 v4 <|
      am_ok 40 v4 <|
      am_cv (F 18 0 [.ref 32, .int (rI M1 26 v4.toNatClampNeg), .int (rI M1 27 v4.toNatClampNeg)] [] M1) fun M3 => /- Finder_mark -/
      F 218 76 [.ref 32, .int v1, .int v2, .int (v4 + 1)] [] M3) = some r) : F 218 76 [.ref 32, .int v1, .int v2, .int v4] [] M = some r := by
  refine e_Finder_setCity_76 hF ?_
  refine (cl_gR (gk_32 hg) (gr_32_1 hg)).trans ?_
  refine (cl_gI (gk_18 hg)).trans ?_
  rcases iv_ite h with ⟨hc, h⟩ | ⟨hc, h⟩
  · refine (if_pos hc).trans ?_
    exact h
  · refine (if_neg hc).trans ?_
    refine (cl_gR (gk_32 hg) (gr_32_1 hg)).trans ?_
    refine (cl_rc (gk_18 hg)).trans ?_
    obtain ⟨x2, M1, k1, h⟩ := iv_ci h; refine (cl_ci k1).trans ?_
    rcases iv_ite h with ⟨hc, h⟩ | ⟨hc, h⟩
    · refine (if_pos hc).trans ?_
      exact h
    · refine (if_neg hc).trans ?_
      refine (cl_gR (gk_32 hg) (gr_32_1 hg)).trans ?_
      refine (cl_gR (gk_18 hg) (gr_18_10 hg)).trans ?_
      obtain ⟨k2, h⟩ := iv_ok h; refine (cl_ia (gk_26 hg) k2).trans ?_
      refine (cl_gR (gk_32 hg) (gr_32_1 hg)).trans ?_
      refine (cl_gR (gk_18 hg) (gr_18_11 hg)).trans ?_
      obtain ⟨k3, h⟩ := iv_ok h; refine (cl_ia (gk_27 hg) k3).trans ?_
      refine (cl_rc (gk_32 hg)).trans ?_
      obtain ⟨M3, k4, h⟩ := iv_cv h; refine (cl_cv k4).trans ?_
      exact h
theorem s_Finder_setHeld {g : am_G} {F : am_FT} (hF : F = am_F T0 g) (hg : GG g) {a2 : Nat} {M : am_M} (h2 : isPu g a2) {r : am_R} (h : (
  am_cv (F 21 0 [.ref 32] [] M) fun M1 => /- Finder_unmark -/
  okb 1 <|
  am_lt (fW M1 32 7 1) fun M2 =>
  F 219 11 [.ref 32, .ref 42, .ref a2, .int 0] [] M2) = some r) : F 219 0 [.ref 32, .ref 42, .ref a2] [] M = some r := by
  refine e_Finder_setHeld hF ?_
  refine (cl_rc (gk_32 hg)).trans ?_
  obtain ⟨M1, k1, h⟩ := iv_cv h; refine (cl_cv k1).trans ?_
  obtain ⟨k2, h⟩ := iv_okb h; refine (cl_pZ k2 (gk_32 hg)).trans ?_
  replace h := iv_lt h
  exact h
theorem s_Finder_setHeld_11 {g : am_G} {F : am_FT} (hF : F = am_F T0 g) (hg : GG g) {a2 : Nat} {v3 : Int32} {M : am_M} (h2 : isPu g a2) {r : am_R} (h : (
  if (fI M 42 2) ≤ v3 then
    some (none, M)
  else
    am_ci (F 195 0 [.ref a2, .int v3, .int (fI M 18 0)] [] M) fun x2 M1 => /- Pupil_isHeld -/
    if x2 = 0 then
      F 219 11 [.ref 32, .ref 42, .ref a2, .int (v3 + 1)] [] M1
    else
      am_ok 200 v3 <|
      am_ok 200 v3 <|
      am_cv (F 18 0 [.ref 32, .int (rI M1 43 v3.toNatClampNeg), .int (rI M1 44 v3.toNatClampNeg)] [] M1) fun M3 => /- Finder_mark -/
      F 219 11 [.ref 32, .ref 42, .ref a2, .int (v3 + 1)] [] M3) = some r) : F 219 11 [.ref 32, .ref 42, .ref a2, .int v3] [] M = some r := by
  refine e_Finder_setHeld_11 hF ?_
  refine (cl_gI (gk_42 hg)).trans ?_
  rcases iv_ite h with ⟨hc, h⟩ | ⟨hc, h⟩
  · refine (if_pos hc).trans ?_
    exact h
  · refine (if_neg hc).trans ?_
    refine (cl_gR (gk_32 hg) (gr_32_1 hg)).trans ?_
    refine (cl_gI (gk_18 hg)).trans ?_
    refine (cl_rc h2.1).trans ?_
    obtain ⟨x2, M1, k1, h⟩ := iv_ci h; refine (cl_ci k1).trans ?_
    rcases iv_ite h with ⟨hc, h⟩ | ⟨hc, h⟩
    · refine (if_pos hc).trans ?_
      exact h
    · refine (if_neg hc).trans ?_
      refine (cl_gR (gk_42 hg) (gr_42_0 hg)).trans ?_
      obtain ⟨k2, h⟩ := iv_ok h; refine (cl_ia (gk_43 hg) k2).trans ?_
      refine (cl_gR (gk_42 hg) (gr_42_1 hg)).trans ?_
      obtain ⟨k3, h⟩ := iv_ok h; refine (cl_ia (gk_44 hg) k3).trans ?_
      refine (cl_rc (gk_32 hg)).trans ?_
      obtain ⟨M3, k4, h⟩ := iv_cv h; refine (cl_cv k4).trans ?_
      exact h
theorem s_Finder_writeProof {g : am_G} {F : am_FT} (hF : F = am_F T0 g) (hg : GG g) {a1 : Nat} {v2 : Int32} {v3 : Int32} {M : am_M} (h1 : gK g a1 = (1, 100)) {r : am_R} (h : (
  am_cv (F 171 0 [.ref 32, .int v2, .int v3, .int 1] [] M) fun M1 => /- Finder_spread -/
  F 220 10 [.ref 32, .ref a1, .int 0] [] M1) = some r) : F 220 0 [.ref 32, .ref a1, .int v2, .int v3] [] M = some r := by
  refine e_Finder_writeProof hF ?_
  refine (cl_rc (gk_32 hg)).trans ?_
  obtain ⟨M1, k1, h⟩ := iv_cv h; refine (cl_cv k1).trans ?_
  exact h
theorem s_Finder_writeProof_10 {g : am_G} {F : am_FT} (hF : F = am_F T0 g) (hg : GG g) {a1 : Nat} {v4 : Int32} {M : am_M} (h1 : gK g a1 = (1, 100)) {r : am_R} (h : (
  am_ci (F 10 0 [.ref 1] [] M) fun x2 M1 => /- City_legCount -/
  if x2 ≤ v4 then
    some (none, M1)
  else
    if 100 ≤ v4 then
      some (none, M1)
    else
      am_ok 80 v4 <|
      if (lg_cmp ((rJ M1 40 v4.toNatClampNeg)) 9223372036854775807) = 0 then
        am_ok 100 v4 <|
        am_lt (wI M1 a1 v4.toNatClampNeg ((-1))) fun M4 =>
        F 220 10 [.ref 32, .ref a1, .int (v4 + 1)] [] M4
      else
        am_ok 80 v4 <|
        am_ok 100 v4 <|
        am_lt (wI M1 a1 v4.toNatClampNeg ((((rJ M1 40 v4.toNatClampNeg) >>> ((32 : Int32).toInt64 &&& 63))).toInt32)) fun M3 =>
        F 220 10 [.ref 32, .ref a1, .int (v4 + 1)] [] M3) = some r) : F 220 10 [.ref 32, .ref a1, .int v4] [] M = some r := by
  refine e_Finder_writeProof_10 hF ?_
  refine (cl_gR (gk_32 hg) (gr_32_0 hg)).trans ?_
  refine (cl_rc (gk_1 hg)).trans ?_
  obtain ⟨x2, M1, k1, h⟩ := iv_ci h; refine (cl_ci k1).trans ?_
  rcases iv_ite h with ⟨hc, h⟩ | ⟨hc, h⟩
  · refine (if_pos hc).trans ?_
    exact h
  · refine (if_neg hc).trans ?_
    refine (cl_ln h1 (Or.inl ⟨by decide, by decide⟩)).trans ?_
    rcases iv_ite h with ⟨hc, h⟩ | ⟨hc, h⟩
    · refine (if_pos hc).trans ?_
      exact h
    · refine (if_neg hc).trans ?_
      refine (cl_gR (gk_32 hg) (gr_32_11 hg)).trans ?_
      obtain ⟨k2, h⟩ := iv_ok h; refine (cl_la (gk_40 hg) k2).trans ?_
      rcases iv_ite h with ⟨hc, h⟩ | ⟨hc, h⟩
      · refine (if_pos hc).trans ?_
        obtain ⟨k5, h⟩ := iv_ok h; refine (cl_is h1 k5).trans ?_
        replace h := iv_lt h
        exact h
      · refine (if_neg hc).trans ?_
        refine (cl_gR (gk_32 hg) (gr_32_11 hg)).trans ?_
        obtain ⟨k3, h⟩ := iv_ok h; refine (cl_la (gk_40 hg) k3).trans ?_
        obtain ⟨k4, h⟩ := iv_ok h; refine (cl_is h1 k4).trans ?_
        replace h := iv_lt h
        exact h
theorem s_Links_heldCount {g : am_G} {F : am_FT} (hF : F = am_F T0 g) (hg : GG g) {a1 : Nat} {v2 : Int32} {M : am_M} (h1 : isPu g a1) {r : am_R} (h : (
  F 221 5 [.ref 42, .ref a1, .int v2, .int 0, .int 0] [] M) = some r) : F 221 0 [.ref 42, .ref a1, .int v2] [] M = some r := by
  refine e_Links_heldCount hF ?_
  exact h
theorem s_Links_heldCount_5 {g : am_G} {F : am_FT} (hF : F = am_F T0 g) (hg : GG g) {a1 : Nat} {v2 : Int32} {v3 : Int32} {v4 : Int32} {M : am_M} (h1 : isPu g a1) {r : am_R} (h : (
  if (fI M 42 2) ≤ v4 then
    am_rt 1 v3 M
  else
    am_ci (F 195 0 [.ref a1, .int v4, .int v2] [] M) fun x2 M1 => /- Pupil_isHeld -/
    if x2 = 0 then
      F 221 5 [.ref 42, .ref a1, .int v2, .int v3, .int (v4 + 1)] [] M1
    else
      F 221 5 [.ref 42, .ref a1, .int v2, .int (v3 + 1), .int (v4 + 1)] [] M1) = some r) : F 221 5 [.ref 42, .ref a1, .int v2, .int v3, .int v4] [] M = some r := by
  refine e_Links_heldCount_5 hF ?_
  refine (cl_gI (gk_42 hg)).trans ?_
  rcases iv_ite h with ⟨hc, h⟩ | ⟨hc, h⟩
  · refine (if_pos hc).trans ?_
    exact h
  · refine (if_neg hc).trans ?_
    refine (cl_rc h1.1).trans ?_
    obtain ⟨x2, M1, k1, h⟩ := iv_ci h; refine (cl_ci k1).trans ?_
    rcases iv_ite h with ⟨hc, h⟩ | ⟨hc, h⟩
    · refine (if_pos hc).trans ?_
      exact h
    · refine (if_neg hc).trans ?_
      exact h
theorem s_Links_planRides {g : am_G} {F : am_FT} (hF : F = am_F T0 g) (hg : GG g) {a1 : Nat} {v3 : Int32} {v4 : Int32} {v5 : Int32} {M : am_M} (h1 : isPu g a1) {r : am_R} (h : (
  F 222 6 [.ref 42, .ref a1, .ref 218, .int v3, .int v4, .int v5, .int 1, .int 0] [] M) = some r) : F 222 0 [.ref 42, .ref a1, .ref 218, .int v3, .int v4, .int v5] [] M = some r := by
  refine e_Links_planRides hF ?_
  exact h
theorem s_Links_planRides_6 {g : am_G} {F : am_FT} (hF : F = am_F T0 g) (hg : GG g) {a1 : Nat} {v3 : Int32} {v4 : Int32} {v5 : Int32} {v6 : Int32} {v7 : Int32} {M : am_M} (h1 : isPu g a1) {r : am_R} (h : (
  if v3 ≤ v7 then
    F 222 33 [.ref 42, .ref a1, .ref 218, .int v3, .int v4, .int v5, .int v6, .int (-1), .int 0] [] M
  else
    F 222 6 [.ref 42, .ref a1, .ref 218, .int v3, .int v4, .int v5, .int (v6 * (fI M 42 7)), .int (v7 + 1)] [] M) = some r) : F 222 6 [.ref 42, .ref a1, .ref 218, .int v3, .int v4, .int v5, .int v6, .int v7] [] M = some r := by
  refine e_Links_planRides_6 hF ?_
  rcases iv_ite h with ⟨hc, h⟩ | ⟨hc, h⟩
  · refine (if_pos hc).trans ?_
    exact h
  · refine (if_neg hc).trans ?_
    refine (cl_gI (gk_42 hg)).trans ?_
    exact h
theorem s_Links_planRides_33 {g : am_G} {F : am_FT} (hF : F = am_F T0 g) (hg : GG g) {a1 : Nat} {v3 : Int32} {v4 : Int32} {v5 : Int32} {v6 : Int32} {v7 : Int32} {v8 : Int32} {M : am_M} (h1 : isPu g a1) {r : am_R} (h : (
  if v6 ≤ v8 then
    am_rt 1 v7 M
  else
    am_cv (F 36 0 [.ref 42, .int v8, .int v3] [] M) fun M1 => /- Links_chooseRow -/
    am_ci (F 175 0 [.ref 42, .ref a1, .int v3, .int v4, .int v5] [] M1) fun x3 M2 => /- Links_heldAfter -/
    if x3 ≤ v7 then
      F 222 33 [.ref 42, .ref a1, .ref 218, .int v3, .int v4, .int v5, .int v6, .int v7, .int (v8 + 1)] [] M2
    else
      F 222 73 [.ref 42, .ref a1, .ref 218, .int v3, .int v4, .int v5, .int v6, .int x3, .int v8, .int 0] [] M2) = some r) : F 222 33 [.ref 42, .ref a1, .ref 218, .int v3, .int v4, .int v5, .int v6, .int v7, .int v8] [] M = some r := by
  refine e_Links_planRides_33 hF ?_
  rcases iv_ite h with ⟨hc, h⟩ | ⟨hc, h⟩
  · refine (if_pos hc).trans ?_
    exact h
  · refine (if_neg hc).trans ?_
    refine (cl_rc (gk_42 hg)).trans ?_
    obtain ⟨M1, k1, h⟩ := iv_cv h; refine (cl_cv k1).trans ?_
    refine (cl_rc (gk_42 hg)).trans ?_
    obtain ⟨x3, M2, k2, h⟩ := iv_ci h; refine (cl_ci k2).trans ?_
    rcases iv_ite h with ⟨hc, h⟩ | ⟨hc, h⟩
    · refine (if_pos hc).trans ?_
      exact h
    · refine (if_neg hc).trans ?_
      exact h
theorem s_Links_planRides_73 {g : am_G} {F : am_FT} (hF : F = am_F T0 g) (hg : GG g) {a1 : Nat} {v3 : Int32} {v4 : Int32} {v5 : Int32} {v6 : Int32} {v7 : Int32} {v8 : Int32} {v10 : Int32} {M : am_M} (h1 : isPu g a1) {r : am_R} (h : (
  if v3 ≤ v10 then
    F 222 33 [.ref 42, .ref a1, .ref 218, .int v3, .int v4, .int v5, .int v6, .int v7, .int (v8 + 1)] [] M
  else
    am_ok 4 v10 <|
    am_ok 4 ((rI M 60 v10.toNatClampNeg)) <|
    am_ok 4 v10 <|
    am_lt (wI M 218 v10.toNatClampNeg ((rI M 58 ((rI M 60 v10.toNatClampNeg)).toNatClampNeg))) fun M1 =>
    F 222 73 [.ref 42, .ref a1, .ref 218, .int v3, .int v4, .int v5, .int v6, .int v7, .int v8, .int (v10 + 1)] [] M1) = some r) : F 222 73 [.ref 42, .ref a1, .ref 218, .int v3, .int v4, .int v5, .int v6, .int v7, .int v8, .int v10] [] M = some r := by
  refine e_Links_planRides_73 hF ?_
  rcases iv_ite h with ⟨hc, h⟩ | ⟨hc, h⟩
  · refine (if_pos hc).trans ?_
    exact h
  · refine (if_neg hc).trans ?_
    refine (cl_gR (gk_42 hg) (gr_42_6 hg)).trans ?_
    refine (cl_gR (gk_42 hg) (gr_42_9 hg)).trans ?_
    obtain ⟨k1, h⟩ := iv_ok h; refine (cl_ia (gk_60 hg) k1).trans ?_
    obtain ⟨k2, h⟩ := iv_ok h; refine (cl_ia (gk_58 hg) k2).trans ?_
    obtain ⟨k3, h⟩ := iv_ok h; refine (cl_is (gk_218 hg) k3).trans ?_
    replace h := iv_lt h
    exact h
theorem s_RunSayer_holds {g : am_G} {F : am_FT} (hF : F = am_F T0 g) (hg : GG g) {v1 : Int32} {v2 : Int32} {v3 : Int32} {v4 : Int32} {M : am_M} {r : am_R} (h : (
  am_ci (F 152 0 [.ref 0, .int v1] [] M) fun x2 M1 => /- RunSayer_noPupil -/
  if x2 = 0 then
    am_ci (F 151 0 [.ref 0, .int v2] [] M1) fun x4 M3 => /- RunSayer_noLeg -/
    if x4 = 0 then
      am_ci (F 151 0 [.ref 0, .int v3] [] M3) fun x6 M5 => /- RunSayer_noLeg -/
      if x6 = 0 then
        am_ci (F 72 0 [.int v4, .int (fI M5 18 0), .int 2000] [] M5) fun x8 M7 => /- RunSayer_outside -/
        if x8 = 0 then
          am_ci (F 39 0 [.ref 42, .int v2, .int v3] [] M7) fun x10 M9 => /- Links_numberOf -/
          if x10 < 0 then
            am_rt 1 0 M9
          else
            am_ok 4 v1 <|
            am_ci (F 195 0 [.ref (72 + 5 * v1.toNatClampNeg), .int x10, .int v4] [] M9) fun x12 M11 => /- Pupil_isHeld -/
            if x12 = 0 then
              am_rt 1 0 M11
            else
              am_rt 1 1 M11
        else
          am_rt 1 ((-2)) M7
      else
        am_rt 1 ((-1)) M5
    else
      am_rt 1 ((-1)) M3
  else
    am_rt 1 ((-1)) M1) = some r) : F 229 0 [.ref 0, .int v1, .int v2, .int v3, .int v4] [] M = some r := by
  refine e_RunSayer_holds hF ?_
  refine (cl_rc (gk_0 hg)).trans ?_
  obtain ⟨x2, M1, k1, h⟩ := iv_ci h; refine (cl_ci k1).trans ?_
  rcases iv_ite h with ⟨hc, h⟩ | ⟨hc, h⟩
  · refine (if_pos hc).trans ?_
    refine (cl_rc (gk_0 hg)).trans ?_
    obtain ⟨x4, M3, k2, h⟩ := iv_ci h; refine (cl_ci k2).trans ?_
    rcases iv_ite h with ⟨hc, h⟩ | ⟨hc, h⟩
    · refine (if_pos hc).trans ?_
      refine (cl_rc (gk_0 hg)).trans ?_
      obtain ⟨x6, M5, k3, h⟩ := iv_ci h; refine (cl_ci k3).trans ?_
      rcases iv_ite h with ⟨hc, h⟩ | ⟨hc, h⟩
      · refine (if_pos hc).trans ?_
        refine (cl_gR (gk_0 hg) (gr_0_1 hg)).trans ?_
        refine (cl_gI (gk_18 hg)).trans ?_
        obtain ⟨x8, M7, k4, h⟩ := iv_ci h; refine (cl_ci k4).trans ?_
        rcases iv_ite h with ⟨hc, h⟩ | ⟨hc, h⟩
        · refine (if_pos hc).trans ?_
          refine (cl_gR (gk_0 hg) (gr_0_3 hg)).trans ?_
          refine (cl_rc (gk_42 hg)).trans ?_
          obtain ⟨x10, M9, k5, h⟩ := iv_ci h; refine (cl_ci k5).trans ?_
          rcases iv_ite h with ⟨hc, h⟩ | ⟨hc, h⟩
          · refine (if_pos hc).trans ?_
            exact h
          · refine (if_neg hc).trans ?_
            refine (cl_gR (gk_0 hg) (gr_0_10 hg)).trans ?_
            obtain ⟨k6, h⟩ := iv_ok h; refine (cl_qa (gk_69 hg) (by decide) (by decide) k6 (gq_69 hg k6)).trans ?_
            have k7 := go_69 hg k6
            refine (cl_rc k7.1).trans ?_
            obtain ⟨x12, M11, k8, h⟩ := iv_ci h; refine (cl_ci k8).trans ?_
            rcases iv_ite h with ⟨hc, h⟩ | ⟨hc, h⟩
            · refine (if_pos hc).trans ?_
              exact h
            · refine (if_neg hc).trans ?_
              exact h
        · refine (if_neg hc).trans ?_
          exact h
      · refine (if_neg hc).trans ?_
        exact h
    · refine (if_neg hc).trans ?_
      exact h
  · refine (if_neg hc).trans ?_
    exact h
theorem s_RunSayer_junctions {g : am_G} {F : am_FT} (hF : F = am_F T0 g) (hg : GG g) {v1 : Int32} {v2 : Int32} {v3 : Int32} {v4 : Int32} {M : am_M} {r : am_R} (h : (
  am_ci (F 153 0 [.int v1] [] M) fun x2 M1 => /- RunSayer_noSheet -/
  if x2 = 0 then
    am_ci (F 72 0 [.int v2, .int 0, .int 2] [] M1) fun x4 M3 => /- RunSayer_outside -/
    if x4 = 0 then
      am_ci (F 72 0 [.int v4, .int 0, .int 30] [] M3) fun x6 M5 => /- RunSayer_outside -/
      if x6 = 0 then
        am_ok 4 v1 <|
        if (fI M5 (210 + 2 * v1.toNatClampNeg) 0) = (-1) then
          am_rt 1 ((-11)) M5
        else
          if (fI M5 (210 + 2 * v1.toNatClampNeg) 0) = v2 then
            F 230 68 [.ref 0, .int v3, .int v4, .ref (210 + 2 * v1.toNatClampNeg), .int 0, .int 0] [] M5
          else
            am_rt 1 ((-13)) M5
      else
        am_rt 1 ((-2)) M5
    else
      am_rt 1 ((-2)) M3
  else
    am_rt 1 ((-2)) M1) = some r) : F 230 0 [.ref 0, .int v1, .int v2, .int v3, .int v4] [] M = some r := by
  refine e_RunSayer_junctions hF ?_
  obtain ⟨x2, M1, k1, h⟩ := iv_ci h; refine (cl_ci k1).trans ?_
  rcases iv_ite h with ⟨hc, h⟩ | ⟨hc, h⟩
  · refine (if_pos hc).trans ?_
    obtain ⟨x4, M3, k2, h⟩ := iv_ci h; refine (cl_ci k2).trans ?_
    rcases iv_ite h with ⟨hc, h⟩ | ⟨hc, h⟩
    · refine (if_pos hc).trans ?_
      obtain ⟨x6, M5, k3, h⟩ := iv_ci h; refine (cl_ci k3).trans ?_
      rcases iv_ite h with ⟨hc, h⟩ | ⟨hc, h⟩
      · refine (if_pos hc).trans ?_
        refine (cl_gR (gk_0 hg) (gr_0_16 hg)).trans ?_
        obtain ⟨k4, h⟩ := iv_ok h; refine (cl_qa (gk_209 hg) (by decide) (by decide) k4 (gq_209 hg k4)).trans ?_
        have k5 := go_209 hg k4
        refine (cl_gI k5.1).trans ?_
        rcases iv_ite h with ⟨hc, h⟩ | ⟨hc, h⟩
        · refine (if_pos hc).trans ?_
          exact h
        · refine (if_neg hc).trans ?_
          refine (cl_gI k5.1).trans ?_
          rcases iv_ite h with ⟨hc, h⟩ | ⟨hc, h⟩
          · refine (if_pos hc).trans ?_
            exact h
          · refine (if_neg hc).trans ?_
            exact h
      · refine (if_neg hc).trans ?_
        exact h
    · refine (if_neg hc).trans ?_
      exact h
  · refine (if_neg hc).trans ?_
    exact h
theorem s_RunSayer_junctions_68 {g : am_G} {F : am_FT} (hF : F = am_F T0 g) (hg : GG g) {v3 : Int32} {v4 : Int32} {a5 : Nat} {v6 : Int32} {v7 : Int32} {M : am_M} (h5 : isSh g a5) {r : am_R} (h : (
  if v4 ≤ v7 then
    am_rt 1 v6 M
  else
    if v3 < 0 then
      am_rt 1 ((-12)) M
    else
      if 100 < v3 then
        am_rt 1 ((-12)) M
      else
        am_ci (F 74 0 [.ref a5, .int (v3 + (3 * v7)), .int 3] [] M) fun x2 M1 => /- Sheet_hasRow -/
        if x2 = 0 then
          am_rt 1 ((-12)) M1
        else
          am_ok 100 ((v3 + (3 * v7))) <|
          am_ok 100 (((v3 + (3 * v7)) + 1)) <|
          am_ok 100 (((v3 + (3 * v7)) + 2)) <|
          am_ci (F 205 0 [.ref 0, .int (rI M1 (a5 + 1) ((v3 + (3 * v7))).toNatClampNeg), .int (rI M1 (a5 + 1) (((v3 + (3 * v7)) + 1)).toNatClampNeg), .int (rI M1 (a5 + 1) (((v3 + (3 * v7)) + 2)).toNatClampNeg)] [] M1) fun x4 M3 => /- RunSayer_junction -/
          if x4 < 0 then
            F 230 68 [.ref 0, .int v3, .int v4, .ref a5, .int v6, .int (v7 + 1)] [] M3
          else
            F 230 68 [.ref 0, .int v3, .int v4, .ref a5, .int (v6 + 1), .int (v7 + 1)] [] M3) = some r) : F 230 68 [.ref 0, .int v3, .int v4, .ref a5, .int v6, .int v7] [] M = some r := by
  refine e_RunSayer_junctions_68 hF ?_
  rcases iv_ite h with ⟨hc, h⟩ | ⟨hc, h⟩
  · refine (if_pos hc).trans ?_
    exact h
  · refine (if_neg hc).trans ?_
    rcases iv_ite h with ⟨hc, h⟩ | ⟨hc, h⟩
    · refine (if_pos hc).trans ?_
      exact h
    · refine (if_neg hc).trans ?_
      rcases iv_ite h with ⟨hc, h⟩ | ⟨hc, h⟩
      · refine (if_pos hc).trans ?_
        exact h
      · refine (if_neg hc).trans ?_
        refine (cl_rc h5.1).trans ?_
        obtain ⟨x2, M1, k1, h⟩ := iv_ci h; refine (cl_ci k1).trans ?_
        rcases iv_ite h with ⟨hc, h⟩ | ⟨hc, h⟩
        · refine (if_pos hc).trans ?_
          exact h
        · refine (if_neg hc).trans ?_
          refine (cl_gR h5.1 h5.2.1).trans ?_
          obtain ⟨k2, h⟩ := iv_ok h; refine (cl_ia h5.2.2 k2).trans ?_
          refine (cl_gR h5.1 h5.2.1).trans ?_
          obtain ⟨k3, h⟩ := iv_ok h; refine (cl_ia h5.2.2 k3).trans ?_
          refine (cl_gR h5.1 h5.2.1).trans ?_
          obtain ⟨k4, h⟩ := iv_ok h; refine (cl_ia h5.2.2 k4).trans ?_
          refine (cl_rc (gk_0 hg)).trans ?_
          obtain ⟨x4, M3, k5, h⟩ := iv_ci h; refine (cl_ci k5).trans ?_
          rcases iv_ite h with ⟨hc, h⟩ | ⟨hc, h⟩
          · refine (if_pos hc).trans ?_
            exact h
          · refine (if_neg hc).trans ?_
            exact h
theorem s_Speech_readFrom {g : am_G} {F : am_FT} (hF : F = am_F T0 g) (hg : GG g) {M : am_M} {r : am_R} (h : (
  am_lt (fW M 63 2 0) fun M1 =>
  am_lt (fW M1 61 2 0) fun M2 =>
  am_cv (F 162 0 [.ref 61] [] M2) fun M3 => /- Tape_skipBlanks -/
  am_cj (F 165 0 [.ref 61] [] M3) fun l5 M4 => /- Tape_takeWord -/
  if (lg_cmp l5 465557354085) = 0 then
    am_cv (F 162 0 [.ref 61] [] M4) fun M6 => /- Tape_skipBlanks -/
    am_cj (F 165 0 [.ref 61] [] M6) fun l8 M7 => /- Tape_takeWord -/
    if (lg_cmp l8 30064) = 0 then
      if (lg_cmp l8 1685026670) = 0 then
        am_lt (fW M7 63 0 1) fun M10 =>
        F 231 84 [.ref 63, .ref 61, .int (fI M6 61 2), .int 0] [] M10
      else
        am_lt (fW M7 63 0 0) fun M9 =>
        F 231 84 [.ref 63, .ref 61, .int (fI M6 61 2), .int 0] [] M9
    else
      if (lg_cmp l8 1685026670) = 0 then
        if (lg_cmp l8 1685026670) = 0 then
          am_lt (fW M7 63 0 1) fun M12 =>
          F 231 84 [.ref 63, .ref 61, .int (fI M6 61 2), .int 0] [] M12
        else
          am_lt (fW M7 63 0 0) fun M11 =>
          F 231 84 [.ref 63, .ref 61, .int (fI M6 61 2), .int 0] [] M11
      else
        am_rt 1 ((fI M6 61 2)) M7
  else
    am_rt 1 ((fI M3 61 2)) M4) = some r) : F 231 0 [.ref 63, .ref 61] [] M = some r := by
  refine e_Speech_readFrom hF ?_
  refine (cl_pI (gk_63 hg)).trans ?_
  replace h := iv_lt h
  refine (cl_pI (gk_61 hg)).trans ?_
  replace h := iv_lt h
  refine (cl_rc (gk_61 hg)).trans ?_
  obtain ⟨M3, k1, h⟩ := iv_cv h; refine (cl_cv k1).trans ?_
  refine (cl_gI (gk_61 hg)).trans ?_
  refine (cl_rc (gk_61 hg)).trans ?_
  obtain ⟨l5, M4, k2, h⟩ := iv_cj h; refine (cl_cj k2).trans ?_
  rcases iv_ite h with ⟨hc, h⟩ | ⟨hc, h⟩
  · refine (if_pos hc).trans ?_
    refine (cl_rc (gk_61 hg)).trans ?_
    obtain ⟨M6, k3, h⟩ := iv_cv h; refine (cl_cv k3).trans ?_
    refine (cl_gI (gk_61 hg)).trans ?_
    refine (cl_rc (gk_61 hg)).trans ?_
    obtain ⟨l8, M7, k4, h⟩ := iv_cj h; refine (cl_cj k4).trans ?_
    rcases iv_ite h with ⟨hc, h⟩ | ⟨hc, h⟩
    · refine (if_pos hc).trans ?_
      rcases iv_ite h with ⟨hc, h⟩ | ⟨hc, h⟩
      · refine (if_pos hc).trans ?_
        refine (cl_pI (gk_63 hg)).trans ?_
        replace h := iv_lt h
        exact h
      · refine (if_neg hc).trans ?_
        refine (cl_pI (gk_63 hg)).trans ?_
        replace h := iv_lt h
        exact h
    · refine (if_neg hc).trans ?_
      rcases iv_ite h with ⟨hc, h⟩ | ⟨hc, h⟩
      · refine (if_pos hc).trans ?_
        rcases iv_ite h with ⟨hc, h⟩ | ⟨hc, h⟩
        · refine (if_pos hc).trans ?_
          refine (cl_pI (gk_63 hg)).trans ?_
          replace h := iv_lt h
          exact h
        · refine (if_neg hc).trans ?_
          refine (cl_pI (gk_63 hg)).trans ?_
          replace h := iv_lt h
          exact h
      · refine (if_neg hc).trans ?_
        exact h
  · refine (if_neg hc).trans ?_
    exact h
theorem s_Speech_readFrom_84 {g : am_G} {F : am_FT} (hF : F = am_F T0 g) (hg : GG g) {v2 : Int32} {v5 : Int32} {M : am_M} {r : am_R} (h : (
  if 20 < v5 then
    am_rt 1 v2 M
  else
    am_cv (F 162 0 [.ref 61] [] M) fun M1 => /- Tape_skipBlanks -/
    am_cj (F 165 0 [.ref 61] [] M1) fun l3 M2 => /- Tape_takeWord -/
    if (lg_cmp l3 7562612) = 0 then
      am_ci (F 214 0 [.ref 63, .ref 61] [] M2) fun x7 M6 => /- Speech_readSetDown -/
      am_rt 1 x7 M6
    else
      if 20 ≤ v5 then
        if (fI M1 61 2) < 0 then
          F 231 84 [.ref 63, .ref 61, .int (fI M1 61 2), .int (v5 + 1)] [] M2
        else
          am_rt 1 ((fI M1 61 2)) M2
      else
        am_ci (F 215 0 [.ref 63, .ref 61, .long l3, .int (fI M1 61 2)] [] M2) fun x5 M4 => /- Speech_readTurn -/
        if x5 < 0 then
          F 231 84 [.ref 63, .ref 61, .int (fI M1 61 2), .int (v5 + 1)] [] M4
        else
          am_rt 1 x5 M4) = some r) : F 231 84 [.ref 63, .ref 61, .int v2, .int v5] [] M = some r := by
  refine e_Speech_readFrom_84 hF ?_
  rcases iv_ite h with ⟨hc, h⟩ | ⟨hc, h⟩
  · refine (if_pos hc).trans ?_
    exact h
  · refine (if_neg hc).trans ?_
    refine (cl_rc (gk_61 hg)).trans ?_
    obtain ⟨M1, k1, h⟩ := iv_cv h; refine (cl_cv k1).trans ?_
    refine (cl_gI (gk_61 hg)).trans ?_
    refine (cl_rc (gk_61 hg)).trans ?_
    obtain ⟨l3, M2, k2, h⟩ := iv_cj h; refine (cl_cj k2).trans ?_
    rcases iv_ite h with ⟨hc, h⟩ | ⟨hc, h⟩
    · refine (if_pos hc).trans ?_
      refine (cl_rc (gk_63 hg)).trans ?_
      obtain ⟨x7, M6, k4, h⟩ := iv_ci h; refine (cl_ci k4).trans ?_
      exact h
    · refine (if_neg hc).trans ?_
      rcases iv_ite h with ⟨hc, h⟩ | ⟨hc, h⟩
      · refine (if_pos hc).trans ?_
        rcases iv_ite h with ⟨hc, h⟩ | ⟨hc, h⟩
        · refine (if_pos hc).trans ?_
          exact h
        · refine (if_neg hc).trans ?_
          exact h
      · refine (if_neg hc).trans ?_
        refine (cl_rc (gk_63 hg)).trans ?_
        obtain ⟨x5, M4, k3, h⟩ := iv_ci h; refine (cl_ci k3).trans ?_
        rcases iv_ite h with ⟨hc, h⟩ | ⟨hc, h⟩
        · refine (if_pos hc).trans ?_
          exact h
        · refine (if_neg hc).trans ?_
          exact h
theorem s_Finder_legCalled {g : am_G} {F : am_FT} (hF : F = am_F T0 g) (hg : GG g) {v1 : Int32} {w2 : Int64} {v4 : Int32} {M : am_M} {r : am_R} (h : (
  am_ci (F 4 0 [.ref 1, .int v1] [] M) fun x2 M1 => /- City_endOf -/
  F 232 17 [.ref 32, .int v1, .long w2, .int v4, .int x2, .int (-2), .int 0] [] M1) = some r) : F 232 0 [.ref 32, .int v1, .long w2, .int v4] [] M = some r := by
  refine e_Finder_legCalled hF ?_
  refine (cl_gR (gk_32 hg) (gr_32_0 hg)).trans ?_
  refine (cl_rc (gk_1 hg)).trans ?_
  obtain ⟨x2, M1, k1, h⟩ := iv_ci h; refine (cl_ci k1).trans ?_
  exact h
theorem s_Finder_legCalled_17 {g : am_G} {F : am_FT} (hF : F = am_F T0 g) (hg : GG g) {v1 : Int32} {w2 : Int64} {v4 : Int32} {v5 : Int32} {v6 : Int32} {v7 : Int32} {M : am_M} {r : am_R} (h : (
  am_ok 24 v5 <|
  if (rI M 17 v5.toNatClampNeg) ≤ v7 then
    am_rt 1 v6 M
  else
    am_ci (F 11 0 [.ref 1, .int v5, .int v7] [] M) fun x2 M1 => /- City_outLeg -/
    if (x2 >>> ((1 : Int32) &&& 31)) = (v1 >>> ((1 : Int32) &&& 31)) then
      F 232 17 [.ref 32, .int v1, .long w2, .int v4, .int v5, .int v6, .int (v7 + 1)] [] M1
    else
      am_ci (F 33 0 [.ref 18, .int (x2 >>> ((1 : Int32) &&& 31)), .long w2, .int (fI M1 18 0)] [] M1) fun x4 M3 => /- Ledger_answersTo -/
      if x4 = 0 then
        F 232 17 [.ref 32, .int v1, .long w2, .int v4, .int v5, .int v6, .int (v7 + 1)] [] M3
      else
        am_ci (F 216 0 [.ref 1, .int v1, .int x2] [] M3) fun x6 M5 => /- City_howTurned -/
        if x6 = v4 then
          am_rt 1 x2 M5
        else
          F 232 17 [.ref 32, .int v1, .long w2, .int v4, .int v5, .int (-3), .int (v7 + 1)] [] M5) = some r) : F 232 17 [.ref 32, .int v1, .long w2, .int v4, .int v5, .int v6, .int v7] [] M = some r := by
  refine e_Finder_legCalled_17 hF ?_
  refine (cl_gR (gk_32 hg) (gr_32_0 hg)).trans ?_
  refine (cl_gR (gk_1 hg) (gr_1_19 hg)).trans ?_
  obtain ⟨k1, h⟩ := iv_ok h; refine (cl_ia (gk_17 hg) k1).trans ?_
  rcases iv_ite h with ⟨hc, h⟩ | ⟨hc, h⟩
  · refine (if_pos hc).trans ?_
    exact h
  · refine (if_neg hc).trans ?_
    refine (cl_gR (gk_32 hg) (gr_32_0 hg)).trans ?_
    refine (cl_rc (gk_1 hg)).trans ?_
    obtain ⟨x2, M1, k2, h⟩ := iv_ci h; refine (cl_ci k2).trans ?_
    rcases iv_ite h with ⟨hc, h⟩ | ⟨hc, h⟩
    · refine (if_pos hc).trans ?_
      exact h
    · refine (if_neg hc).trans ?_
      refine (cl_gR (gk_32 hg) (gr_32_1 hg)).trans ?_
      refine (cl_gR (gk_32 hg) (gr_32_1 hg)).trans ?_
      refine (cl_gI (gk_18 hg)).trans ?_
      refine (cl_rc (gk_18 hg)).trans ?_
      obtain ⟨x4, M3, k3, h⟩ := iv_ci h; refine (cl_ci k3).trans ?_
      rcases iv_ite h with ⟨hc, h⟩ | ⟨hc, h⟩
      · refine (if_pos hc).trans ?_
        exact h
      · refine (if_neg hc).trans ?_
        refine (cl_gR (gk_32 hg) (gr_32_0 hg)).trans ?_
        refine (cl_rc (gk_1 hg)).trans ?_
        obtain ⟨x6, M5, k4, h⟩ := iv_ci h; refine (cl_ci k4).trans ?_
        rcases iv_ite h with ⟨hc, h⟩ | ⟨hc, h⟩
        · refine (if_pos hc).trans ?_
          exact h
        · refine (if_neg hc).trans ?_
          exact h
theorem s_RunSayer_best {g : am_G} {F : am_FT} (hF : F = am_F T0 g) (hg : GG g) {v1 : Int32} {v2 : Int32} {v3 : Int32} {v4 : Int32} {M : am_M} {r : am_R} (h : (
  am_ci (F 149 0 [.ref 0, .int v1, .int v2] [] M) fun x2 M1 => /- RunSayer_noDoors -/
  if x2 = 0 then
    if v1 = v2 then
      am_rt 1 ((-2)) M1
    else
      am_ci (F 150 0 [.int v3] [] M1) fun x4 M3 => /- RunSayer_noHour -/
      if x4 = 0 then
        am_ci (F 148 0 [.int v4] [] M3) fun x6 M5 => /- RunSayer_noBit -/
        if x6 = 0 then
          am_cv (F 218 0 [.ref 32, .int (fI M5 18 0), .int v3, .int (fI M5 18 0)] [] M5) fun M7 => /- Finder_setCity -/
          if v4 = 1 then
            am_ci (F 217 0 [.ref 32, .ref 66, .int v1, .int v2, .int 1] [] M7) fun x11 M10 => /- Finder_findBest -/
            am_rt 1 x11 M10
          else
            am_ci (F 217 0 [.ref 32, .ref 66, .int v1, .int v2, .int 0] [] M7) fun x9 M8 => /- Finder_findBest -/
            am_rt 1 x9 M8
        else
          am_rt 1 ((-2)) M5
      else
        am_rt 1 ((-2)) M3
  else
    am_rt 1 ((-1)) M1) = some r) : F 239 0 [.ref 0, .int v1, .int v2, .int v3, .int v4] [] M = some r := by
  refine e_RunSayer_best hF ?_
  refine (cl_rc (gk_0 hg)).trans ?_
  obtain ⟨x2, M1, k1, h⟩ := iv_ci h; refine (cl_ci k1).trans ?_
  rcases iv_ite h with ⟨hc, h⟩ | ⟨hc, h⟩
  · refine (if_pos hc).trans ?_
    rcases iv_ite h with ⟨hc, h⟩ | ⟨hc, h⟩
    · refine (if_pos hc).trans ?_
      exact h
    · refine (if_neg hc).trans ?_
      obtain ⟨x4, M3, k2, h⟩ := iv_ci h; refine (cl_ci k2).trans ?_
      rcases iv_ite h with ⟨hc, h⟩ | ⟨hc, h⟩
      · refine (if_pos hc).trans ?_
        obtain ⟨x6, M5, k3, h⟩ := iv_ci h; refine (cl_ci k3).trans ?_
        rcases iv_ite h with ⟨hc, h⟩ | ⟨hc, h⟩
        · refine (if_pos hc).trans ?_
          refine (cl_gR (gk_0 hg) (gr_0_2 hg)).trans ?_
          refine (cl_gR (gk_0 hg) (gr_0_1 hg)).trans ?_
          refine (cl_gI (gk_18 hg)).trans ?_
          refine (cl_gR (gk_0 hg) (gr_0_1 hg)).trans ?_
          refine (cl_gI (gk_18 hg)).trans ?_
          refine (cl_rc (gk_32 hg)).trans ?_
          obtain ⟨M7, k4, h⟩ := iv_cv h; refine (cl_cv k4).trans ?_
          refine (cl_gR (gk_0 hg) (gr_0_2 hg)).trans ?_
          refine (cl_gR (gk_0 hg) (gr_0_6 hg)).trans ?_
          rcases iv_ite h with ⟨hc, h⟩ | ⟨hc, h⟩
          · refine (if_pos hc).trans ?_
            refine (cl_rc (gk_32 hg)).trans ?_
            obtain ⟨x11, M10, k6, h⟩ := iv_ci h; refine (cl_ci k6).trans ?_
            exact h
          · refine (if_neg hc).trans ?_
            refine (cl_rc (gk_32 hg)).trans ?_
            obtain ⟨x9, M8, k5, h⟩ := iv_ci h; refine (cl_ci k5).trans ?_
            exact h
        · refine (if_neg hc).trans ?_
          exact h
      · refine (if_neg hc).trans ?_
        exact h
  · refine (if_neg hc).trans ?_
    exact h
theorem s_RunSayer_bestOn {g : am_G} {F : am_FT} (hF : F = am_F T0 g) (hg : GG g) {v1 : Int32} {v2 : Int32} {v3 : Int32} {v4 : Int32} {v5 : Int32} {M : am_M} {r : am_R} (h : (
  am_ci (F 149 0 [.ref 0, .int v1, .int v2] [] M) fun x2 M1 => /- RunSayer_noDoors -/
  if x2 = 0 then
    am_dv 1000 <|
    am_dv 1000 <|
    if v1 = v2 then
      am_rt 1 ((-2)) M1
    else
      am_ci (F 72 0 [.int (v3 / 1000), .int 0, .int 299] [] M1) fun x4 M3 => /- RunSayer_outside -/
      if x4 = 0 then
        am_ci (F 155 0 [.ref 0, .int (v3 - v3 / 1000 * 1000)] [] M3) fun x6 M5 => /- RunSayer_notKnown -/
        if x6 = 0 then
          am_ci (F 150 0 [.int v4] [] M5) fun x8 M7 => /- RunSayer_noHour -/
          if x8 = 0 then
            am_ci (F 148 0 [.int v5] [] M7) fun x10 M9 => /- RunSayer_noBit -/
            if x10 = 0 then
              am_cv (F 218 0 [.ref 32, .int (v3 / 1000), .int v4, .int (v3 - v3 / 1000 * 1000)] [] M9) fun M11 => /- Finder_setCity -/
              if v5 = 1 then
                am_ci (F 217 0 [.ref 32, .ref 66, .int v1, .int v2, .int 1] [] M11) fun x15 M14 => /- Finder_findBest -/
                am_rt 1 x15 M14
              else
                am_ci (F 217 0 [.ref 32, .ref 66, .int v1, .int v2, .int 0] [] M11) fun x13 M12 => /- Finder_findBest -/
                am_rt 1 x13 M12
            else
              am_rt 1 ((-2)) M9
          else
            am_rt 1 ((-2)) M7
        else
          am_rt 1 ((-2)) M5
      else
        am_rt 1 ((-2)) M3
  else
    am_rt 1 ((-1)) M1) = some r) : F 240 0 [.ref 0, .int v1, .int v2, .int v3, .int v4, .int v5] [] M = some r := by
  refine e_RunSayer_bestOn hF ?_
  refine (cl_rc (gk_0 hg)).trans ?_
  obtain ⟨x2, M1, k1, h⟩ := iv_ci h; refine (cl_ci k1).trans ?_
  rcases iv_ite h with ⟨hc, h⟩ | ⟨hc, h⟩
  · refine (if_pos hc).trans ?_
    obtain ⟨k2, h⟩ := iv_dv h; refine (cl_dv k2).trans ?_
    obtain ⟨k3, h⟩ := iv_dv h; refine (cl_dv k3).trans ?_
    rcases iv_ite h with ⟨hc, h⟩ | ⟨hc, h⟩
    · refine (if_pos hc).trans ?_
      exact h
    · refine (if_neg hc).trans ?_
      obtain ⟨x4, M3, k4, h⟩ := iv_ci h; refine (cl_ci k4).trans ?_
      rcases iv_ite h with ⟨hc, h⟩ | ⟨hc, h⟩
      · refine (if_pos hc).trans ?_
        refine (cl_rc (gk_0 hg)).trans ?_
        obtain ⟨x6, M5, k5, h⟩ := iv_ci h; refine (cl_ci k5).trans ?_
        rcases iv_ite h with ⟨hc, h⟩ | ⟨hc, h⟩
        · refine (if_pos hc).trans ?_
          obtain ⟨x8, M7, k6, h⟩ := iv_ci h; refine (cl_ci k6).trans ?_
          rcases iv_ite h with ⟨hc, h⟩ | ⟨hc, h⟩
          · refine (if_pos hc).trans ?_
            obtain ⟨x10, M9, k7, h⟩ := iv_ci h; refine (cl_ci k7).trans ?_
            rcases iv_ite h with ⟨hc, h⟩ | ⟨hc, h⟩
            · refine (if_pos hc).trans ?_
              refine (cl_gR (gk_0 hg) (gr_0_2 hg)).trans ?_
              refine (cl_rc (gk_32 hg)).trans ?_
              obtain ⟨M11, k8, h⟩ := iv_cv h; refine (cl_cv k8).trans ?_
              refine (cl_gR (gk_0 hg) (gr_0_2 hg)).trans ?_
              refine (cl_gR (gk_0 hg) (gr_0_6 hg)).trans ?_
              rcases iv_ite h with ⟨hc, h⟩ | ⟨hc, h⟩
              · refine (if_pos hc).trans ?_
                refine (cl_rc (gk_32 hg)).trans ?_
                obtain ⟨x15, M14, k10, h⟩ := iv_ci h; refine (cl_ci k10).trans ?_
                exact h
              · refine (if_neg hc).trans ?_
                refine (cl_rc (gk_32 hg)).trans ?_
                obtain ⟨x13, M12, k9, h⟩ := iv_ci h; refine (cl_ci k9).trans ?_
                exact h
            · refine (if_neg hc).trans ?_
              exact h
          · refine (if_neg hc).trans ?_
            exact h
        · refine (if_neg hc).trans ?_
          exact h
      · refine (if_neg hc).trans ?_
        exact h
  · refine (if_neg hc).trans ?_
    exact h
theorem s_RunSayer_bound {g : am_G} {F : am_FT} (hF : F = am_F T0 g) (hg : GG g) {v1 : Int32} {v2 : Int32} {v3 : Int32} {v4 : Int32} {M : am_M} {r : am_R} (h : (
  am_ci (F 149 0 [.ref 0, .int v1, .int v2] [] M) fun x2 M1 => /- RunSayer_noDoors -/
  if x2 = 0 then
    if v1 = v2 then
      am_rt 1 ((-2)) M1
    else
      am_ci (F 150 0 [.int v3] [] M1) fun x4 M3 => /- RunSayer_noHour -/
      if x4 = 0 then
        am_ci (F 153 0 [.int v4] [] M3) fun x6 M5 => /- RunSayer_noSheet -/
        if x6 = 0 then
          am_ok 4 v4 <|
          if (fI M5 (210 + 2 * v4.toNatClampNeg) 0) = (-1) then
            am_rt 1 ((-11)) M5
          else
            if (fI M5 (210 + 2 * v4.toNatClampNeg) 0) = 2 then
              am_ci (F 10 0 [.ref 1] [] M5) fun x8 M7 => /- City_legCount -/
              if (fI M5 (210 + 2 * v4.toNatClampNeg) 1) = x8 then
                am_cv (F 218 0 [.ref 32, .int (fI M7 18 0), .int v3, .int (fI M7 18 0)] [] M7) fun M9 => /- Finder_setCity -/
                am_ci (F 168 0 [.ref 32, .ref (210 + 2 * v4.toNatClampNeg + 1), .int v2] [] M9) fun x11 M10 => /- Finder_firstWrong -/
                if x11 < 0 then
                  am_cj (F 95 0 [.ref 32, .ref (210 + 2 * v4.toNatClampNeg + 1), .int v1, .int v2] [] M10) fun l13 M12 => /- Finder_leastByProof -/
                  if (lg_cmp l13 9223372036854775807) = 0 then
                    am_rt 1 ((-1)) M12
                  else
                    am_cj (F 26 0 [.long l13, .long 2147483647] [] M12) fun l15 M14 => /- JMath_min_JJJ -/
                    am_rt 1 l15.toInt32 M14
                else
                  am_rt 1 (((-100) - x11)) M10
              else
                am_rt 1 ((-12)) M7
            else
              am_rt 1 ((-13)) M5
        else
          am_rt 1 ((-2)) M5
      else
        am_rt 1 ((-2)) M3
  else
    am_rt 1 ((-1)) M1) = some r) : F 241 0 [.ref 0, .int v1, .int v2, .int v3, .int v4] [] M = some r := by
  refine e_RunSayer_bound hF ?_
  refine (cl_rc (gk_0 hg)).trans ?_
  obtain ⟨x2, M1, k1, h⟩ := iv_ci h; refine (cl_ci k1).trans ?_
  rcases iv_ite h with ⟨hc, h⟩ | ⟨hc, h⟩
  · refine (if_pos hc).trans ?_
    rcases iv_ite h with ⟨hc, h⟩ | ⟨hc, h⟩
    · refine (if_pos hc).trans ?_
      exact h
    · refine (if_neg hc).trans ?_
      obtain ⟨x4, M3, k2, h⟩ := iv_ci h; refine (cl_ci k2).trans ?_
      rcases iv_ite h with ⟨hc, h⟩ | ⟨hc, h⟩
      · refine (if_pos hc).trans ?_
        obtain ⟨x6, M5, k3, h⟩ := iv_ci h; refine (cl_ci k3).trans ?_
        rcases iv_ite h with ⟨hc, h⟩ | ⟨hc, h⟩
        · refine (if_pos hc).trans ?_
          refine (cl_gR (gk_0 hg) (gr_0_16 hg)).trans ?_
          obtain ⟨k4, h⟩ := iv_ok h; refine (cl_qa (gk_209 hg) (by decide) (by decide) k4 (gq_209 hg k4)).trans ?_
          have k5 := go_209 hg k4
          refine (cl_gI k5.1).trans ?_
          rcases iv_ite h with ⟨hc, h⟩ | ⟨hc, h⟩
          · refine (if_pos hc).trans ?_
            exact h
          · refine (if_neg hc).trans ?_
            refine (cl_gI k5.1).trans ?_
            rcases iv_ite h with ⟨hc, h⟩ | ⟨hc, h⟩
            · refine (if_pos hc).trans ?_
              refine (cl_gI k5.1).trans ?_
              refine (cl_gR (gk_0 hg) (gr_0_0 hg)).trans ?_
              refine (cl_rc (gk_1 hg)).trans ?_
              obtain ⟨x8, M7, k6, h⟩ := iv_ci h; refine (cl_ci k6).trans ?_
              rcases iv_ite h with ⟨hc, h⟩ | ⟨hc, h⟩
              · refine (if_pos hc).trans ?_
                refine (cl_gR (gk_0 hg) (gr_0_2 hg)).trans ?_
                refine (cl_gR (gk_0 hg) (gr_0_1 hg)).trans ?_
                refine (cl_gI (gk_18 hg)).trans ?_
                refine (cl_gR (gk_0 hg) (gr_0_1 hg)).trans ?_
                refine (cl_gI (gk_18 hg)).trans ?_
                refine (cl_rc (gk_32 hg)).trans ?_
                obtain ⟨M9, k7, h⟩ := iv_cv h; refine (cl_cv k7).trans ?_
                refine (cl_gR (gk_0 hg) (gr_0_2 hg)).trans ?_
                refine (cl_gR k5.1 k5.2.1).trans ?_
                refine (cl_rc (gk_32 hg)).trans ?_
                obtain ⟨x11, M10, k8, h⟩ := iv_ci h; refine (cl_ci k8).trans ?_
                rcases iv_ite h with ⟨hc, h⟩ | ⟨hc, h⟩
                · refine (if_pos hc).trans ?_
                  refine (cl_gR (gk_0 hg) (gr_0_2 hg)).trans ?_
                  refine (cl_gR k5.1 k5.2.1).trans ?_
                  refine (cl_rc (gk_32 hg)).trans ?_
                  obtain ⟨l13, M12, k9, h⟩ := iv_cj h; refine (cl_cj k9).trans ?_
                  rcases iv_ite h with ⟨hc, h⟩ | ⟨hc, h⟩
                  · refine (if_pos hc).trans ?_
                    exact h
                  · refine (if_neg hc).trans ?_
                    obtain ⟨l15, M14, k10, h⟩ := iv_cj h; refine (cl_cj k10).trans ?_
                    exact h
                · refine (if_neg hc).trans ?_
                  exact h
              · refine (if_neg hc).trans ?_
                exact h
            · refine (if_neg hc).trans ?_
              exact h
        · refine (if_neg hc).trans ?_
          exact h
      · refine (if_neg hc).trans ?_
        exact h
  · refine (if_neg hc).trans ?_
    exact h
theorem s_RunSayer_knows {g : am_G} {F : am_FT} (hF : F = am_F T0 g) (hg : GG g) {v1 : Int32} {v2 : Int32} {M : am_M} {r : am_R} (h : (
  am_ci (F 152 0 [.ref 0, .int v1] [] M) fun x2 M1 => /- RunSayer_noPupil -/
  if x2 = 0 then
    am_ci (F 72 0 [.int v2, .int (fI M1 18 0), .int 2000] [] M1) fun x4 M3 => /- RunSayer_outside -/
    if x4 = 0 then
      am_ok 4 v1 <|
      am_ci (F 221 0 [.ref 42, .ref (72 + 5 * v1.toNatClampNeg), .int v2] [] M3) fun x6 M5 => /- Links_heldCount -/
      am_rt 1 x6 M5
    else
      am_rt 1 ((-2)) M3
  else
    am_rt 1 ((-1)) M1) = some r) : F 242 0 [.ref 0, .int v1, .int v2] [] M = some r := by
  refine e_RunSayer_knows hF ?_
  refine (cl_rc (gk_0 hg)).trans ?_
  obtain ⟨x2, M1, k1, h⟩ := iv_ci h; refine (cl_ci k1).trans ?_
  rcases iv_ite h with ⟨hc, h⟩ | ⟨hc, h⟩
  · refine (if_pos hc).trans ?_
    refine (cl_gR (gk_0 hg) (gr_0_1 hg)).trans ?_
    refine (cl_gI (gk_18 hg)).trans ?_
    obtain ⟨x4, M3, k2, h⟩ := iv_ci h; refine (cl_ci k2).trans ?_
    rcases iv_ite h with ⟨hc, h⟩ | ⟨hc, h⟩
    · refine (if_pos hc).trans ?_
      refine (cl_gR (gk_0 hg) (gr_0_3 hg)).trans ?_
      refine (cl_gR (gk_0 hg) (gr_0_10 hg)).trans ?_
      obtain ⟨k3, h⟩ := iv_ok h; refine (cl_qa (gk_69 hg) (by decide) (by decide) k3 (gq_69 hg k3)).trans ?_
      have k4 := go_69 hg k3
      refine (cl_rc (gk_42 hg)).trans ?_
      obtain ⟨x6, M5, k5, h⟩ := iv_ci h; refine (cl_ci k5).trans ?_
      exact h
    · refine (if_neg hc).trans ?_
      exact h
  · refine (if_neg hc).trans ?_
    exact h
theorem s_RunSayer_markExam {g : am_G} {F : am_FT} (hF : F = am_F T0 g) (hg : GG g) {a1 : Nat} {M : am_M} (h1 : isEx g a1) {r : am_R} (h : (
  am_cv (F 218 0 [.ref 32, .int (fI M (a1 + 1) 2), .int (fI M (a1 + 1) 3), .int (fI M 18 0)] [] M) fun M1 => /- Finder_setCity -/
  am_ci (F 92 0 [.ref 32, .ref (a1 + 1)] [] M1) fun x3 M2 => /- Finder_allows -/
  if x3 = 0 then
    am_lt (fW M2 a1 3 1) fun M4 =>
    am_ok 4 0 <|
    am_ci (F 217 0 [.ref 32, .ref 70, .int (fI M4 (a1 + 1) 0), .int (fI M4 (a1 + 1) 1), .int 1] [] M4) fun x6 M5 => /- Finder_findBest -/
    am_ok 4 0 <|
    am_cv (F 14 0 [.ref a1, .ref 70] [] M5) fun M7 => /- Exam_compare -/
    F 243 86 [.ref 0, .ref a1, .int 100, .int 0] [] M7
  else
    am_lt (fW M2 a1 3 0) fun M8 =>
    am_ok 4 0 <|
    am_ci (F 217 0 [.ref 32, .ref 70, .int (fI M8 (a1 + 1) 0), .int (fI M8 (a1 + 1) 1), .int 1] [] M8) fun x10 M9 => /- Finder_findBest -/
    am_ok 4 0 <|
    am_cv (F 14 0 [.ref a1, .ref 70] [] M9) fun M11 => /- Exam_compare -/
    F 243 86 [.ref 0, .ref a1, .int 100, .int 0] [] M11) = some r) : F 243 0 [.ref 0, .ref a1] [] M = some r := by
  refine e_RunSayer_markExam hF ?_
  refine (cl_gR h1.1 h1.2.1).trans ?_
  refine (cl_gR (gk_0 hg) (gr_0_2 hg)).trans ?_
  refine (cl_gI h1.2.2.1).trans ?_
  refine (cl_gI h1.2.2.1).trans ?_
  refine (cl_gR (gk_0 hg) (gr_0_1 hg)).trans ?_
  refine (cl_gI (gk_18 hg)).trans ?_
  refine (cl_rc (gk_32 hg)).trans ?_
  obtain ⟨M1, k1, h⟩ := iv_cv h; refine (cl_cv k1).trans ?_
  refine (cl_gR (gk_0 hg) (gr_0_2 hg)).trans ?_
  refine (cl_rc (gk_32 hg)).trans ?_
  obtain ⟨x3, M2, k2, h⟩ := iv_ci h; refine (cl_ci k2).trans ?_
  rcases iv_ite h with ⟨hc, h⟩ | ⟨hc, h⟩
  · refine (if_pos hc).trans ?_
    refine (cl_pI h1.1).trans ?_
    replace h := iv_lt h
    refine (cl_gR (gk_0 hg) (gr_0_2 hg)).trans ?_
    refine (cl_gR (gk_0 hg) (gr_0_7 hg)).trans ?_
    obtain ⟨k3, h⟩ := iv_ok h; refine (cl_qa (gk_68 hg) (by decide) (by decide) k3 (q := 70) (gq_68 hg k3)).trans ?_
    refine (cl_gI h1.2.2.1).trans ?_
    refine (cl_gI h1.2.2.1).trans ?_
    refine (cl_rc (gk_32 hg)).trans ?_
    obtain ⟨x6, M5, k5, h⟩ := iv_ci h; refine (cl_ci k5).trans ?_
    refine (cl_gR (gk_0 hg) (gr_0_7 hg)).trans ?_
    obtain ⟨k6, h⟩ := iv_ok h; refine (cl_qa (gk_68 hg) (by decide) (by decide) k6 (q := 70) (gq_68 hg k6)).trans ?_
    refine (cl_rc h1.1).trans ?_
    obtain ⟨M7, k8, h⟩ := iv_cv h; refine (cl_cv k8).trans ?_
    exact h
  · refine (if_neg hc).trans ?_
    refine (cl_pI h1.1).trans ?_
    replace h := iv_lt h
    refine (cl_gR (gk_0 hg) (gr_0_2 hg)).trans ?_
    refine (cl_gR (gk_0 hg) (gr_0_7 hg)).trans ?_
    obtain ⟨k9, h⟩ := iv_ok h; refine (cl_qa (gk_68 hg) (by decide) (by decide) k9 (q := 70) (gq_68 hg k9)).trans ?_
    refine (cl_gI h1.2.2.1).trans ?_
    refine (cl_gI h1.2.2.1).trans ?_
    refine (cl_rc (gk_32 hg)).trans ?_
    obtain ⟨x10, M9, k11, h⟩ := iv_ci h; refine (cl_ci k11).trans ?_
    refine (cl_gR (gk_0 hg) (gr_0_7 hg)).trans ?_
    obtain ⟨k12, h⟩ := iv_ok h; refine (cl_qa (gk_68 hg) (by decide) (by decide) k12 (q := 70) (gq_68 hg k12)).trans ?_
    refine (cl_rc h1.1).trans ?_
    obtain ⟨M11, k14, h⟩ := iv_cv h; refine (cl_cv k14).trans ?_
    exact h
theorem s_RunSayer_markExam_86 {g : am_G} {F : am_FT} (hF : F = am_F T0 g) (hg : GG g) {a1 : Nat} {v3 : Int32} {v4 : Int32} {M : am_M} (h1 : isEx g a1) {r : am_R} (h : (
  if (fI M 0 13) ≤ v4 then
    am_ci (F 24 0 [.int v3, .int 0] [] M) fun x2 M1 => /- JMath_max -/
    am_lt (fW M1 a1 1 x2) fun M3 =>
    am_lt (fW M3 a1 2 ((fI M3 18 0))) fun M4 =>
    some (none, M4)
  else
    am_ok 6 v4 <|
    am_ci (F 196 0 [.ref (112 + 4 * v4.toNatClampNeg), .ref a1] [] M) fun x6 M5 => /- Rule_appliesTo -/
    if x6 = 0 then
      F 243 86 [.ref 0, .ref a1, .int v3, .int (v4 + 1)] [] M5
    else
      am_ok 6 v4 <|
      F 243 86 [.ref 0, .ref a1, .int (v3 - (fI M5 (112 + 4 * v4.toNatClampNeg) 0)), .int (v4 + 1)] [] M5) = some r) : F 243 86 [.ref 0, .ref a1, .int v3, .int v4] [] M = some r := by
  refine e_RunSayer_markExam_86 hF ?_
  refine (cl_gI (gk_0 hg)).trans ?_
  rcases iv_ite h with ⟨hc, h⟩ | ⟨hc, h⟩
  · refine (if_pos hc).trans ?_
    obtain ⟨x2, M1, k1, h⟩ := iv_ci h; refine (cl_ci k1).trans ?_
    refine (cl_pI h1.1).trans ?_
    replace h := iv_lt h
    refine (cl_gR (gk_0 hg) (gr_0_1 hg)).trans ?_
    refine (cl_gI (gk_18 hg)).trans ?_
    refine (cl_pI h1.1).trans ?_
    replace h := iv_lt h
    exact h
  · refine (if_neg hc).trans ?_
    refine (cl_gR (gk_0 hg) (gr_0_12 hg)).trans ?_
    obtain ⟨k2, h⟩ := iv_ok h; refine (cl_qa (gk_111 hg) (by decide) (by decide) k2 (gq_111 hg k2)).trans ?_
    have k3 := go_111 hg k2
    refine (cl_rc k3.1).trans ?_
    obtain ⟨x6, M5, k4, h⟩ := iv_ci h; refine (cl_ci k4).trans ?_
    rcases iv_ite h with ⟨hc, h⟩ | ⟨hc, h⟩
    · refine (if_pos hc).trans ?_
      exact h
    · refine (if_neg hc).trans ?_
      refine (cl_gR (gk_0 hg) (gr_0_12 hg)).trans ?_
      obtain ⟨k5, h⟩ := iv_ok h; refine (cl_qa (gk_111 hg) (by decide) (by decide) k5 (gq_111 hg k5)).trans ?_
      have k6 := go_111 hg k5
      refine (cl_gI k6.1).trans ?_
      exact h
theorem s_RunSayer_plan {g : am_G} {F : am_FT} (hF : F = am_F T0 g) (hg : GG g) {v1 : Int32} {v2 : Int32} {v3 : Int32} {v4 : Int32} {M : am_M} {r : am_R} (h : (
  am_ci (F 152 0 [.ref 0, .int v1] [] M) fun x2 M1 => /- RunSayer_noPupil -/
  if x2 = 0 then
    if (v2 >>> ((fI M1 0 9) &&& 31)) = 0 then
      am_ci (F 22 0 [.int v2] [] M1) fun x4 M3 => /- JInteger_bitCount -/
      am_ci (F 72 0 [.int x4, .int 1, .int 4] [] M3) fun x6 M5 => /- RunSayer_outside -/
      if x6 = 0 then
        am_ci (F 72 0 [.int v3, .int 1, .int 4] [] M5) fun x8 M7 => /- RunSayer_outside -/
        if x8 = 0 then
          am_ci (F 72 0 [.int v4, .int (((fI M7 18 0) + v3) - 1), .int 2000] [] M7) fun x10 M9 => /- RunSayer_outside -/
          if x10 = 0 then
            am_cv (F 37 0 [.ref 42, .int v2] [] M9) fun M11 => /- Links_gather -/
            am_lt (fW M11 0 18 v3) fun M12 =>
            am_ok 4 v1 <|
            am_ci (F 222 0 [.ref 42, .ref (72 + 5 * v1.toNatClampNeg), .ref 218, .int v3, .int (fI M12 18 0), .int v4] [] M12) fun x14 M13 => /- Links_planRides -/
            am_rt 1 x14 M13
          else
            am_rt 1 ((-2)) M9
        else
          am_rt 1 ((-2)) M7
      else
        am_rt 1 ((-2)) M5
    else
      am_rt 1 ((-1)) M1
  else
    am_rt 1 ((-1)) M1) = some r) : F 244 0 [.ref 0, .int v1, .int v2, .int v3, .int v4] [] M = some r := by
  refine e_RunSayer_plan hF ?_
  refine (cl_rc (gk_0 hg)).trans ?_
  obtain ⟨x2, M1, k1, h⟩ := iv_ci h; refine (cl_ci k1).trans ?_
  rcases iv_ite h with ⟨hc, h⟩ | ⟨hc, h⟩
  · refine (if_pos hc).trans ?_
    refine (cl_gI (gk_0 hg)).trans ?_
    rcases iv_ite h with ⟨hc, h⟩ | ⟨hc, h⟩
    · refine (if_pos hc).trans ?_
      obtain ⟨x4, M3, k2, h⟩ := iv_ci h; refine (cl_ci k2).trans ?_
      obtain ⟨x6, M5, k3, h⟩ := iv_ci h; refine (cl_ci k3).trans ?_
      rcases iv_ite h with ⟨hc, h⟩ | ⟨hc, h⟩
      · refine (if_pos hc).trans ?_
        obtain ⟨x8, M7, k4, h⟩ := iv_ci h; refine (cl_ci k4).trans ?_
        rcases iv_ite h with ⟨hc, h⟩ | ⟨hc, h⟩
        · refine (if_pos hc).trans ?_
          refine (cl_gR (gk_0 hg) (gr_0_1 hg)).trans ?_
          refine (cl_gI (gk_18 hg)).trans ?_
          obtain ⟨x10, M9, k5, h⟩ := iv_ci h; refine (cl_ci k5).trans ?_
          rcases iv_ite h with ⟨hc, h⟩ | ⟨hc, h⟩
          · refine (if_pos hc).trans ?_
            refine (cl_gR (gk_0 hg) (gr_0_3 hg)).trans ?_
            refine (cl_rc (gk_42 hg)).trans ?_
            obtain ⟨M11, k6, h⟩ := iv_cv h; refine (cl_cv k6).trans ?_
            refine (cl_pI (gk_0 hg)).trans ?_
            replace h := iv_lt h
            refine (cl_gR (gk_0 hg) (gr_0_3 hg)).trans ?_
            refine (cl_gR (gk_0 hg) (gr_0_10 hg)).trans ?_
            obtain ⟨k7, h⟩ := iv_ok h; refine (cl_qa (gk_69 hg) (by decide) (by decide) k7 (gq_69 hg k7)).trans ?_
            have k8 := go_69 hg k7
            refine (cl_gR (gk_0 hg) (gr_0_17 hg)).trans ?_
            refine (cl_gR (gk_0 hg) (gr_0_1 hg)).trans ?_
            refine (cl_gI (gk_18 hg)).trans ?_
            refine (cl_rc (gk_42 hg)).trans ?_
            obtain ⟨x14, M13, k9, h⟩ := iv_ci h; refine (cl_ci k9).trans ?_
            exact h
          · refine (if_neg hc).trans ?_
            exact h
        · refine (if_neg hc).trans ?_
          exact h
      · refine (if_neg hc).trans ?_
        exact h
    · refine (if_neg hc).trans ?_
      exact h
  · refine (if_neg hc).trans ?_
    exact h
theorem s_RunSayer_prove {g : am_G} {F : am_FT} (hF : F = am_F T0 g) (hg : GG g) {v1 : Int32} {v2 : Int32} {v3 : Int32} {M : am_M} {r : am_R} (h : (
  am_ci (F 149 0 [.ref 0, .int v1, .int v2] [] M) fun x2 M1 => /- RunSayer_noDoors -/
  if x2 = 0 then
    if v1 = v2 then
      am_rt 1 ((-2)) M1
    else
      am_ci (F 150 0 [.int v3] [] M1) fun x4 M3 => /- RunSayer_noHour -/
      if x4 = 0 then
        am_cv (F 218 0 [.ref 32, .int (fI M3 18 0), .int v3, .int (fI M3 18 0)] [] M3) fun M5 => /- Finder_setCity -/
        am_ci (F 10 0 [.ref 1] [] M5) fun x7 M6 => /- City_legCount -/
        am_ok 4 0 <|
        am_cv (F 73 0 [.ref 210, .int 2, .int x7] [] M6) fun M8 => /- Sheet_become -/
        am_ok 4 0 <|
        am_cv (F 220 0 [.ref 32, .ref 211, .int v1, .int v2] [] M8) fun M9 => /- Finder_writeProof -/
        am_rt 1 x7 M9
      else
        am_rt 1 ((-2)) M3
  else
    am_rt 1 ((-1)) M1) = some r) : F 245 0 [.ref 0, .int v1, .int v2, .int v3] [] M = some r := by
  refine e_RunSayer_prove hF ?_
  refine (cl_rc (gk_0 hg)).trans ?_
  obtain ⟨x2, M1, k1, h⟩ := iv_ci h; refine (cl_ci k1).trans ?_
  rcases iv_ite h with ⟨hc, h⟩ | ⟨hc, h⟩
  · refine (if_pos hc).trans ?_
    rcases iv_ite h with ⟨hc, h⟩ | ⟨hc, h⟩
    · refine (if_pos hc).trans ?_
      exact h
    · refine (if_neg hc).trans ?_
      obtain ⟨x4, M3, k2, h⟩ := iv_ci h; refine (cl_ci k2).trans ?_
      rcases iv_ite h with ⟨hc, h⟩ | ⟨hc, h⟩
      · refine (if_pos hc).trans ?_
        refine (cl_gR (gk_0 hg) (gr_0_2 hg)).trans ?_
        refine (cl_gR (gk_0 hg) (gr_0_1 hg)).trans ?_
        refine (cl_gI (gk_18 hg)).trans ?_
        refine (cl_gR (gk_0 hg) (gr_0_1 hg)).trans ?_
        refine (cl_gI (gk_18 hg)).trans ?_
        refine (cl_rc (gk_32 hg)).trans ?_
        obtain ⟨M5, k3, h⟩ := iv_cv h; refine (cl_cv k3).trans ?_
        refine (cl_gR (gk_0 hg) (gr_0_0 hg)).trans ?_
        refine (cl_rc (gk_1 hg)).trans ?_
        obtain ⟨x7, M6, k4, h⟩ := iv_ci h; refine (cl_ci k4).trans ?_
        refine (cl_gR (gk_0 hg) (gr_0_16 hg)).trans ?_
        obtain ⟨k5, h⟩ := iv_ok h; refine (cl_qa (gk_209 hg) (by decide) (by decide) k5 (q := 210) (gq_209 hg k5)).trans ?_
        refine (cl_rc (gk_210 hg)).trans ?_
        obtain ⟨M8, k7, h⟩ := iv_cv h; refine (cl_cv k7).trans ?_
        refine (cl_gR (gk_0 hg) (gr_0_2 hg)).trans ?_
        refine (cl_gR (gk_0 hg) (gr_0_16 hg)).trans ?_
        obtain ⟨k8, h⟩ := iv_ok h; refine (cl_qa (gk_209 hg) (by decide) (by decide) k8 (q := 210) (gq_209 hg k8)).trans ?_
        refine (cl_gR (gk_210 hg) (gr_210_2 hg)).trans ?_
        refine (cl_rc (gk_32 hg)).trans ?_
        obtain ⟨M9, k10, h⟩ := iv_cv h; refine (cl_cv k10).trans ?_
        exact h
      · refine (if_neg hc).trans ?_
        exact h
  · refine (if_neg hc).trans ?_
    exact h
theorem s_RunSayer_ride {g : am_G} {F : am_FT} (hF : F = am_F T0 g) (hg : GG g) {v1 : Int32} {v2 : Int32} {M : am_M} {r : am_R} (h : (
  am_ci (F 152 0 [.ref 0, .int v1] [] M) fun x2 M1 => /- RunSayer_noPupil -/
  if x2 = 0 then
    am_ci (F 72 0 [.int v2, .int 0, .int ((fI M1 0 9) - 1)] [] M1) fun x4 M3 => /- RunSayer_outside -/
    if x4 = 0 then
      am_ok 4 v1 <|
      am_cv (F 176 0 [.ref 42, .ref (72 + 5 * v1.toNatClampNeg), .int v2, .int (fI M3 18 0)] [] M3) fun M5 => /- Links_rideRun -/
      am_ok 4 v1 <|
      am_ci (F 221 0 [.ref 42, .ref (72 + 5 * v1.toNatClampNeg), .int (fI M5 18 0)] [] M5) fun x7 M6 => /- Links_heldCount -/
      am_rt 1 x7 M6
    else
      am_rt 1 ((-1)) M3
  else
    am_rt 1 ((-1)) M1) = some r) : F 246 0 [.ref 0, .int v1, .int v2] [] M = some r := by
  refine e_RunSayer_ride hF ?_
  refine (cl_rc (gk_0 hg)).trans ?_
  obtain ⟨x2, M1, k1, h⟩ := iv_ci h; refine (cl_ci k1).trans ?_
  rcases iv_ite h with ⟨hc, h⟩ | ⟨hc, h⟩
  · refine (if_pos hc).trans ?_
    refine (cl_gI (gk_0 hg)).trans ?_
    obtain ⟨x4, M3, k2, h⟩ := iv_ci h; refine (cl_ci k2).trans ?_
    rcases iv_ite h with ⟨hc, h⟩ | ⟨hc, h⟩
    · refine (if_pos hc).trans ?_
      refine (cl_gR (gk_0 hg) (gr_0_3 hg)).trans ?_
      refine (cl_gR (gk_0 hg) (gr_0_10 hg)).trans ?_
      obtain ⟨k3, h⟩ := iv_ok h; refine (cl_qa (gk_69 hg) (by decide) (by decide) k3 (gq_69 hg k3)).trans ?_
      have k4 := go_69 hg k3
      refine (cl_gR (gk_0 hg) (gr_0_1 hg)).trans ?_
      refine (cl_gI (gk_18 hg)).trans ?_
      refine (cl_rc (gk_42 hg)).trans ?_
      obtain ⟨M5, k5, h⟩ := iv_cv h; refine (cl_cv k5).trans ?_
      refine (cl_gR (gk_0 hg) (gr_0_3 hg)).trans ?_
      refine (cl_gR (gk_0 hg) (gr_0_10 hg)).trans ?_
      obtain ⟨k6, h⟩ := iv_ok h; refine (cl_qa (gk_69 hg) (by decide) (by decide) k6 (gq_69 hg k6)).trans ?_
      have k7 := go_69 hg k6
      refine (cl_gR (gk_0 hg) (gr_0_1 hg)).trans ?_
      refine (cl_gI (gk_18 hg)).trans ?_
      refine (cl_rc (gk_42 hg)).trans ?_
      obtain ⟨x7, M6, k8, h⟩ := iv_ci h; refine (cl_ci k8).trans ?_
      exact h
    · refine (if_neg hc).trans ?_
      exact h
  · refine (if_neg hc).trans ?_
    exact h
theorem s_RunSayer_sayByHeart {g : am_G} {F : am_FT} (hF : F = am_F T0 g) (hg : GG g) {a1 : Nat} {v2 : Int32} {v3 : Int32} {v4 : Int32} {M : am_M} (h1 : isRt g a1) {r : am_R} (h : (
  am_ok 4 v2 <|
  am_cv (F 219 0 [.ref 32, .ref 42, .ref (72 + 5 * v2.toNatClampNeg)] [] M) fun M1 => /- Finder_setHeld -/
  am_ci (F 217 0 [.ref 32, .ref a1, .int v3, .int v4, .int 0] [] M1) fun x3 M2 => /- Finder_findBest -/
  am_rt 1 x3 M2) = some r) : F 247 0 [.ref 0, .ref a1, .int v2, .int v3, .int v4] [] M = some r := by
  refine e_RunSayer_sayByHeart hF ?_
  refine (cl_gR (gk_0 hg) (gr_0_2 hg)).trans ?_
  refine (cl_gR (gk_0 hg) (gr_0_3 hg)).trans ?_
  refine (cl_gR (gk_0 hg) (gr_0_10 hg)).trans ?_
  obtain ⟨k1, h⟩ := iv_ok h; refine (cl_qa (gk_69 hg) (by decide) (by decide) k1 (gq_69 hg k1)).trans ?_
  have k2 := go_69 hg k1
  refine (cl_rc (gk_32 hg)).trans ?_
  obtain ⟨M1, k3, h⟩ := iv_cv h; refine (cl_cv k3).trans ?_
  refine (cl_gR (gk_0 hg) (gr_0_2 hg)).trans ?_
  refine (cl_rc (gk_32 hg)).trans ?_
  obtain ⟨x3, M2, k4, h⟩ := iv_ci h; refine (cl_ci k4).trans ?_
  exact h
theorem s_RunSayer_turn {g : am_G} {F : am_FT} (hF : F = am_F T0 g) (hg : GG g) {v1 : Int32} {v2 : Int32} {M : am_M} {r : am_R} (h : (
  am_ci (F 151 0 [.ref 0, .int v1] [] M) fun x2 M1 => /- RunSayer_noLeg -/
  if x2 = 0 then
    am_ci (F 151 0 [.ref 0, .int v2] [] M1) fun x4 M3 => /- RunSayer_noLeg -/
    if x4 = 0 then
      am_ci (F 86 0 [.ref 1, .int v1, .int v2] [] M3) fun x6 M5 => /- City_follows -/
      if x6 = 0 then
        am_rt 1 ((-3)) M5
      else
        am_ci (F 216 0 [.ref 1, .int v1, .int v2] [] M5) fun x8 M7 => /- City_howTurned -/
        am_rt 1 x8 M7
    else
      am_rt 1 ((-1)) M3
  else
    am_rt 1 ((-1)) M1) = some r) : F 248 0 [.ref 0, .int v1, .int v2] [] M = some r := by
  refine e_RunSayer_turn hF ?_
  refine (cl_rc (gk_0 hg)).trans ?_
  obtain ⟨x2, M1, k1, h⟩ := iv_ci h; refine (cl_ci k1).trans ?_
  rcases iv_ite h with ⟨hc, h⟩ | ⟨hc, h⟩
  · refine (if_pos hc).trans ?_
    refine (cl_rc (gk_0 hg)).trans ?_
    obtain ⟨x4, M3, k2, h⟩ := iv_ci h; refine (cl_ci k2).trans ?_
    rcases iv_ite h with ⟨hc, h⟩ | ⟨hc, h⟩
    · refine (if_pos hc).trans ?_
      refine (cl_gR (gk_0 hg) (gr_0_0 hg)).trans ?_
      refine (cl_rc (gk_1 hg)).trans ?_
      obtain ⟨x6, M5, k3, h⟩ := iv_ci h; refine (cl_ci k3).trans ?_
      rcases iv_ite h with ⟨hc, h⟩ | ⟨hc, h⟩
      · refine (if_pos hc).trans ?_
        exact h
      · refine (if_neg hc).trans ?_
        refine (cl_gR (gk_0 hg) (gr_0_0 hg)).trans ?_
        refine (cl_rc (gk_1 hg)).trans ?_
        obtain ⟨x8, M7, k4, h⟩ := iv_ci h; refine (cl_ci k4).trans ?_
        exact h
    · refine (if_neg hc).trans ?_
      exact h
  · refine (if_neg hc).trans ?_
    exact h
theorem s_Finder_driveSpeech {g : am_G} {F : am_FT} (hF : F = am_F T0 g) (hg : GG g) {a2 : Nat} {M : am_M} (h2 : isRt g a2) {r : am_R} (h : (
  am_ok 8 ((fI M a2 0)) <|
  am_ok 80 (((2 * (rI M 11 ((fI M a2 0)).toNatClampNeg)) + (fI M 63 0))) <|
  if (rI M 33 (((2 * (rI M 11 ((fI M a2 0)).toNatClampNeg)) + (fI M 63 0))).toNatClampNeg) = 0 then
    am_rt 1 1 M
  else
    am_cv (F 66 0 [.ref a2, .int ((2 * (rI M 11 ((fI M a2 0)).toNatClampNeg)) + (fI M 63 0))] [] M) fun M1 => /- Route_add -/
    F 249 39 [.ref 32, .ref 63, .ref a2, .int ((2 * (rI M 11 ((fI M a2 0)).toNatClampNeg)) + (fI M 63 0)), .int 0] [] M1) = some r) : F 249 0 [.ref 32, .ref 63, .ref a2] [] M = some r := by
  refine e_Finder_driveSpeech hF ?_
  refine (cl_gR (gk_32 hg) (gr_32_0 hg)).trans ?_
  refine (cl_gR (gk_1 hg) (gr_1_11 hg)).trans ?_
  refine (cl_gI h2.1).trans ?_
  obtain ⟨k1, h⟩ := iv_ok h; refine (cl_ia (gk_11 hg) k1).trans ?_
  refine (cl_gI (gk_63 hg)).trans ?_
  refine (cl_gR (gk_32 hg) (gr_32_2 hg)).trans ?_
  obtain ⟨k2, h⟩ := iv_ok h; refine (cl_za (gk_33 hg) k2).trans ?_
  rcases iv_ite h with ⟨hc, h⟩ | ⟨hc, h⟩
  · refine (if_pos hc).trans ?_
    exact h
  · refine (if_neg hc).trans ?_
    refine (cl_rc h2.1).trans ?_
    obtain ⟨M1, k3, h⟩ := iv_cv h; refine (cl_cv k3).trans ?_
    exact h
theorem s_Finder_driveSpeech_39 {g : am_G} {F : am_FT} (hF : F = am_F T0 g) (hg : GG g) {a2 : Nat} {v3 : Int32} {v4 : Int32} {M : am_M} (h2 : isRt g a2) {r : am_R} (h : (
  if (fI M 63 2) ≤ v4 then
    am_ci (F 101 0 [.ref 32, .int v3, .ref a2, .int (fI M 63 1)] [] M) fun x2 M1 => /- Finder_whyNotSetDown -/
    if x2 = 0 then
      am_rt 1 0 M1
    else
      am_rt 1 (((10 * (fI M1 63 2)) + x2)) M1
  else
    am_ok 20 v4 <|
    am_ok 20 v4 <|
    am_ci (F 232 0 [.ref 32, .int v3, .long (rJ M 65 v4.toNatClampNeg), .int (rI M 64 v4.toNatClampNeg)] [] M) fun x4 M3 => /- Finder_legCalled -/
    if 0 ≤ x4 then
      am_ci (F 100 0 [.ref 32, .int v3, .int x4] [] M3) fun x6 M5 => /- Finder_whyNotInto -/
      if x6 = 0 then
        am_cv (F 66 0 [.ref a2, .int x4] [] M5) fun M7 => /- Route_add -/
        F 249 39 [.ref 32, .ref 63, .ref a2, .int x4, .int (v4 + 1)] [] M7
      else
        am_rt 1 (((10 * (v4 + 1)) + x6)) M5
    else
      if (-x4) = 0 then
        am_cv (F 66 0 [.ref a2, .int x4] [] M3) fun M8 => /- Route_add -/
        F 249 39 [.ref 32, .ref 63, .ref a2, .int x4, .int (v4 + 1)] [] M8
      else
        am_rt 1 (((10 * (v4 + 1)) + (-x4))) M3) = some r) : F 249 39 [.ref 32, .ref 63, .ref a2, .int v3, .int v4] [] M = some r := by
  refine e_Finder_driveSpeech_39 hF ?_
  refine (cl_gI (gk_63 hg)).trans ?_
  rcases iv_ite h with ⟨hc, h⟩ | ⟨hc, h⟩
  · refine (if_pos hc).trans ?_
    refine (cl_gI (gk_63 hg)).trans ?_
    refine (cl_rc (gk_32 hg)).trans ?_
    obtain ⟨x2, M1, k1, h⟩ := iv_ci h; refine (cl_ci k1).trans ?_
    rcases iv_ite h with ⟨hc, h⟩ | ⟨hc, h⟩
    · refine (if_pos hc).trans ?_
      exact h
    · refine (if_neg hc).trans ?_
      refine (cl_gI (gk_63 hg)).trans ?_
      exact h
  · refine (if_neg hc).trans ?_
    refine (cl_gR (gk_63 hg) (gr_63_4 hg)).trans ?_
    obtain ⟨k2, h⟩ := iv_ok h; refine (cl_la (gk_65 hg) k2).trans ?_
    refine (cl_gR (gk_63 hg) (gr_63_3 hg)).trans ?_
    obtain ⟨k3, h⟩ := iv_ok h; refine (cl_ia (gk_64 hg) k3).trans ?_
    refine (cl_rc (gk_32 hg)).trans ?_
    obtain ⟨x4, M3, k4, h⟩ := iv_ci h; refine (cl_ci k4).trans ?_
    rcases iv_ite h with ⟨hc, h⟩ | ⟨hc, h⟩
    · refine (if_pos hc).trans ?_
      refine (cl_rc (gk_32 hg)).trans ?_
      obtain ⟨x6, M5, k5, h⟩ := iv_ci h; refine (cl_ci k5).trans ?_
      rcases iv_ite h with ⟨hc, h⟩ | ⟨hc, h⟩
      · refine (if_pos hc).trans ?_
        refine (cl_rc h2.1).trans ?_
        obtain ⟨M7, k6, h⟩ := iv_cv h; refine (cl_cv k6).trans ?_
        exact h
      · refine (if_neg hc).trans ?_
        exact h
    · refine (if_neg hc).trans ?_
      rcases iv_ite h with ⟨hc, h⟩ | ⟨hc, h⟩
      · refine (if_pos hc).trans ?_
        refine (cl_rc h2.1).trans ?_
        obtain ⟨M8, k7, h⟩ := iv_cv h; refine (cl_cv k7).trans ?_
        exact h
      · refine (if_neg hc).trans ?_
        exact h
theorem s_RunSayer_appeal {g : am_G} {F : am_FT} (hF : F = am_F T0 g) (hg : GG g) {v1 : Int32} {M : am_M} {r : am_R} (h : (
  am_ci (F 72 0 [.int v1, .int 0, .int ((fI M 0 15) - 1)] [] M) fun x2 M1 => /- RunSayer_outside -/
  if x2 = 0 then
    am_ok 24 v1 <|
    am_ok 24 v1 <|
    am_cv (F 243 0 [.ref 0, .ref (137 + 3 * v1.toNatClampNeg)] [] M1) fun M3 => /- RunSayer_markExam -/
    am_ok 24 v1 <|
    am_rt 1 (((fI M3 (137 + 3 * v1.toNatClampNeg) 1) - (fI M1 (137 + 3 * v1.toNatClampNeg) 1))) M3
  else
    am_rt 1 ((-1)) M1) = some r) : F 253 0 [.ref 0, .int v1] [] M = some r := by
  refine e_RunSayer_appeal hF ?_
  refine (cl_gI (gk_0 hg)).trans ?_
  obtain ⟨x2, M1, k1, h⟩ := iv_ci h; refine (cl_ci k1).trans ?_
  rcases iv_ite h with ⟨hc, h⟩ | ⟨hc, h⟩
  · refine (if_pos hc).trans ?_
    refine (cl_gR (gk_0 hg) (gr_0_14 hg)).trans ?_
    obtain ⟨k2, h⟩ := iv_ok h; refine (cl_qa (gk_136 hg) (by decide) (by decide) k2 (gq_136 hg k2)).trans ?_
    have k3 := go_136 hg k2
    refine (cl_gI k3.1).trans ?_
    refine (cl_gR (gk_0 hg) (gr_0_14 hg)).trans ?_
    obtain ⟨k4, h⟩ := iv_ok h; refine (cl_qa (gk_136 hg) (by decide) (by decide) k4 (gq_136 hg k4)).trans ?_
    have k5 := go_136 hg k4
    refine (cl_rc (gk_0 hg)).trans ?_
    obtain ⟨M3, k6, h⟩ := iv_cv h; refine (cl_cv k6).trans ?_
    refine (cl_gR (gk_0 hg) (gr_0_14 hg)).trans ?_
    obtain ⟨k7, h⟩ := iv_ok h; refine (cl_qa (gk_136 hg) (by decide) (by decide) k7 (gq_136 hg k7)).trans ?_
    have k8 := go_136 hg k7
    refine (cl_gI k8.1).trans ?_
    exact h
  · refine (if_neg hc).trans ?_
    exact h
theorem s_RunSayer_ask {g : am_G} {F : am_FT} (hF : F = am_F T0 g) (hg : GG g) {v1 : Int32} {v2 : Int32} {v3 : Int32} {v4 : Int32} {M : am_M} {r : am_R} (h : (
  am_ci (F 152 0 [.ref 0, .int v1] [] M) fun x2 M1 => /- RunSayer_noPupil -/
  if x2 = 0 then
    am_ci (F 149 0 [.ref 0, .int v2, .int v3] [] M1) fun x4 M3 => /- RunSayer_noDoors -/
    if x4 = 0 then
      if v2 = v3 then
        am_rt 1 ((-2)) M3
      else
        am_ci (F 150 0 [.int v4] [] M3) fun x6 M5 => /- RunSayer_noHour -/
        if x6 = 0 then
          if (fI M5 0 15) < 24 then
            am_ok 24 ((fI M5 0 15)) <|
            am_lt (fW M5 (137 + 3 * ((fI M5 0 15)).toNatClampNeg) 0 v1) fun M7 =>
            am_cv (F 170 0 [.ref 32, .int v4] [] M7) fun M8 => /- Finder_setHour -/
            am_ci (F 247 0 [.ref 0, .ref (137 + 3 * ((fI M5 0 15)).toNatClampNeg + 1), .int v1, .int v2, .int v3] [] M8) fun x10 M9 => /- RunSayer_sayByHeart -/
            am_cv (F 69 0 [.ref (137 + 3 * ((fI M5 0 15)).toNatClampNeg + 1), .int (fI M9 18 0), .int v4] [] M9) fun M11 => /- Route_setTime -/
            am_cv (F 243 0 [.ref 0, .ref (137 + 3 * ((fI M5 0 15)).toNatClampNeg)] [] M11) fun M12 => /- RunSayer_markExam -/
            am_lt (fW M12 0 15 (((fI M12 0 15) + 1))) fun M13 =>
            am_rt 1 (((fI M13 0 15) - 1)) M13
          else
            am_rt 1 ((-4)) M5
        else
          am_rt 1 ((-2)) M5
    else
      am_rt 1 ((-1)) M3
  else
    am_rt 1 ((-1)) M1) = some r) : F 254 0 [.ref 0, .int v1, .int v2, .int v3, .int v4] [] M = some r := by
  refine e_RunSayer_ask hF ?_
  refine (cl_rc (gk_0 hg)).trans ?_
  obtain ⟨x2, M1, k1, h⟩ := iv_ci h; refine (cl_ci k1).trans ?_
  rcases iv_ite h with ⟨hc, h⟩ | ⟨hc, h⟩
  · refine (if_pos hc).trans ?_
    refine (cl_rc (gk_0 hg)).trans ?_
    obtain ⟨x4, M3, k2, h⟩ := iv_ci h; refine (cl_ci k2).trans ?_
    rcases iv_ite h with ⟨hc, h⟩ | ⟨hc, h⟩
    · refine (if_pos hc).trans ?_
      rcases iv_ite h with ⟨hc, h⟩ | ⟨hc, h⟩
      · refine (if_pos hc).trans ?_
        exact h
      · refine (if_neg hc).trans ?_
        obtain ⟨x6, M5, k3, h⟩ := iv_ci h; refine (cl_ci k3).trans ?_
        rcases iv_ite h with ⟨hc, h⟩ | ⟨hc, h⟩
        · refine (if_pos hc).trans ?_
          refine (cl_gI (gk_0 hg)).trans ?_
          rcases iv_ite h with ⟨hc, h⟩ | ⟨hc, h⟩
          · refine (if_pos hc).trans ?_
            refine (cl_gR (gk_0 hg) (gr_0_14 hg)).trans ?_
            refine (cl_gI (gk_0 hg)).trans ?_
            obtain ⟨k4, h⟩ := iv_ok h; refine (cl_qa (gk_136 hg) (by decide) (by decide) k4 (gq_136 hg k4)).trans ?_
            have k5 := go_136 hg k4
            refine (cl_pI k5.1).trans ?_
            replace h := iv_lt h
            refine (cl_gR (gk_0 hg) (gr_0_2 hg)).trans ?_
            refine (cl_rc (gk_32 hg)).trans ?_
            obtain ⟨M8, k6, h⟩ := iv_cv h; refine (cl_cv k6).trans ?_
            refine (cl_gR k5.1 k5.2.1).trans ?_
            refine (cl_rc (gk_0 hg)).trans ?_
            obtain ⟨x10, M9, k7, h⟩ := iv_ci h; refine (cl_ci k7).trans ?_
            refine (cl_gR k5.1 k5.2.1).trans ?_
            refine (cl_gR (gk_0 hg) (gr_0_1 hg)).trans ?_
            refine (cl_gI (gk_18 hg)).trans ?_
            refine (cl_rc k5.2.2.1).trans ?_
            obtain ⟨M11, k8, h⟩ := iv_cv h; refine (cl_cv k8).trans ?_
            refine (cl_rc (gk_0 hg)).trans ?_
            obtain ⟨M12, k9, h⟩ := iv_cv h; refine (cl_cv k9).trans ?_
            refine (cl_gI (gk_0 hg)).trans ?_
            refine (cl_pI (gk_0 hg)).trans ?_
            replace h := iv_lt h
            refine (cl_gI (gk_0 hg)).trans ?_
            exact h
          · refine (if_neg hc).trans ?_
            exact h
        · refine (if_neg hc).trans ?_
          exact h
    · refine (if_neg hc).trans ?_
      exact h
  · refine (if_neg hc).trans ?_
    exact h
theorem s_RunSayer_mostAlike {g : am_G} {F : am_FT} (hF : F = am_F T0 g) (hg : GG g) {v1 : Int32} {v2 : Int32} {v3 : Int32} {M : am_M} {r : am_R} (h : (
  F 255 6 [.ref 0, .int v1, .int v2, .int v3, .int 0, .int 0] [] M) = some r) : F 255 0 [.ref 0, .int v1, .int v2, .int v3] [] M = some r := by
  refine e_RunSayer_mostAlike hF ?_
  exact h
theorem s_RunSayer_mostAlike_6 {g : am_G} {F : am_FT} (hF : F = am_F T0 g) (hg : GG g) {v1 : Int32} {v2 : Int32} {v3 : Int32} {v4 : Int32} {v5 : Int32} {M : am_M} {r : am_R} (h : (
  if (fI M 0 11) ≤ v5 then
    am_rt 1 v4 M
  else
    if ((v1 >>> (v5 &&& 31)) &&& 1) = 0 then
      F 255 6 [.ref 0, .int v1, .int v2, .int v3, .int v4, .int (v5 + 1)] [] M
    else
      am_ok 4 v5 <|
      am_ci (F 247 0 [.ref 0, .ref (70 + 5 * v5.toNatClampNeg), .int v5, .int v2, .int v3] [] M) fun x2 M1 => /- RunSayer_sayByHeart -/
      F 255 49 [.ref 0, .int v1, .int v2, .int v3, .int v4, .int v5, .int 1, .int 0] [] M1) = some r) : F 255 6 [.ref 0, .int v1, .int v2, .int v3, .int v4, .int v5] [] M = some r := by
  refine e_RunSayer_mostAlike_6 hF ?_
  refine (cl_gI (gk_0 hg)).trans ?_
  rcases iv_ite h with ⟨hc, h⟩ | ⟨hc, h⟩
  · refine (if_pos hc).trans ?_
    exact h
  · refine (if_neg hc).trans ?_
    rcases iv_ite h with ⟨hc, h⟩ | ⟨hc, h⟩
    · refine (if_pos hc).trans ?_
      exact h
    · refine (if_neg hc).trans ?_
      refine (cl_gR (gk_0 hg) (gr_0_7 hg)).trans ?_
      obtain ⟨k1, h⟩ := iv_ok h; refine (cl_qa (gk_68 hg) (by decide) (by decide) k1 (gq_68 hg k1)).trans ?_
      have k2 := go_68 hg k1
      refine (cl_rc (gk_0 hg)).trans ?_
      obtain ⟨x2, M1, k3, h⟩ := iv_ci h; refine (cl_ci k3).trans ?_
      exact h
theorem s_RunSayer_mostAlike_49 {g : am_G} {F : am_FT} (hF : F = am_F T0 g) (hg : GG g) {v1 : Int32} {v2 : Int32} {v3 : Int32} {v4 : Int32} {v5 : Int32} {v6 : Int32} {v7 : Int32} {M : am_M} {r : am_R} (h : (
  if v5 ≤ v7 then
    am_ci (F 24 0 [.int v4, .int v6] [] M) fun x2 M1 => /- JMath_max -/
    F 255 6 [.ref 0, .int v1, .int v2, .int v3, .int x2, .int (v5 + 1)] [] M1
  else
    if ((v1 >>> (v7 &&& 31)) &&& 1) = 1 then
      am_ok 4 v5 <|
      am_ok 4 v7 <|
      am_ci (F 68 0 [.ref (70 + 5 * v5.toNatClampNeg), .ref (70 + 5 * v7.toNatClampNeg)] [] M) fun x4 M3 => /- Route_isLike -/
      if x4 = 0 then
        F 255 49 [.ref 0, .int v1, .int v2, .int v3, .int v4, .int v5, .int v6, .int (v7 + 1)] [] M3
      else
        F 255 49 [.ref 0, .int v1, .int v2, .int v3, .int v4, .int v5, .int (v6 + 1), .int (v7 + 1)] [] M3
    else
      F 255 49 [.ref 0, .int v1, .int v2, .int v3, .int v4, .int v5, .int v6, .int (v7 + 1)] [] M) = some r) : F 255 49 [.ref 0, .int v1, .int v2, .int v3, .int v4, .int v5, .int v6, .int v7] [] M = some r := by
  refine e_RunSayer_mostAlike_49 hF ?_
  rcases iv_ite h with ⟨hc, h⟩ | ⟨hc, h⟩
  · refine (if_pos hc).trans ?_
    obtain ⟨x2, M1, k1, h⟩ := iv_ci h; refine (cl_ci k1).trans ?_
    exact h
  · refine (if_neg hc).trans ?_
    rcases iv_ite h with ⟨hc, h⟩ | ⟨hc, h⟩
    · refine (if_pos hc).trans ?_
      refine (cl_gR (gk_0 hg) (gr_0_7 hg)).trans ?_
      obtain ⟨k2, h⟩ := iv_ok h; refine (cl_qa (gk_68 hg) (by decide) (by decide) k2 (gq_68 hg k2)).trans ?_
      have k3 := go_68 hg k2
      refine (cl_gR (gk_0 hg) (gr_0_7 hg)).trans ?_
      obtain ⟨k4, h⟩ := iv_ok h; refine (cl_qa (gk_68 hg) (by decide) (by decide) k4 (gq_68 hg k4)).trans ?_
      have k5 := go_68 hg k4
      refine (cl_rc k3.1).trans ?_
      obtain ⟨x4, M3, k6, h⟩ := iv_ci h; refine (cl_ci k6).trans ?_
      rcases iv_ite h with ⟨hc, h⟩ | ⟨hc, h⟩
      · refine (if_pos hc).trans ?_
        exact h
      · refine (if_neg hc).trans ?_
        exact h
    · refine (if_neg hc).trans ?_
      exact h
theorem s_RunSayer_wouldSay {g : am_G} {F : am_FT} (hF : F = am_F T0 g) (hg : GG g) {v1 : Int32} {v2 : Int32} {v3 : Int32} {v4 : Int32} {M : am_M} {r : am_R} (h : (
  am_ci (F 152 0 [.ref 0, .int v1] [] M) fun x2 M1 => /- RunSayer_noPupil -/
  if x2 = 0 then
    am_ci (F 149 0 [.ref 0, .int v2, .int v3] [] M1) fun x4 M3 => /- RunSayer_noDoors -/
    if x4 = 0 then
      if v2 = v3 then
        am_rt 1 ((-2)) M3
      else
        am_ci (F 150 0 [.int v4] [] M3) fun x6 M5 => /- RunSayer_noHour -/
        if x6 = 0 then
          am_cv (F 170 0 [.ref 32, .int v4] [] M5) fun M7 => /- Finder_setHour -/
          am_ci (F 247 0 [.ref 0, .ref 66, .int v1, .int v2, .int v3] [] M7) fun x9 M8 => /- RunSayer_sayByHeart -/
          am_rt 1 x9 M8
        else
          am_rt 1 ((-2)) M5
    else
      am_rt 1 ((-1)) M3
  else
    am_rt 1 ((-1)) M1) = some r) : F 256 0 [.ref 0, .int v1, .int v2, .int v3, .int v4] [] M = some r := by
  refine e_RunSayer_wouldSay hF ?_
  refine (cl_rc (gk_0 hg)).trans ?_
  obtain ⟨x2, M1, k1, h⟩ := iv_ci h; refine (cl_ci k1).trans ?_
  rcases iv_ite h with ⟨hc, h⟩ | ⟨hc, h⟩
  · refine (if_pos hc).trans ?_
    refine (cl_rc (gk_0 hg)).trans ?_
    obtain ⟨x4, M3, k2, h⟩ := iv_ci h; refine (cl_ci k2).trans ?_
    rcases iv_ite h with ⟨hc, h⟩ | ⟨hc, h⟩
    · refine (if_pos hc).trans ?_
      rcases iv_ite h with ⟨hc, h⟩ | ⟨hc, h⟩
      · refine (if_pos hc).trans ?_
        exact h
      · refine (if_neg hc).trans ?_
        obtain ⟨x6, M5, k3, h⟩ := iv_ci h; refine (cl_ci k3).trans ?_
        rcases iv_ite h with ⟨hc, h⟩ | ⟨hc, h⟩
        · refine (if_pos hc).trans ?_
          refine (cl_gR (gk_0 hg) (gr_0_2 hg)).trans ?_
          refine (cl_rc (gk_32 hg)).trans ?_
          obtain ⟨M7, k4, h⟩ := iv_cv h; refine (cl_cv k4).trans ?_
          refine (cl_gR (gk_0 hg) (gr_0_6 hg)).trans ?_
          refine (cl_rc (gk_0 hg)).trans ?_
          obtain ⟨x9, M8, k5, h⟩ := iv_ci h; refine (cl_ci k5).trans ?_
          exact h
        · refine (if_neg hc).trans ?_
          exact h
    · refine (if_neg hc).trans ?_
      exact h
  · refine (if_neg hc).trans ?_
    exact h
theorem s_Rule_readComparison {g : am_G} {F : am_FT} (hF : F = am_F T0 g) (hg : GG g) {a0 : Nat} {v2 : Int32} {M : am_M} (h0 : isRu g a0) {r : am_R} (h : (
  am_ci (F 257 0 [.ref 61, .ref 1000009] [] M) fun x2 M1 => /- Tape_takesText -/
  if x2 = 0 then
    am_ci (F 257 0 [.ref 61, .ref 1000010] [] M1) fun x4 M3 => /- Tape_takesText -/
    if x4 = 0 then
      am_ci (F 257 0 [.ref 61, .ref 1000011] [] M3) fun x6 M5 => /- Tape_takesText -/
      if x6 = 0 then
        am_rt 2 0 M5
      else
        am_ok 3 v2 <|
        am_lt (wI M5 (a0 + 2) v2.toNatClampNeg 1) fun M7 =>
        am_ci (F 164 0 [.ref 61] [] M7) fun x9 M8 => /- Tape_takeNumber -/
        am_ok 3 v2 <|
        am_lt (wI M8 (a0 + 3) v2.toNatClampNeg x9) fun M10 =>
        am_ok 3 v2 <|
        if (rI M10 (a0 + 3) v2.toNatClampNeg) < 0 then
          am_rt 2 0 M10
        else
          am_rt 2 1 M10
    else
      am_ok 3 v2 <|
      am_lt (wI M3 (a0 + 2) v2.toNatClampNeg ((-1))) fun M11 =>
      am_ci (F 164 0 [.ref 61] [] M11) fun x13 M12 => /- Tape_takeNumber -/
      am_ok 3 v2 <|
      am_lt (wI M12 (a0 + 3) v2.toNatClampNeg x13) fun M14 =>
      am_ok 3 v2 <|
      if (rI M14 (a0 + 3) v2.toNatClampNeg) < 0 then
        am_rt 2 0 M14
      else
        am_rt 2 1 M14
  else
    am_ok 3 v2 <|
    am_lt (wI M1 (a0 + 2) v2.toNatClampNeg 0) fun M15 =>
    am_ci (F 164 0 [.ref 61] [] M15) fun x17 M16 => /- Tape_takeNumber -/
    am_ok 3 v2 <|
    am_lt (wI M16 (a0 + 3) v2.toNatClampNeg x17) fun M18 =>
    am_ok 3 v2 <|
    if (rI M18 (a0 + 3) v2.toNatClampNeg) < 0 then
      am_rt 2 0 M18
    else
      am_rt 2 1 M18) = some r) : F 261 0 [.ref a0, .ref 61, .int v2] [] M = some r := by
  refine e_Rule_readComparison hF ?_
  refine (cl_rc (gk_61 hg)).trans ?_
  obtain ⟨x2, M1, k1, h⟩ := iv_ci h; refine (cl_ci k1).trans ?_
  rcases iv_ite h with ⟨hc, h⟩ | ⟨hc, h⟩
  · refine (if_pos hc).trans ?_
    refine (cl_rc (gk_61 hg)).trans ?_
    obtain ⟨x4, M3, k2, h⟩ := iv_ci h; refine (cl_ci k2).trans ?_
    rcases iv_ite h with ⟨hc, h⟩ | ⟨hc, h⟩
    · refine (if_pos hc).trans ?_
      refine (cl_rc (gk_61 hg)).trans ?_
      obtain ⟨x6, M5, k3, h⟩ := iv_ci h; refine (cl_ci k3).trans ?_
      rcases iv_ite h with ⟨hc, h⟩ | ⟨hc, h⟩
      · refine (if_pos hc).trans ?_
        exact h
      · refine (if_neg hc).trans ?_
        refine (cl_gR h0.1 h0.2.2.2.1).trans ?_
        obtain ⟨k4, h⟩ := iv_ok h; refine (cl_is h0.2.2.2.2.1 k4).trans ?_
        replace h := iv_lt h
        refine (cl_gR h0.1 h0.2.2.2.2.2.1).trans ?_
        refine (cl_rc (gk_61 hg)).trans ?_
        obtain ⟨x9, M8, k5, h⟩ := iv_ci h; refine (cl_ci k5).trans ?_
        obtain ⟨k6, h⟩ := iv_ok h; refine (cl_is h0.2.2.2.2.2.2 k6).trans ?_
        replace h := iv_lt h
        refine (cl_gR h0.1 h0.2.2.2.2.2.1).trans ?_
        obtain ⟨k7, h⟩ := iv_ok h; refine (cl_ia h0.2.2.2.2.2.2 k7).trans ?_
        rcases iv_ite h with ⟨hc, h⟩ | ⟨hc, h⟩
        · refine (if_pos hc).trans ?_
          exact h
        · refine (if_neg hc).trans ?_
          exact h
    · refine (if_neg hc).trans ?_
      refine (cl_gR h0.1 h0.2.2.2.1).trans ?_
      obtain ⟨k8, h⟩ := iv_ok h; refine (cl_is h0.2.2.2.2.1 k8).trans ?_
      replace h := iv_lt h
      refine (cl_gR h0.1 h0.2.2.2.2.2.1).trans ?_
      refine (cl_rc (gk_61 hg)).trans ?_
      obtain ⟨x13, M12, k9, h⟩ := iv_ci h; refine (cl_ci k9).trans ?_
      obtain ⟨k10, h⟩ := iv_ok h; refine (cl_is h0.2.2.2.2.2.2 k10).trans ?_
      replace h := iv_lt h
      refine (cl_gR h0.1 h0.2.2.2.2.2.1).trans ?_
      obtain ⟨k11, h⟩ := iv_ok h; refine (cl_ia h0.2.2.2.2.2.2 k11).trans ?_
      rcases iv_ite h with ⟨hc, h⟩ | ⟨hc, h⟩
      · refine (if_pos hc).trans ?_
        exact h
      · refine (if_neg hc).trans ?_
        exact h
  · refine (if_neg hc).trans ?_
    refine (cl_gR h0.1 h0.2.2.2.1).trans ?_
    obtain ⟨k12, h⟩ := iv_ok h; refine (cl_is h0.2.2.2.2.1 k12).trans ?_
    replace h := iv_lt h
    refine (cl_gR h0.1 h0.2.2.2.2.2.1).trans ?_
    refine (cl_rc (gk_61 hg)).trans ?_
    obtain ⟨x17, M16, k13, h⟩ := iv_ci h; refine (cl_ci k13).trans ?_
    obtain ⟨k14, h⟩ := iv_ok h; refine (cl_is h0.2.2.2.2.2.2 k14).trans ?_
    replace h := iv_lt h
    refine (cl_gR h0.1 h0.2.2.2.2.2.1).trans ?_
    obtain ⟨k15, h⟩ := iv_ok h; refine (cl_ia h0.2.2.2.2.2.2 k15).trans ?_
    rcases iv_ite h with ⟨hc, h⟩ | ⟨hc, h⟩
    · refine (if_pos hc).trans ?_
      exact h
    · refine (if_neg hc).trans ?_
      exact h
theorem s_RunSayer_parting {g : am_G} {F : am_FT} (hF : F = am_F T0 g) (hg : GG g) {v1 : Int32} {v2 : Int32} {M : am_M} {r : am_R} (h : (
  if v1 = 0 then
    am_rt 1 ((-1)) M
  else
    if (v1 >>> ((fI M 0 11) &&& 31)) = 0 then
      am_ci (F 150 0 [.int v2] [] M) fun x2 M1 => /- RunSayer_noHour -/
      if x2 = 0 then
        am_cv (F 170 0 [.ref 32, .int v2] [] M1) fun M3 => /- Finder_setHour -/
        am_ci (F 22 0 [.int v1] [] M3) fun x5 M4 => /- JInteger_bitCount -/
        F 262 45 [.ref 0, .int v1, .int x5, .int (-3), .int 0] [] M4
      else
        am_rt 1 ((-2)) M1
    else
      am_rt 1 ((-1)) M) = some r) : F 262 0 [.ref 0, .int v1, .int v2] [] M = some r := by
  refine e_RunSayer_parting hF ?_
  rcases iv_ite h with ⟨hc, h⟩ | ⟨hc, h⟩
  · refine (if_pos hc).trans ?_
    exact h
  · refine (if_neg hc).trans ?_
    refine (cl_gI (gk_0 hg)).trans ?_
    rcases iv_ite h with ⟨hc, h⟩ | ⟨hc, h⟩
    · refine (if_pos hc).trans ?_
      obtain ⟨x2, M1, k1, h⟩ := iv_ci h; refine (cl_ci k1).trans ?_
      rcases iv_ite h with ⟨hc, h⟩ | ⟨hc, h⟩
      · refine (if_pos hc).trans ?_
        refine (cl_gR (gk_0 hg) (gr_0_2 hg)).trans ?_
        refine (cl_rc (gk_32 hg)).trans ?_
        obtain ⟨M3, k2, h⟩ := iv_cv h; refine (cl_cv k2).trans ?_
        obtain ⟨x5, M4, k3, h⟩ := iv_ci h; refine (cl_ci k3).trans ?_
        exact h
      · refine (if_neg hc).trans ?_
        exact h
    · refine (if_neg hc).trans ?_
      exact h
theorem s_RunSayer_parting_45 {g : am_G} {F : am_FT} (hF : F = am_F T0 g) (hg : GG g) {v1 : Int32} {v3 : Int32} {v4 : Int32} {v5 : Int32} {M : am_M} {r : am_R} (h : (
  if (fI M 1 14) ≤ v5 then
    am_rt 1 v4 M
  else
    F 262 60 [.ref 0, .int v1, .int v3, .int v4, .int v5, .int 0] [] M) = some r) : F 262 45 [.ref 0, .int v1, .int v3, .int v4, .int v5] [] M = some r := by
  refine e_RunSayer_parting_45 hF ?_
  refine (cl_gR (gk_0 hg) (gr_0_0 hg)).trans ?_
  refine (cl_gI (gk_1 hg)).trans ?_
  rcases iv_ite h with ⟨hc, h⟩ | ⟨hc, h⟩
  · refine (if_pos hc).trans ?_
    exact h
  · refine (if_neg hc).trans ?_
    exact h
theorem s_RunSayer_parting_60 {g : am_G} {F : am_FT} (hF : F = am_F T0 g) (hg : GG g) {v1 : Int32} {v3 : Int32} {v4 : Int32} {v5 : Int32} {v6 : Int32} {M : am_M} {r : am_R} (h : (
  if (fI M 1 14) ≤ v6 then
    F 262 45 [.ref 0, .int v1, .int v3, .int v4, .int (v5 + 1)] [] M
  else
    if v3 ≤ 1 then
      F 262 45 [.ref 0, .int v1, .int v3, .int v4, .int (v5 + 1)] [] M
    else
      if v5 = v6 then
        if v3 ≤ v3 then
          F 262 60 [.ref 0, .int v1, .int v3, .int v4, .int v5, .int (v6 + 1)] [] M
        else
          F 262 60 [.ref 0, .int v1, .int v3, .int ((10 * v5) + v6), .int v5, .int (v6 + 1)] [] M
      else
        am_ci (F 255 0 [.ref 0, .int v1, .int v5, .int v6] [] M) fun x2 M1 => /- RunSayer_mostAlike -/
        if v3 ≤ x2 then
          F 262 60 [.ref 0, .int v1, .int v3, .int v4, .int v5, .int (v6 + 1)] [] M1
        else
          F 262 60 [.ref 0, .int v1, .int x2, .int ((10 * v5) + v6), .int v5, .int (v6 + 1)] [] M1) = some r) : F 262 60 [.ref 0, .int v1, .int v3, .int v4, .int v5, .int v6] [] M = some r := by
  refine e_RunSayer_parting_60 hF ?_
  refine (cl_gR (gk_0 hg) (gr_0_0 hg)).trans ?_
  refine (cl_gI (gk_1 hg)).trans ?_
  rcases iv_ite h with ⟨hc, h⟩ | ⟨hc, h⟩
  · refine (if_pos hc).trans ?_
    exact h
  · refine (if_neg hc).trans ?_
    rcases iv_ite h with ⟨hc, h⟩ | ⟨hc, h⟩
    · refine (if_pos hc).trans ?_
      exact h
    · refine (if_neg hc).trans ?_
      rcases iv_ite h with ⟨hc, h⟩ | ⟨hc, h⟩
      · refine (if_pos hc).trans ?_
        rcases iv_ite h with ⟨hc, h⟩ | ⟨hc, h⟩
        · refine (if_pos hc).trans ?_
          exact h
        · refine (if_neg hc).trans ?_
          exact h
      · refine (if_neg hc).trans ?_
        refine (cl_rc (gk_0 hg)).trans ?_
        obtain ⟨x2, M1, k1, h⟩ := iv_ci h; refine (cl_ci k1).trans ?_
        rcases iv_ite h with ⟨hc, h⟩ | ⟨hc, h⟩
        · refine (if_pos hc).trans ?_
          exact h
        · refine (if_neg hc).trans ?_
          exact h
theorem s_RunSayer_say {g : am_G} {F : am_FT} (hF : F = am_F T0 g) (hg : GG g) {v1 : Int32} {v2 : Int32} {v3 : Int32} {M : am_M} {r : am_R} (h : (
  am_ci (F 149 0 [.ref 0, .int v1, .int v2] [] M) fun x2 M1 => /- RunSayer_noDoors -/
  if x2 = 0 then
    if v1 = v2 then
      am_rt 1 ((-2)) M1
    else
      am_ci (F 150 0 [.int v3] [] M1) fun x4 M3 => /- RunSayer_noHour -/
      if x4 = 0 then
        if (fI M3 0 9) < 10 then
          am_ci (F 231 0 [.ref 63, .ref 61] [] M3) fun x6 M5 => /- Speech_readFrom -/
          am_cv (F 78 0 [.ref 61] [] M5) fun M7 => /- Tape_clear -/
          if x6 < 0 then
            am_cv (F 218 0 [.ref 32, .int (fI M7 18 0), .int v3, .int (fI M7 18 0)] [] M7) fun M8 => /- Finder_setCity -/
            am_ok 10 ((fI M8 0 9)) <|
            am_cv (F 67 0 [.ref (91 + 2 * ((fI M8 0 9)).toNatClampNeg), .int v1, .int v2] [] M8) fun M9 => /- Route_begin -/
            am_cv (F 69 0 [.ref (91 + 2 * ((fI M8 0 9)).toNatClampNeg), .int (fI M9 18 0), .int v3] [] M9) fun M10 => /- Route_setTime -/
            am_ci (F 249 0 [.ref 32, .ref 63, .ref (91 + 2 * ((fI M8 0 9)).toNatClampNeg)] [] M10) fun x12 M11 => /- Finder_driveSpeech -/
            if x12 = 0 then
              am_cv (F 169 0 [.ref 32, .ref (91 + 2 * ((fI M8 0 9)).toNatClampNeg)] [] M11) fun M13 => /- Finder_measure -/
              am_cv (F 174 0 [.ref 42, .int (fI M13 0 9), .ref (91 + 2 * ((fI M8 0 9)).toNatClampNeg)] [] M13) fun M14 => /- Links_addRun -/
              am_lt (fW M14 0 9 (((fI M14 0 9) + 1))) fun M15 =>
              am_rt 1 (((fI M15 0 9) - 1)) M15
            else
              am_rt 1 (((-1000) - x12)) M11
          else
            am_rt 1 (((-100) - x6)) M7
        else
          am_rt 1 ((-4)) M3
      else
        am_rt 1 ((-2)) M3
  else
    am_rt 1 ((-1)) M1) = some r) : F 263 0 [.ref 0, .int v1, .int v2, .int v3] [] M = some r := by
  refine e_RunSayer_say hF ?_
  refine (cl_rc (gk_0 hg)).trans ?_
  obtain ⟨x2, M1, k1, h⟩ := iv_ci h; refine (cl_ci k1).trans ?_
  rcases iv_ite h with ⟨hc, h⟩ | ⟨hc, h⟩
  · refine (if_pos hc).trans ?_
    rcases iv_ite h with ⟨hc, h⟩ | ⟨hc, h⟩
    · refine (if_pos hc).trans ?_
      exact h
    · refine (if_neg hc).trans ?_
      obtain ⟨x4, M3, k2, h⟩ := iv_ci h; refine (cl_ci k2).trans ?_
      rcases iv_ite h with ⟨hc, h⟩ | ⟨hc, h⟩
      · refine (if_pos hc).trans ?_
        refine (cl_gI (gk_0 hg)).trans ?_
        rcases iv_ite h with ⟨hc, h⟩ | ⟨hc, h⟩
        · refine (if_pos hc).trans ?_
          refine (cl_gR (gk_0 hg) (gr_0_5 hg)).trans ?_
          refine (cl_gR (gk_0 hg) (gr_0_4 hg)).trans ?_
          refine (cl_rc (gk_63 hg)).trans ?_
          obtain ⟨x6, M5, k3, h⟩ := iv_ci h; refine (cl_ci k3).trans ?_
          refine (cl_gR (gk_0 hg) (gr_0_4 hg)).trans ?_
          refine (cl_rc (gk_61 hg)).trans ?_
          obtain ⟨M7, k4, h⟩ := iv_cv h; refine (cl_cv k4).trans ?_
          rcases iv_ite h with ⟨hc, h⟩ | ⟨hc, h⟩
          · refine (if_pos hc).trans ?_
            refine (cl_gR (gk_0 hg) (gr_0_2 hg)).trans ?_
            refine (cl_gR (gk_0 hg) (gr_0_1 hg)).trans ?_
            refine (cl_gI (gk_18 hg)).trans ?_
            refine (cl_gR (gk_0 hg) (gr_0_1 hg)).trans ?_
            refine (cl_gI (gk_18 hg)).trans ?_
            refine (cl_rc (gk_32 hg)).trans ?_
            obtain ⟨M8, k5, h⟩ := iv_cv h; refine (cl_cv k5).trans ?_
            refine (cl_gR (gk_0 hg) (gr_0_8 hg)).trans ?_
            refine (cl_gI (gk_0 hg)).trans ?_
            obtain ⟨k6, h⟩ := iv_ok h; refine (cl_qa (gk_90 hg) (by decide) (by decide) k6 (gq_90 hg k6)).trans ?_
            have k7 := go_90 hg k6
            refine (cl_rc k7.1).trans ?_
            obtain ⟨M9, k8, h⟩ := iv_cv h; refine (cl_cv k8).trans ?_
            refine (cl_gR (gk_0 hg) (gr_0_1 hg)).trans ?_
            refine (cl_gI (gk_18 hg)).trans ?_
            refine (cl_rc k7.1).trans ?_
            obtain ⟨M10, k9, h⟩ := iv_cv h; refine (cl_cv k9).trans ?_
            refine (cl_gR (gk_0 hg) (gr_0_2 hg)).trans ?_
            refine (cl_gR (gk_0 hg) (gr_0_5 hg)).trans ?_
            refine (cl_rc (gk_32 hg)).trans ?_
            obtain ⟨x12, M11, k10, h⟩ := iv_ci h; refine (cl_ci k10).trans ?_
            rcases iv_ite h with ⟨hc, h⟩ | ⟨hc, h⟩
            · refine (if_pos hc).trans ?_
              refine (cl_gR (gk_0 hg) (gr_0_2 hg)).trans ?_
              refine (cl_rc (gk_32 hg)).trans ?_
              obtain ⟨M13, k11, h⟩ := iv_cv h; refine (cl_cv k11).trans ?_
              refine (cl_gR (gk_0 hg) (gr_0_3 hg)).trans ?_
              refine (cl_gI (gk_0 hg)).trans ?_
              refine (cl_rc (gk_42 hg)).trans ?_
              obtain ⟨M14, k12, h⟩ := iv_cv h; refine (cl_cv k12).trans ?_
              refine (cl_gI (gk_0 hg)).trans ?_
              refine (cl_pI (gk_0 hg)).trans ?_
              replace h := iv_lt h
              refine (cl_gI (gk_0 hg)).trans ?_
              exact h
            · refine (if_neg hc).trans ?_
              exact h
          · refine (if_neg hc).trans ?_
            exact h
        · refine (if_neg hc).trans ?_
          exact h
      · refine (if_neg hc).trans ?_
        exact h
  · refine (if_neg hc).trans ?_
    exact h
theorem s_Rule_readFrom {g : am_G} {F : am_FT} (hF : F = am_F T0 g) (hg : GG g) {a0 : Nat} {M : am_M} (h0 : isRu g a0) {r : am_R} (h : (
  am_lt (fW M a0 1 0) fun M1 =>
  am_lt (fW M1 61 2 0) fun M2 =>
  am_ci (F 257 0 [.ref 61, .ref 1000001] [] M2) fun x4 M3 => /- Tape_takesText -/
  if x4 = 0 then
    am_rt 1 ((fI M3 61 2)) M3
  else
    am_ci (F 164 0 [.ref 61] [] M3) fun x6 M5 => /- Tape_takeNumber -/
    am_lt (fW M5 a0 0 x6) fun M7 =>
    if 0 ≤ (fI M7 a0 0) then
      am_ci (F 79 0 [.ref 61] [] M7) fun x9 M8 => /- Tape_isAtEnd -/
      if x9 = 0 then
        am_ci (F 257 0 [.ref 61, .ref 1000002] [] M8) fun x11 M10 => /- Tape_takesText -/
        if x11 = 0 then
          am_rt 1 ((fI M10 61 2)) M10
        else
          F 273 69 [.ref a0, .ref 61, .int 0] [] M10
      else
        am_rt 1 ((-1)) M8
    else
      am_rt 1 ((fI M7 61 2)) M7) = some r) : F 273 0 [.ref a0, .ref 61] [] M = some r := by
  refine e_Rule_readFrom hF ?_
  refine (cl_pI h0.1).trans ?_
  replace h := iv_lt h
  refine (cl_pI (gk_61 hg)).trans ?_
  replace h := iv_lt h
  refine (cl_rc (gk_61 hg)).trans ?_
  obtain ⟨x4, M3, k1, h⟩ := iv_ci h; refine (cl_ci k1).trans ?_
  rcases iv_ite h with ⟨hc, h⟩ | ⟨hc, h⟩
  · refine (if_pos hc).trans ?_
    refine (cl_gI (gk_61 hg)).trans ?_
    exact h
  · refine (if_neg hc).trans ?_
    refine (cl_rc (gk_61 hg)).trans ?_
    obtain ⟨x6, M5, k2, h⟩ := iv_ci h; refine (cl_ci k2).trans ?_
    refine (cl_pI h0.1).trans ?_
    replace h := iv_lt h
    refine (cl_gI h0.1).trans ?_
    rcases iv_ite h with ⟨hc, h⟩ | ⟨hc, h⟩
    · refine (if_pos hc).trans ?_
      refine (cl_rc (gk_61 hg)).trans ?_
      obtain ⟨x9, M8, k3, h⟩ := iv_ci h; refine (cl_ci k3).trans ?_
      rcases iv_ite h with ⟨hc, h⟩ | ⟨hc, h⟩
      · refine (if_pos hc).trans ?_
        refine (cl_rc (gk_61 hg)).trans ?_
        obtain ⟨x11, M10, k4, h⟩ := iv_ci h; refine (cl_ci k4).trans ?_
        rcases iv_ite h with ⟨hc, h⟩ | ⟨hc, h⟩
        · refine (if_pos hc).trans ?_
          refine (cl_gI (gk_61 hg)).trans ?_
          exact h
        · refine (if_neg hc).trans ?_
          exact h
      · refine (if_neg hc).trans ?_
        exact h
    · refine (if_neg hc).trans ?_
      refine (cl_gI (gk_61 hg)).trans ?_
      exact h
theorem s_Rule_readFrom_69 {g : am_G} {F : am_FT} (hF : F = am_F T0 g) (hg : GG g) {a0 : Nat} {v2 : Int32} {M : am_M} (h0 : isRu g a0) {r : am_R} (h : (
  if 3 ≤ v2 then
    am_rt 1 ((fI M 61 2)) M
  else
    am_ci (F 269 0 [.ref a0, .ref 61, .int v2] [] M) fun x2 M1 => /- Rule_readTest -/
    if x2 = 0 then
      am_rt 1 ((fI M1 61 2)) M1
    else
      am_lt (fW M1 a0 1 (((fI M1 a0 1) + 1))) fun M3 =>
      am_ci (F 79 0 [.ref 61] [] M3) fun x5 M4 => /- Tape_isAtEnd -/
      if x5 = 0 then
        if 3 ≤ (fI M4 a0 1) then
          F 273 69 [.ref a0, .ref 61, .int (v2 + 1)] [] M4
        else
          am_ci (F 257 0 [.ref 61, .ref 1000012] [] M4) fun x7 M6 => /- Tape_takesText -/
          if x7 = 0 then
            am_rt 1 ((fI M6 61 2)) M6
          else
            F 273 69 [.ref a0, .ref 61, .int (v2 + 1)] [] M6
      else
        am_rt 1 ((-1)) M4) = some r) : F 273 69 [.ref a0, .ref 61, .int v2] [] M = some r := by
  refine e_Rule_readFrom_69 hF ?_
  rcases iv_ite h with ⟨hc, h⟩ | ⟨hc, h⟩
  · refine (if_pos hc).trans ?_
    refine (cl_gI (gk_61 hg)).trans ?_
    exact h
  · refine (if_neg hc).trans ?_
    refine (cl_rc h0.1).trans ?_
    obtain ⟨x2, M1, k1, h⟩ := iv_ci h; refine (cl_ci k1).trans ?_
    rcases iv_ite h with ⟨hc, h⟩ | ⟨hc, h⟩
    · refine (if_pos hc).trans ?_
      refine (cl_gI (gk_61 hg)).trans ?_
      exact h
    · refine (if_neg hc).trans ?_
      refine (cl_gI h0.1).trans ?_
      refine (cl_pI h0.1).trans ?_
      replace h := iv_lt h
      refine (cl_rc (gk_61 hg)).trans ?_
      obtain ⟨x5, M4, k2, h⟩ := iv_ci h; refine (cl_ci k2).trans ?_
      rcases iv_ite h with ⟨hc, h⟩ | ⟨hc, h⟩
      · refine (if_pos hc).trans ?_
        refine (cl_gI h0.1).trans ?_
        rcases iv_ite h with ⟨hc, h⟩ | ⟨hc, h⟩
        · refine (if_pos hc).trans ?_
          exact h
        · refine (if_neg hc).trans ?_
          refine (cl_rc (gk_61 hg)).trans ?_
          obtain ⟨x7, M6, k3, h⟩ := iv_ci h; refine (cl_ci k3).trans ?_
          rcases iv_ite h with ⟨hc, h⟩ | ⟨hc, h⟩
          · refine (if_pos hc).trans ?_
            refine (cl_gI (gk_61 hg)).trans ?_
            exact h
          · refine (if_neg hc).trans ?_
            exact h
      · refine (if_neg hc).trans ?_
        exact h
theorem s_RunSayer_rule {g : am_G} {F : am_FT} (hF : F = am_F T0 g) (hg : GG g) {M : am_M} {r : am_R} (h : (
  if (fI M 0 13) < 6 then
    am_ok 6 ((fI M 0 13)) <|
    am_ci (F 273 0 [.ref (112 + 4 * ((fI M 0 13)).toNatClampNeg), .ref 61] [] M) fun x2 M1 => /- Rule_readFrom -/
    am_cv (F 78 0 [.ref 61] [] M1) fun M3 => /- Tape_clear -/
    if x2 < 0 then
      am_lt (fW M3 0 13 (((fI M3 0 13) + 1))) fun M4 =>
      am_rt 1 (((fI M4 0 13) - 1)) M4
    else
      am_rt 1 (((-100) - x2)) M3
  else
    am_rt 1 ((-4)) M) = some r) : F 274 0 [.ref 0] [] M = some r := by
  refine e_RunSayer_rule hF ?_
  refine (cl_gI (gk_0 hg)).trans ?_
  rcases iv_ite h with ⟨hc, h⟩ | ⟨hc, h⟩
  · refine (if_pos hc).trans ?_
    refine (cl_gR (gk_0 hg) (gr_0_12 hg)).trans ?_
    refine (cl_gI (gk_0 hg)).trans ?_
    obtain ⟨k1, h⟩ := iv_ok h; refine (cl_qa (gk_111 hg) (by decide) (by decide) k1 (gq_111 hg k1)).trans ?_
    have k2 := go_111 hg k1
    refine (cl_gR (gk_0 hg) (gr_0_4 hg)).trans ?_
    refine (cl_rc k2.1).trans ?_
    obtain ⟨x2, M1, k3, h⟩ := iv_ci h; refine (cl_ci k3).trans ?_
    refine (cl_gR (gk_0 hg) (gr_0_4 hg)).trans ?_
    refine (cl_rc (gk_61 hg)).trans ?_
    obtain ⟨M3, k4, h⟩ := iv_cv h; refine (cl_cv k4).trans ?_
    rcases iv_ite h with ⟨hc, h⟩ | ⟨hc, h⟩
    · refine (if_pos hc).trans ?_
      refine (cl_gI (gk_0 hg)).trans ?_
      refine (cl_pI (gk_0 hg)).trans ?_
      replace h := iv_lt h
      refine (cl_gI (gk_0 hg)).trans ?_
      exact h
    · refine (if_neg hc).trans ?_
      exact h
  · refine (if_neg hc).trans ?_
    exact h
