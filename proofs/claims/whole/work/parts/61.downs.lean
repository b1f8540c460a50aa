/-! THE MODEL LETS DOWN, all of it -/
section Dn
variable {M0 M : am_M} {g : am_G} {F : am_FT}
theorem m_down58 (hF : F = am_F T0 g) (hg : GG g) (h1 : I1 M0) (h2 : I2 M0) (h4 : I4 M0) (h6 : I6 M0) (h7 : I7 M0) (h8 : I8 M0) (h9 : I9 M0) {md : Int × Int × Int × Int} (hmd : mok M0 md) {by_ b : Int} (b0 : 0 ≤ b) (b1 : b < nD M0) {e : Int} (e0 : 0 ≤ e) (e1 : e < 2 * nW M0) : ∀ (n k : Nat) (M : am_M) (ch : Int), (k : Int) + n = 2 * nW M0 → Ag M0 M → sset md by_ M → MLab M0 md by_ b M → (ch = 0 ∨ ch = 1) →
    ∃ (c2 : Int) (M2 : am_M), (∀ r : am_R, F 251 49 [.ref 219, .int (iI b), .int (iI (2 * nW M0)), .int (iI c2), .int (iI (e + 1))] [] M2 = some r → F 251 58 [.ref 219, .int (iI b), .int (iI (2 * nW M0)), .int (iI ch), .int (iI e), .int (iI k)] [] M = some r) ∧ Ke [262, 263] M M2 ∧ MLab M0 md by_ b M2 ∧ sm (mcl M0 by_ M2) (2 * nW M0).toNat ≤ sm (mcl M0 by_ M) (2 * nW M0).toNat ∧
      (c2 = 1 ∧ (ch = 1 ∨ sm (mcl M0 by_ M2) (2 * nW M0).toNat < sm (mcl M0 by_ M) (2 * nW M0).toNat) ∨ c2 = 0 ∧ ch = 0 ∧ M2 = M ∧ ∀ f : Int, (k : Int) ≤ f → f < 2 * nW M0 → pok M0 md by_ b M e f) := by
  intro n
  induction n with
  | zero =>
    intro k M ch h hA hs hL hch
    have hn := h2.1
    refine ⟨ch, M, fun r hr => ?_, Ke.refl, hL, Int.le_refl _, ?_⟩
    · refine s_Model_letsDown_58 hF hg ?_
      have hlt : 2 * nW M0 ≤ (k : Int) := by omega
      simp (disch := (first | omega | decide | assumption)) only [ltm_s, ok_n, rd_i, rd_j, fd_i, fd_j, wr_i, wr_j, fw_i, fw_j, ci_s, cj_s, cv_s, dv_n, dw_n, rt_1, rt_b, rt_20, rt_21, okb_0, okb_1, okb_b, nar_0, nar_1, nar_b, i_0, i_1, j_0, j_1, i_lit, j_lit, i_n, iI_add, iI_sub, iI_mul, iI_neg, jI_add, jI_sub, jI_mul, jI_neg, sh_1, an_1, xo_1, di_p, dj_p, i_64A, i_64, j_32, lq_ge, lq_lt, lq_le, lq_gt, lq_eq, i_lt, i_le, i_eq, j_eq, iI_A, jI_J, iI_b, iI_v, jI_v, ↓reduceIte, ite_true, ite_false, Int.reduceEq, Int.reduceLT, Int.reduceLE, Int.reduceAdd, Int.reduceSub, Int.reduceMul, Int.reduceNeg, not_true_eq_false, not_false_eq_true, agA hA, agJA hA, ag hA, v_nJ, v_nW, v_nD, v_toD, v_px, v_py, v_rg, v_kd, v_ft, v_on, v_bg, v_en, @nJ_ M0, @nW_ M0, @nD_ M0, @toD_ M0, @px_ M0, @py_ M0, @rg_ M0, @kd_ M0, @ft_ M0, @on_ M0, bt_, hlt, hr]
    · rcases hch with rfl | rfl
      · exact Or.inr ⟨rfl, rfl, rfl, fun f f0 f1 => by omega⟩
      · exact Or.inl ⟨rfl, Or.inl rfl⟩
  | succ n ih =>
    intro k M ch h hA hs hL hch
    have ek : ((k + 1 : Nat) : Int) = (k : Int) + 1 := by omega
    obtain ⟨c1, M1, p1, k1, L1, m1, o1⟩ := m_try hF hg hA h1 h2 h4 h6 h7 h8 h9 hmd b0 b1 hs hL e0 e1 (k := k) (by omega) (by omega) hch
    obtain ⟨c2, M2, p2, k2, L2, m2, o2⟩ := ih (k + 1) M1 c1 (by omega) (hA.trans (k1.ag (by decide))) (sset_ke hs k1) L1 (by omega)
    rw [ek] at p2
    refine ⟨c2, M2, fun r hr => p1 r (p2 r hr), k1.trans k2, L2, by omega, ?_⟩
    rcases o2 with ⟨x1, x2⟩ | ⟨x1, x2, x3, x4⟩
    · refine Or.inl ⟨x1, ?_⟩
      rcases o1 with ⟨y1, y2⟩ | ⟨y1, y2, y3, y4⟩
      · rcases y2 with y2 | y2
        · exact Or.inl y2
        · exact Or.inr (by omega)
      · right
        rcases x2 with x2 | x2
        · omega
        · omega
    · rcases o1 with ⟨y1, y2⟩ | ⟨y1, y2, y3, y4⟩
      · omega
      · subst y3
        refine Or.inr ⟨x1, y2, x3, fun f f0 f1 => ?_⟩
        by_cases ef : f = k
        · rw [ef]; exact y4
        · exact x4 f (by omega) f1
theorem m_down49 (hF : F = am_F T0 g) (hg : GG g) (h1 : I1 M0) (h2 : I2 M0) (h4 : I4 M0) (h6 : I6 M0) (h7 : I7 M0) (h8 : I8 M0) (h9 : I9 M0) {md : Int × Int × Int × Int} (hmd : mok M0 md) {by_ b : Int} (b0 : 0 ≤ b) (b1 : b < nD M0) : ∀ (n k : Nat) (M : am_M) (ch : Int), (k : Int) + n = 2 * nW M0 → Ag M0 M → sset md by_ M → MLab M0 md by_ b M → (ch = 0 ∨ ch = 1) →
    ∃ (c2 : Int) (M2 : am_M), (∀ r : am_R, F 251 40 [.ref 219, .int (iI b), .int (iI (2 * nW M0)), .int (iI c2)] [] M2 = some r → F 251 49 [.ref 219, .int (iI b), .int (iI (2 * nW M0)), .int (iI ch), .int (iI k)] [] M = some r) ∧ Ke [262, 263] M M2 ∧ MLab M0 md by_ b M2 ∧ sm (mcl M0 by_ M2) (2 * nW M0).toNat ≤ sm (mcl M0 by_ M) (2 * nW M0).toNat ∧
      (c2 = 1 ∧ (ch = 1 ∨ sm (mcl M0 by_ M2) (2 * nW M0).toNat < sm (mcl M0 by_ M) (2 * nW M0).toNat) ∨ c2 = 0 ∧ ch = 0 ∧ M2 = M ∧ ∀ e f : Int, (k : Int) ≤ e → e < 2 * nW M0 → 0 ≤ f → f < 2 * nW M0 → pok M0 md by_ b M e f) := by
  intro n
  induction n with
  | zero =>
    intro k M ch h hA hs hL hch
    have hn := h2.1
    refine ⟨ch, M, fun r hr => ?_, Ke.refl, hL, Int.le_refl _, ?_⟩
    · refine s_Model_letsDown_49 hF hg ?_
      have hlt : 2 * nW M0 ≤ (k : Int) := by omega
      simp (disch := (first | omega | decide | assumption)) only [ltm_s, ok_n, rd_i, rd_j, fd_i, fd_j, wr_i, wr_j, fw_i, fw_j, ci_s, cj_s, cv_s, dv_n, dw_n, rt_1, rt_b, rt_20, rt_21, okb_0, okb_1, okb_b, nar_0, nar_1, nar_b, i_0, i_1, j_0, j_1, i_lit, j_lit, i_n, iI_add, iI_sub, iI_mul, iI_neg, jI_add, jI_sub, jI_mul, jI_neg, sh_1, an_1, xo_1, di_p, dj_p, i_64A, i_64, j_32, lq_ge, lq_lt, lq_le, lq_gt, lq_eq, i_lt, i_le, i_eq, j_eq, iI_A, jI_J, iI_b, iI_v, jI_v, ↓reduceIte, ite_true, ite_false, Int.reduceEq, Int.reduceLT, Int.reduceLE, Int.reduceAdd, Int.reduceSub, Int.reduceMul, Int.reduceNeg, not_true_eq_false, not_false_eq_true, agA hA, agJA hA, ag hA, v_nJ, v_nW, v_nD, v_toD, v_px, v_py, v_rg, v_kd, v_ft, v_on, v_bg, v_en, @nJ_ M0, @nW_ M0, @nD_ M0, @toD_ M0, @px_ M0, @py_ M0, @rg_ M0, @kd_ M0, @ft_ M0, @on_ M0, bt_, hlt, hr]
    · rcases hch with rfl | rfl
      · exact Or.inr ⟨rfl, rfl, rfl, fun e f e0 e1 => by omega⟩
      · exact Or.inl ⟨rfl, Or.inl rfl⟩
  | succ n ih =>
    intro k M ch h hA hs hL hch
    have hn := h2.1
    have ek : ((k + 1 : Nat) : Int) = (k : Int) + 1 := by omega
    have hlt : ¬ 2 * nW M0 ≤ (k : Int) := by omega
    obtain ⟨c1, M1, p1, k1, L1, m1, o1⟩ := m_down58 hF hg h1 h2 h4 h6 h7 h8 h9 hmd b0 b1 (e := k) (by omega) (by omega) (2 * nW M0).toNat 0 M ch (by omega) hA hs hL hch
    obtain ⟨c2, M2, p2, k2, L2, m2, o2⟩ := ih (k + 1) M1 c1 (by omega) (hA.trans (k1.ag (by decide))) (sset_ke hs k1) L1 (by omega)
    rw [ek] at p2
    have e0 : iI ((0 : Nat) : Int) = iI 0 := rfl
    rw [e0] at p1
    refine ⟨c2, M2, fun r hr => ?_, k1.trans k2, L2, by omega, ?_⟩
    · have q := p1 r (p2 r hr)
      refine s_Model_letsDown_49 hF hg ?_
      simp (disch := (first | omega | decide | assumption)) only [ltm_s, ok_n, rd_i, rd_j, fd_i, fd_j, wr_i, wr_j, fw_i, fw_j, ci_s, cj_s, cv_s, dv_n, dw_n, rt_1, rt_b, rt_20, rt_21, okb_0, okb_1, okb_b, nar_0, nar_1, nar_b, i_0, i_1, j_0, j_1, i_lit, j_lit, i_n, iI_add, iI_sub, iI_mul, iI_neg, jI_add, jI_sub, jI_mul, jI_neg, sh_1, an_1, xo_1, di_p, dj_p, i_64A, i_64, j_32, lq_ge, lq_lt, lq_le, lq_gt, lq_eq, i_lt, i_le, i_eq, j_eq, iI_A, jI_J, iI_b, iI_v, jI_v, ↓reduceIte, ite_true, ite_false, Int.reduceEq, Int.reduceLT, Int.reduceLE, Int.reduceAdd, Int.reduceSub, Int.reduceMul, Int.reduceNeg, not_true_eq_false, not_false_eq_true, agA hA, agJA hA, ag hA, v_nJ, v_nW, v_nD, v_toD, v_px, v_py, v_rg, v_kd, v_ft, v_on, v_bg, v_en, @nJ_ M0, @nW_ M0, @nD_ M0, @toD_ M0, @px_ M0, @py_ M0, @rg_ M0, @kd_ M0, @ft_ M0, @on_ M0, bt_, hlt, q]
    rcases o2 with ⟨x1, x2⟩ | ⟨x1, x2, x3, x4⟩
    · refine Or.inl ⟨x1, ?_⟩
      rcases o1 with ⟨y1, y2⟩ | ⟨y1, y2, y3, y4⟩
      · rcases y2 with y2 | y2
        · exact Or.inl y2
        · exact Or.inr (by omega)
      · right
        rcases x2 with x2 | x2
        · omega
        · omega
    · rcases o1 with ⟨y1, y2⟩ | ⟨y1, y2, y3, y4⟩
      · omega
      · subst y3
        refine Or.inr ⟨x1, y2, x3, fun e f e0 e1 f0 f1 => ?_⟩
        by_cases ef : e = k
        · rw [ef]; exact y4 f (by omega) f1
        · exact x4 e f (by omega) e1 f0 f1
theorem m_sm0 (h1 : I1 M0) (h2 : I2 M0) (h4 : I4 M0) {md : Int × Int × Int × Int} (u0 : 0 ≤ md.2.2.1) (u1 : md.2.2.1 < 24) {by_ b : Int} (b0 : 0 ≤ b) (b1 : b < nD M0) (hs : sset md by_ M) (hL : MLab M0 md by_ b M) : 0 ≤ sm (mcl M0 by_ M) (2 * nW M0).toNat := by
  have eF : FARC = 9223372036854775807 := rfl
  have hR := m_Lrg (md := md) h1 h2 h4 hs.2.1 u0 u1 b0 b1
  refine sm_0 fun k k0 k1 => ?_
  have r := Lab.r hR hL k0 k1
  show 0 ≤ cl by_ (ofv M0 M) (J M 262) (J M 263) k
  omega
theorem m_down40 (hF : F = am_F T0 g) (hg : GG g) (h1 : I1 M0) (h2 : I2 M0) (h4 : I4 M0) (h6 : I6 M0) (h7 : I7 M0) (h8 : I8 M0) (h9 : I9 M0) {md : Int × Int × Int × Int} (hmd : mok M0 md) {by_ b : Int} (b0 : 0 ≤ b) (b1 : b < nD M0) : ∀ (n : Nat) (M : am_M), sm (mcl M0 by_ M) (2 * nW M0).toNat < n → Ag M0 M → sset md by_ M → MLab M0 md by_ b M →
    ∃ M2 : am_M, F 251 40 [.ref 219, .int (iI b), .int (iI (2 * nW M0)), .int (iI 1)] [] M = some (none, M2) ∧ Ke [262, 263] M M2 ∧ MLab M0 md by_ b M2 ∧ ∀ e f : Int, 0 ≤ e → e < 2 * nW M0 → 0 ≤ f → f < 2 * nW M0 → pok M0 md by_ b M2 e f := by
  intro n
  induction n with
  | zero =>
    intro M h hA hs hL
    have := m_sm0 h1 h2 h4 hmd.2.2.1 hmd.2.2.2 b0 b1 hs hL
    omega
  | succ n ih =>
    intro M h hA hs hL
    have hn := h2.1
    obtain ⟨c1, M1, p1, k1, L1, m1, o1⟩ := m_down49 hF hg h1 h2 h4 h6 h7 h8 h9 hmd b0 b1 (2 * nW M0).toNat 0 M 0 (by omega) hA hs hL (Or.inl rfl)
    have e0 : iI ((0 : Nat) : Int) = iI 0 := rfl
    rw [e0] at p1
    rcases o1 with ⟨rfl, y2⟩ | ⟨rfl, y2, y3, y4⟩
    · obtain ⟨M2, p2, k2, o2⟩ := ih M1 (by omega) (hA.trans (k1.ag (by decide))) (sset_ke hs k1) L1
      refine ⟨M2, ?_, k1.trans k2, o2⟩
      have q := p1 _ p2
      refine s_Model_letsDown_40 hF hg ?_
      simp (disch := (first | omega | decide | assumption)) only [ltm_s, ok_n, rd_i, rd_j, fd_i, fd_j, wr_i, wr_j, fw_i, fw_j, ci_s, cj_s, cv_s, dv_n, dw_n, rt_1, rt_b, rt_20, rt_21, okb_0, okb_1, okb_b, nar_0, nar_1, nar_b, i_0, i_1, j_0, j_1, i_lit, j_lit, i_n, iI_add, iI_sub, iI_mul, iI_neg, jI_add, jI_sub, jI_mul, jI_neg, sh_1, an_1, xo_1, di_p, dj_p, i_64A, i_64, j_32, lq_ge, lq_lt, lq_le, lq_gt, lq_eq, i_lt, i_le, i_eq, j_eq, iI_A, jI_J, iI_b, iI_v, jI_v, ↓reduceIte, ite_true, ite_false, Int.reduceEq, Int.reduceLT, Int.reduceLE, Int.reduceAdd, Int.reduceSub, Int.reduceMul, Int.reduceNeg, not_true_eq_false, not_false_eq_true, agA hA, agJA hA, ag hA, v_nJ, v_nW, v_nD, v_toD, v_px, v_py, v_rg, v_kd, v_ft, v_on, v_bg, v_en, @nJ_ M0, @nW_ M0, @nD_ M0, @toD_ M0, @px_ M0, @py_ M0, @rg_ M0, @kd_ M0, @ft_ M0, @on_ M0, bt_, q]
    · subst y3
      refine ⟨M1, ?_, Ke.refl, hL, fun e f e0 e1 f0 f1 => y4 e f (by omega) e1 f0 f1⟩
      have q := p1 (none, M1) (by
        refine s_Model_letsDown_40 hF hg ?_
        simp (disch := (first | omega | decide | assumption)) only [ltm_s, ok_n, rd_i, rd_j, fd_i, fd_j, wr_i, wr_j, fw_i, fw_j, ci_s, cj_s, cv_s, dv_n, dw_n, rt_1, rt_b, rt_20, rt_21, okb_0, okb_1, okb_b, nar_0, nar_1, nar_b, i_0, i_1, j_0, j_1, i_lit, j_lit, i_n, iI_add, iI_sub, iI_mul, iI_neg, jI_add, jI_sub, jI_mul, jI_neg, sh_1, an_1, xo_1, di_p, dj_p, i_64A, i_64, j_32, lq_ge, lq_lt, lq_le, lq_gt, lq_eq, i_lt, i_le, i_eq, j_eq, iI_A, jI_J, iI_b, iI_v, jI_v, ↓reduceIte, ite_true, ite_false, Int.reduceEq, Int.reduceLT, Int.reduceLE, Int.reduceAdd, Int.reduceSub, Int.reduceMul, Int.reduceNeg, not_true_eq_false, not_false_eq_true])
      refine s_Model_letsDown_40 hF hg ?_
      simp (disch := (first | omega | decide | assumption)) only [ltm_s, ok_n, rd_i, rd_j, fd_i, fd_j, wr_i, wr_j, fw_i, fw_j, ci_s, cj_s, cv_s, dv_n, dw_n, rt_1, rt_b, rt_20, rt_21, okb_0, okb_1, okb_b, nar_0, nar_1, nar_b, i_0, i_1, j_0, j_1, i_lit, j_lit, i_n, iI_add, iI_sub, iI_mul, iI_neg, jI_add, jI_sub, jI_mul, jI_neg, sh_1, an_1, xo_1, di_p, dj_p, i_64A, i_64, j_32, lq_ge, lq_lt, lq_le, lq_gt, lq_eq, i_lt, i_le, i_eq, j_eq, iI_A, jI_J, iI_b, iI_v, jI_v, ↓reduceIte, ite_true, ite_false, Int.reduceEq, Int.reduceLT, Int.reduceLE, Int.reduceAdd, Int.reduceSub, Int.reduceMul, Int.reduceNeg, not_true_eq_false, not_false_eq_true, agA hA, agJA hA, ag hA, v_nJ, v_nW, v_nD, v_toD, v_px, v_py, v_rg, v_kd, v_ft, v_on, v_bg, v_en, @nJ_ M0, @nW_ M0, @nD_ M0, @toD_ M0, @px_ M0, @py_ M0, @rg_ M0, @kd_ M0, @ft_ M0, @on_ M0, bt_, q]
theorem m_down9 (hF : F = am_F T0 g) (hg : GG g) {b N : Int} (N1 : N ≤ 80) : ∀ (n k : Nat) (M : am_M), (k : Int) + n = N → (∀ e : Int, 0 ≤ e → e < (k : Int) → J M 262 e = 1000000000000 ∧ J M 263 e = 1000000000000) →
    ∃ M' : am_M, Ke [262, 263] M M' ∧ (∀ e : Int, 0 ≤ e → e < N → J M' 262 e = 1000000000000 ∧ J M' 263 e = 1000000000000) ∧ ∀ r : am_R, F 251 40 [.ref 219, .int (iI b), .int (iI N), .int (iI 1)] [] M' = some r →
    F 251 9 [.ref 219, .int (iI b), .int (iI N), .int (iI k)] [] M = some r := by
  intro n
  induction n with
  | zero =>
    intro k M h hp
    refine ⟨M, Ke.refl, fun e e0 e1 => hp e e0 (by omega), fun r hr => ?_⟩
    refine s_Model_letsDown_9 hF hg ?_
    have hlt : N ≤ (k : Int) := by omega
    simp (disch := (first | omega | decide | assumption)) only [ltm_s, ok_n, rd_i, rd_j, fd_i, fd_j, wr_i, wr_j, fw_i, fw_j, ci_s, cj_s, cv_s, dv_n, dw_n, rt_1, rt_b, rt_20, rt_21, okb_0, okb_1, okb_b, nar_0, nar_1, nar_b, i_0, i_1, j_0, j_1, i_lit, j_lit, i_n, iI_add, iI_sub, iI_mul, iI_neg, jI_add, jI_sub, jI_mul, jI_neg, sh_1, an_1, xo_1, di_p, dj_p, i_64A, i_64, j_32, lq_ge, lq_lt, lq_le, lq_gt, lq_eq, i_lt, i_le, i_eq, j_eq, iI_A, jI_J, iI_b, iI_v, jI_v, ↓reduceIte, ite_true, ite_false, Int.reduceEq, Int.reduceLT, Int.reduceLE, Int.reduceAdd, Int.reduceSub, Int.reduceMul, Int.reduceNeg, not_true_eq_false, not_false_eq_true, hlt, hr]
  | succ n ih =>
    intro k M h hp
    have ek : ((k + 1 : Nat) : Int) = (k : Int) + 1 := by omega
    have hlt : ¬ N ≤ (k : Int) := by omega
    have hK : Ke [262, 263] M (X_ (X_ M 262 k 1000000000000) 263 k 1000000000000) := (Ke.refl.x (by decide)).x (by decide)
    obtain ⟨M', q1, q2, q3⟩ := ih (k + 1) (X_ (X_ M 262 k 1000000000000) 263 k 1000000000000) (by omega) (fun e e0 e1 => by
      by_cases ee : e = k
      · rw [ee, J_Xn (by decide), J_Xs (by omega) (by omega), J_Xs (by omega) (by omega)]
        exact ⟨rfl, rfl⟩
      · rw [J_Xn (by decide), J_Xo (by omega) e0 ee, J_Xo (by omega) e0 ee, J_Xn (by decide)]
        exact hp e e0 (by omega))
    refine ⟨M', hK.trans q1, q2, fun r hr => ?_⟩
    have q4 := q3 r hr
    rw [ek] at q4
    refine s_Model_letsDown_9 hF hg ?_
    simp (disch := (first | omega | decide | assumption)) only [ltm_s, ok_n, rd_i, rd_j, fd_i, fd_j, wr_i, wr_j, fw_i, fw_j, ci_s, cj_s, cv_s, dv_n, dw_n, rt_1, rt_b, rt_20, rt_21, okb_0, okb_1, okb_b, nar_0, nar_1, nar_b, i_0, i_1, j_0, j_1, i_lit, j_lit, i_n, iI_add, iI_sub, iI_mul, iI_neg, jI_add, jI_sub, jI_mul, jI_neg, sh_1, an_1, xo_1, di_p, dj_p, i_64A, i_64, j_32, lq_ge, lq_lt, lq_le, lq_gt, lq_eq, i_lt, i_le, i_eq, j_eq, iI_A, jI_J, iI_b, iI_v, jI_v, ↓reduceIte, ite_true, ite_false, Int.reduceEq, Int.reduceLT, Int.reduceLE, Int.reduceAdd, Int.reduceSub, Int.reduceMul, Int.reduceNeg, not_true_eq_false, not_false_eq_true, hlt, q4]
/-- the labels in the end: just the least to come -/
theorem m_letsDown (hF : F = am_F T0 g) (hg : GG g) (hA : Ag M0 M) (h1 : I1 M0) (h2 : I2 M0) (h4 : I4 M0) (h6 : I6 M0) (h7 : I7 M0) (h8 : I8 M0) (h9 : I9 M0) {md : Int × Int × Int × Int} (hmd : mok M0 md) {by_ b : Int} (b0 : 0 ≤ b) (b1 : b < nD M0) (hs : sset md by_ M) :
    ∃ M2 : am_M, F 251 0 [.ref 219, .int (iI b)] [] M = some (none, M2) ∧ Ke [262, 263] M M2 ∧ MLab M0 md by_ b M2 ∧ Bel (2 * nW M0).toNat (may M0 md) (gol M0 b) (gkk M0 by_ b) (fun f => key by_ (ofv M0 M f) (prc M0 (f / 2) md.2.2.1)) (mcl M0 by_ M2) := by
  have hn := h2.1
  have u0 := hmd.2.2.1
  have u1 := hmd.2.2.2
  obtain ⟨M1, k1, i1, p1⟩ := m_down9 hF hg (b := b) (N := 2 * nW M0) (by omega) (2 * nW M0).toNat 0 M (by omega) (fun e e0 e1 => by omega)
  have A1 : Ag M0 M1 := hA.trans (k1.ag (by decide))
  have s1 := sset_ke hs k1
  have R1 := m_Lrg (md := md) h1 h2 h4 s1.2.1 u0 u1 b0 b1
  have L1 : MLab M0 md by_ b M1 := Lab.init R1 fun e e0 e1 => i1 e e0 (by omega)
  obtain ⟨M2, p2, k2, L2, o2⟩ := m_down40 hF hg h1 h2 h4 h6 h7 h8 h9 hmd b0 b1 (sm (mcl M0 by_ M1) (2 * nW M0).toNat + 1).toNat M1 (by omega) A1 s1 L1
  have R2 := m_Lrg (md := md) h1 h2 h4 (sset_ke s1 k2).2.1 u0 u1 b0 b1
  have B := Lab.done R2 L2 (fun e f e0 e1 f0 f1 hm hgf => (o2 e f e0 (by omega) f0 (by omega) hm).1 hgf) (fun e f e0 e1 f0 f1 hm hgf => (o2 e f e0 (by omega) f0 (by omega) hm).2 hgf)
  refine ⟨M2, ?_, k1.trans k2, L2, ?_⟩
  · have e0 : iI ((0 : Nat) : Int) = iI 0 := rfl
    rw [e0] at p1
    have q := p1 _ p2
    refine s_Model_letsDown hF hg ?_
    simp (disch := (first | omega | decide | assumption)) only [ltm_s, ok_n, rd_i, rd_j, fd_i, fd_j, wr_i, wr_j, fw_i, fw_j, ci_s, cj_s, cv_s, dv_n, dw_n, rt_1, rt_b, rt_20, rt_21, okb_0, okb_1, okb_b, nar_0, nar_1, nar_b, i_0, i_1, j_0, j_1, i_lit, j_lit, i_n, iI_add, iI_sub, iI_mul, iI_neg, jI_add, jI_sub, jI_mul, jI_neg, sh_1, an_1, xo_1, di_p, dj_p, i_64A, i_64, j_32, lq_ge, lq_lt, lq_le, lq_gt, lq_eq, i_lt, i_le, i_eq, j_eq, iI_A, jI_J, iI_b, iI_v, jI_v, ↓reduceIte, ite_true, ite_false, Int.reduceEq, Int.reduceLT, Int.reduceLE, Int.reduceAdd, Int.reduceSub, Int.reduceMul, Int.reduceNeg, not_true_eq_false, not_false_eq_true, agA hA, agJA hA, ag hA, v_nJ, v_nW, v_nD, v_toD, v_px, v_py, v_rg, v_kd, v_ft, v_on, v_bg, v_en, @nJ_ M0, @nW_ M0, @nD_ M0, @toD_ M0, @px_ M0, @py_ M0, @rg_ M0, @kd_ M0, @ft_ M0, @on_ M0, bt_, q]
  · have e : ofv M0 M2 = ofv M0 M := (ofv_ke k2).trans (ofv_ke k1)
    rw [e] at B
    have e2 : mcl M0 by_ M2 = cl by_ (ofv M0 M) (J M2 262) (J M2 263) := by
      funext k; unfold mcl; rw [e]
    rw [e2]; exact B
end Dn
