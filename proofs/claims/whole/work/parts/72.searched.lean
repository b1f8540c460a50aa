/-! THE MODEL'S SEARCH: just what the finder finds -/
/-- what the search leaves -/
def Srd (M0 : am_M) (md : Int × Int × Int × Int) (by_ a b : Int) (C : Int → Int) (M M' : am_M) : Prop :=
  Ke [219, 262, 263, 264] M M' ∧ Ag M0 M' ∧ rsp M0 md by_ a b C (A M' 219 64) (A M' 264) ∧
  (bvl M0 md by_ a b C = FARC → J M' 219 65 = -1 ∧ J M' 219 66 = -1) ∧
  (bvl M0 md by_ a b C ≠ FARC → (0 ≤ J M' 219 65 ∧ J M' 219 65 ≤ 4000000) ∧ (0 ≤ J M' 219 66 ∧ J M' 219 66 ≤ 4000000) ∧ key by_ (J M' 219 65) (J M' 219 66) = bvl M0 md by_ a b C) ∧
  (∀ z : Int, 0 ≤ z → z ≠ 64 → ¬ (67 ≤ z ∧ z ≤ 70) → A M' 219 z = A M 219 z) ∧ ∀ z : Int, 0 ≤ z → z ≠ 65 → z ≠ 66 → J M' 219 z = J M 219 z
section Sd
variable {M0 M M' : am_M} {g : am_G} {F : am_FT}
theorem bg2 {w : Int} : bg M0 (2 * w) = A M0 224 w := by
  unfold bg
  rw [if_pos (by omega), show 2 * w / 2 = w by omega]
/-- from the labels on -/
theorem m_srch (hF : F = am_F T0 g) (hg : GG g) (h1 : I1 M0) (h2 : I2 M0) (h3 : I3 M0) (h4 : I4 M0) (h6 : I6 M0) (h7 : I7 M0) (h8 : I8 M0) (h9 : I9 M0) {md : Int × Int × Int × Int} (hmd : mok M0 md) {by_ a b : Int} {C : Int → Int} (a0 : 0 ≤ a) (a1 : a < nD M0) (b0 : 0 ≤ b) (b1 : b < nD M0) (hC : Cok M0 md by_ a b C) (hL : Lbs M0 md by_ a b C M) (h64 : A M 219 64 = 0) (h65 : J M 219 65 = -1) (h66 : J M 219 66 = -1) :
    ∃ M' : am_M, F 260 129 [.ref 219, .int (iI a), .int (iI b), .long (jI 1000000000000), .long (jI 1000000000000), .int (iI (-1)), .int (iI 0), .int (iI (2 * A M0 228 a))] [] M = some (none, M') ∧ Ke [219, 264] M M' ∧ Ag M0 M' ∧ rsp M0 md by_ a b C (A M' 219 64) (A M' 264) ∧
    (bvl M0 md by_ a b C = FARC → J M' 219 65 = -1 ∧ J M' 219 66 = -1) ∧
    (bvl M0 md by_ a b C ≠ FARC → (0 ≤ J M' 219 65 ∧ J M' 219 65 ≤ 4000000) ∧ (0 ≤ J M' 219 66 ∧ J M' 219 66 ≤ 4000000) ∧ key by_ (J M' 219 65) (J M' 219 66) = bvl M0 md by_ a b C) ∧
    (∀ z : Int, 0 ≤ z → z ≠ 64 → A M' 219 z = A M 219 z) ∧ ∀ z : Int, 0 ≤ z → z ≠ 65 → z ≠ 66 → J M' 219 z = J M 219 z := by
  have hn := h2.1
  have hd := h4.1
  have eF : FARC = 9223372036854775807 := rfl
  have wa := (h4.2.2 a a0 a1).1
  have hA := hL.1
  have r0 := vst_r h1 h2 h4 a0 a1 b0 b1 hC (e := 2 * A M0 228 a) (by omega) (by omega)
  have r1 := vst_r h1 h2 h4 a0 a1 b0 b1 hC (e := 2 * A M0 228 a + 1) (by omega) (by omega)
  have S0 : Sof M0 by_ a b FARC 1000000000000 1000000000000 (-1) 0 := Or.inl ⟨rfl, rfl, rfl, rfl, rfl⟩
  obtain ⟨t1, k1, s1, l1, p1, q1, x1, y1⟩ := m_out hF hg h1 h2 h4 h6 hmd a0 a1 b0 b1 hC hL (e := 2 * A M0 228 a) (by omega) (by omega) (by omega) (Or.inl rfl) S0
  have S1 : Sof M0 by_ a b (vst M0 md by_ a b C (2 * A M0 228 a)) t1 k1 s1 l1 ∧ (-1 ≤ s1 ∧ s1 < 80) ∧ (vst M0 md by_ a b C (2 * A M0 228 a) ≠ FARC → s1 = 2 * A M0 228 a) := by
    by_cases z : vst M0 md by_ a b C (2 * A M0 228 a) < FARC
    · obtain ⟨z1, z2⟩ := x1 z
      subst z1
      exact ⟨z2, by omega, fun _ => rfl⟩
    · obtain ⟨z1, z2, z3, z4⟩ := y1 z
      have : vst M0 md by_ a b C (2 * A M0 228 a) = FARC := by omega
      rw [z1, z2, z3, z4, this]
      exact ⟨S0, by omega, fun x => absurd rfl x⟩
  obtain ⟨S1, rs1, es1⟩ := S1
  obtain ⟨t2, k2, s2, l2, p2, q2, x2, y2⟩ := m_out hF hg h1 h2 h4 h6 hmd a0 a1 b0 b1 hC hL (e := 2 * A M0 228 a + 1) (by omega) rs1.2 rs1.1 q1 S1
  have S2 : Sof M0 by_ a b (bvl M0 md by_ a b C) t2 k2 s2 l2 ∧ (-1 ≤ s2 ∧ s2 < 80) ∧ (bvl M0 md by_ a b C ≠ FARC → s2 = sbl M0 md by_ a b C) := by
    unfold bvl sbl
    by_cases z : vst M0 md by_ a b C (2 * A M0 228 a + 1) < vst M0 md by_ a b C (2 * A M0 228 a)
    · obtain ⟨z1, z2⟩ := x2 z
      subst z1
      rw [if_pos z]
      exact ⟨z2, by omega, fun _ => rfl⟩
    · obtain ⟨z1, z2, z3, z4⟩ := y2 z
      rw [z1, z2, z3, z4, if_neg z]
      exact ⟨S1, by omega, es1⟩
  obtain ⟨S2, rs2, es2⟩ := S2
  have ez : 2 * A M0 228 a + 1 + 1 = 2 * A M0 228 a + 2 := by omega
  rw [ez] at p2
  have hlt : (2 * A M0 228 a + 1 < 2 * A M0 228 a + 2) = True := eq_true (by omega)
  by_cases q : bvl M0 md by_ a b C = FARC
  · have hs : s2 = -1 ∧ t2 = 1000000000000 ∧ k2 = 1000000000000 ∧ l2 = 0 := by
      rcases S2 with x | x
      · omega
      · exact absurd q x.2.1
    refine ⟨M, p1 _ (p2 _ ?_), Ke.refl, hA, ⟨fun _ => h64, fun x => absurd q x, fun x => absurd q x⟩, fun _ => ⟨h65, h66⟩, fun x => absurd q x, fun z _ _ => rfl, fun z _ _ _ => rfl⟩
    obtain ⟨e1, e2, e3, e4⟩ := hs
    subst e1 e2 e3 e4
    refine s_Model_search_129 hF hg ?_
    simp (config := { maxSteps := 1000000 }) (disch := (first | omega | decide | assumption)) only [ltm_s, ok_n, rd_i, rd_j, fd_i, fd_j, wr_i, wr_j, fw_i, fw_j, ci_s, cj_s, cv_s, dv_n, dw_n, rt_1, rt_b, rt_20, rt_21, okb_0, okb_1, okb_b, nar_0, nar_1, nar_b, i_0, i_1, j_0, j_1, i_lit, j_lit, i_n, iI_add, iI_sub, iI_mul, iI_neg, jI_add, jI_sub, jI_mul, jI_neg, sh_1, an_1, xo_1, di_p, dj_p, i_64A, i_64, j_32, lq_ge, lq_lt, lq_le, lq_gt, lq_eq, i_lt, i_le, i_eq, j_eq, iI_A, jI_J, iI_b, iI_v, jI_v, ↓reduceIte, ite_true, ite_false, Int.reduceEq, Int.reduceLT, Int.reduceLE, Int.reduceAdd, Int.reduceSub, Int.reduceMul, Int.reduceNeg, not_true_eq_false, not_false_eq_true, agA hA, agJA hA, ag hA, v_nJ, v_nW, v_nD, v_toD, v_px, v_py, v_rg, v_kd, v_ft, v_on, v_bg, v_en, @nJ_ M0, @nW_ M0, @nD_ M0, @toD_ M0, @px_ M0, @py_ M0, @rg_ M0, @kd_ M0, @ft_ M0, @on_ M0, bt_, hlt]
  · have S2 := S2.resolve_left (fun x => q x.1)
    have es2 := es2 q
    obtain ⟨c1, c2, c3, c4, c5, c6, c7⟩ := S2
    have hsb : s2 / 2 = A M0 228 a ∧ 0 ≤ s2 ∧ s2 < 2 * nW M0 := by
      have : s2 = 2 * A M0 228 a ∨ s2 = 2 * A M0 228 a + 1 := by
        rw [es2]; unfold sbl; split
        · exact Or.inr rfl
        · exact Or.inl rfl
      omega
    have hne : ¬ s2 = -1 := by omega
    -- the cells written
    have L9 : Lbs M0 md by_ a b C (W_ (W_ (X_ (X_ M 219 65 t2) 219 66 k2) 264 0 s2) 219 64 1) := by
      have : Lbs M0 md by_ a b C (X_ (X_ M 219 65 t2) 219 66 k2) := by
        obtain ⟨x1, x2, x3, x4⟩ := hL
        refine ⟨(x1.x rfl).x rfl, x2, x3, fun e e0 e1 => ?_⟩
        rw [J_Xn (by decide), J_Xn (by decide), J_Xn (by decide), J_Xn (by decide)]
        exact x4 e e0 e1
      exact this.w
    have j65 : J (W_ (W_ (X_ (X_ M 219 65 t2) 219 66 k2) 264 0 s2) 219 64 1) 219 65 = t2 := by
      show J (X_ (X_ M 219 65 t2) 219 66 k2) 219 65 = t2
      rw [J_Xo (by omega) (by omega) (by omega), J_Xs (by omega) (by omega)]
    have j66 : J (W_ (W_ (X_ (X_ M 219 65 t2) 219 66 k2) 264 0 s2) 219 64 1) 219 66 = k2 := by
      show J (X_ (X_ M 219 65 t2) 219 66 k2) 219 66 = k2
      rw [J_Xs (by omega) (by omega)]
    have jo : ∀ z : Int, 0 ≤ z → z ≠ 65 → z ≠ 66 → J (W_ (W_ (X_ (X_ M 219 65 t2) 219 66 k2) 264 0 s2) 219 64 1) 219 z = J M 219 z := fun z z0 z1 z2 => by
      show J (X_ (X_ M 219 65 t2) 219 66 k2) 219 z = _
      rw [J_Xo (by omega) z0 z2, J_Xo (by omega) z0 z1]
    have a64 : A (W_ (W_ (X_ (X_ M 219 65 t2) 219 66 k2) 264 0 s2) 219 64 1) 219 64 = 1 := A_Ws (by omega) (by omega)
    have a264 : A (W_ (W_ (X_ (X_ M 219 65 t2) 219 66 k2) 264 0 s2) 219 64 1) 264 0 = s2 := by rw [A_Wn (by decide), A_Ws (by omega) (by omega)]
    have ao : ∀ z : Int, 0 ≤ z → z ≠ 64 → A (W_ (W_ (X_ (X_ M 219 65 t2) 219 66 k2) 264 0 s2) 219 64 1) 219 z = A M 219 z := fun z z0 z1 => by
      rw [A_Wo (by omega) z0 z1, A_Wn (by decide)]; rfl
    have K9 : Ke [219, 264] M (W_ (W_ (X_ (X_ M 219 65 t2) 219 66 k2) 264 0 s2) 219 64 1) := (((Ke.refl.x (by simp)).x (by simp)).w (by simp)).w (by simp)
    have go : ∀ M' : am_M, F 260 313 [.ref 219, .int (iI b), .int (iI l2)] [] (W_ (W_ (X_ (X_ M 219 65 t2) 219 66 k2) 264 0 s2) 219 64 1) = some (none, M') → F 260 129 [.ref 219, .int (iI a), .int (iI b), .long (jI 1000000000000), .long (jI 1000000000000), .int (iI (-1)), .int (iI 0), .int (iI (2 * A M0 228 a))] [] M = some (none, M') := fun M' hq => by
      refine p1 _ (p2 _ ?_)
      refine s_Model_search_129 hF hg ?_
      simp (config := { maxSteps := 1000000 }) (disch := (first | omega | decide | assumption)) only [ltm_s, ok_n, rd_i, rd_j, fd_i, fd_j, wr_i, wr_j, fw_i, fw_j, ci_s, cj_s, cv_s, dv_n, dw_n, rt_1, rt_b, rt_20, rt_21, okb_0, okb_1, okb_b, nar_0, nar_1, nar_b, i_0, i_1, j_0, j_1, i_lit, j_lit, i_n, iI_add, iI_sub, iI_mul, iI_neg, jI_add, jI_sub, jI_mul, jI_neg, sh_1, an_1, xo_1, di_p, dj_p, i_64A, i_64, j_32, lq_ge, lq_lt, lq_le, lq_gt, lq_eq, i_lt, i_le, i_eq, j_eq, iI_A, jI_J, iI_b, iI_v, jI_v, ↓reduceIte, ite_true, ite_false, Int.reduceEq, Int.reduceLT, Int.reduceLE, Int.reduceAdd, Int.reduceSub, Int.reduceMul, Int.reduceNeg, not_true_eq_false, not_false_eq_true, agA hA, agJA hA, ag hA, v_nJ, v_nW, v_nD, v_toD, v_px, v_py, v_rg, v_kd, v_ft, v_on, v_bg, v_en, @nJ_ M0, @nW_ M0, @nD_ M0, @toD_ M0, @px_ M0, @py_ M0, @rg_ M0, @kd_ M0, @ft_ M0, @on_ M0, bt_, hlt, hne, hq]
    by_cases al : alone M0 by_ a b s2 = bvl M0 md by_ a b C
    · have hl := c6 al
      subst hl
      refine ⟨_, go _ (by
        refine s_Model_search_313 hF hg ?_
        simp (config := { maxSteps := 1000000 }) (disch := (first | omega | decide | assumption)) only [ltm_s, ok_n, rd_i, rd_j, fd_i, fd_j, wr_i, wr_j, fw_i, fw_j, ci_s, cj_s, cv_s, dv_n, dw_n, rt_1, rt_b, rt_20, rt_21, okb_0, okb_1, okb_b, nar_0, nar_1, nar_b, i_0, i_1, j_0, j_1, i_lit, j_lit, i_n, iI_add, iI_sub, iI_mul, iI_neg, jI_add, jI_sub, jI_mul, jI_neg, sh_1, an_1, xo_1, di_p, dj_p, i_64A, i_64, j_32, lq_ge, lq_lt, lq_le, lq_gt, lq_eq, i_lt, i_le, i_eq, j_eq, iI_A, jI_J, iI_b, iI_v, jI_v, ↓reduceIte, ite_true, ite_false, Int.reduceEq, Int.reduceLT, Int.reduceLE, Int.reduceAdd, Int.reduceSub, Int.reduceMul, Int.reduceNeg, not_true_eq_false, not_false_eq_true]), K9, L9.1, ⟨fun x => absurd x q, fun _ _ => ⟨a64, by rw [a264, es2]⟩, fun _ x => absurd (by rw [← es2]; exact al) x⟩, fun x => absurd x q, fun _ => ?_, ao, jo⟩
      rw [j65, j66]; exact ⟨c3, c4, c5⟩
    · have hl := c7 al
      subst hl
      have hvs : vst M0 md by_ a b C s2 = bvl M0 md by_ a b C := by rw [es2]; rfl
      have hcs : C s2 ≠ FARC := by
        have := (vst_r h1 h2 h4 a0 a1 b0 b1 hC hsb.2.1 hsb.2.2).resolve_left (by rw [hvs]; exact q)
        rw [hvs] at this
        exact (this.2.resolve_left al).1
      obtain ⟨m, hP, hm⟩ := C_pth h1 h2 h4 hmd.2.2.1 hmd.2.2.2 a0 a1 b0 b1 hC.1 hsb.2.1 hsb.2.2 hcs
      obtain ⟨M', w1, w2, w3, w4, w5, w6, w7⟩ := m_walk hF hg h1 h2 h4 h6 h7 h8 h9 hmd a0 a1 b0 b1 hC hP hm m 0 _ (by omega) L9 (by rw [a64]; rfl) (fun j hj => by
        have : j = 0 := by omega
        subst this
        exact a264)
      refine ⟨M', go _ w1, K9.trans w2, w3, ⟨fun x => absurd x q, fun _ x => absurd (by rw [es2]; exact x) al, fun _ _ => ⟨m, by rw [← es2]; exact hP, hm, w4, fun j hj => by rw [w5 j hj, es2]⟩⟩, fun x => absurd x q, fun _ => ?_, fun z z0 z1 => by rw [w6 z z0 z1, ao z z0 z1], fun z z0 z1 z2 => by rw [w7, jo z z0 z1 z2]⟩
      rw [w7, w7, j65, j66]; exact ⟨c3, c4, c5⟩
theorem m_search (hF : F = am_F T0 g) (hg : GG g) (hA : Ag M0 M) (h1 : I1 M0) (h2 : I2 M0) (h3 : I3 M0) (h4 : I4 M0) (h6 : I6 M0) (h7 : I7 M0) (h8 : I8 M0) (h9 : I9 M0) {md : Int × Int × Int × Int} (hmd : mok M0 md) {by_ a b : Int} {C : Int → Int} (hb01 : by_ = 0 ∨ by_ = 1) (a0 : 0 ≤ a) (a1 : a < nD M0) (b0 : 0 ≤ b) (b1 : b < nD M0) (hC : Cok M0 md by_ a b C) (hs : mset md M) (hby : A M 219 60 = by_) :
    ∃ M' : am_M, F 260 0 [.ref 219, .int (iI a), .int (iI b)] [] M = some (none, M') ∧ Srd M0 md by_ a b C M M' := by
  have hn := h2.1
  have hd := h4.1
  have hJ := h1.1
  have eF : FARC = 9223372036854775807 := rfl
  have wa := (h4.2.2 a a0 a1).1
  have wb := (h4.2.2 b b0 b1).1
  have sa := (h2.2.2.2 (2 * A M0 228 a) (by omega) (by omega)).1
  have sb := (h2.2.2.2 (2 * A M0 228 b) (by omega) (by omega)).1
  have ps := h1.2.2.1 _ sa.1 sa.2
  have pt := h1.2.2.1 _ sb.1 sb.2
  have ea : bg M0 (2 * A M0 228 a) = A M0 224 (A M0 228 a) := bg2
  have eb : bg M0 (2 * A M0 228 b) = A M0 224 (A M0 228 b) := bg2
  have R : (0 ≤ A M0 224 (A M0 228 a) ∧ A M0 224 (A M0 228 a) < 24) ∧ 0 ≤ A M0 224 (A M0 228 b) ∧ A M0 224 (A M0 228 b) < 24 := by omega
  rw [ea] at ps
  rw [eb] at pt
  -- the string set
  have K1 : Ke [219] M (W_ M 219 67 (px M0 (A M0 224 (A M0 228 a)))) := Ke.refl.w (by simp)
  have K2 : Ke [219] M (W_ (W_ M 219 67 (px M0 (A M0 224 (A M0 228 a)))) 219 68 (py M0 (A M0 224 (A M0 228 a)))) := K1.w (by simp)
  have K3 : Ke [219] M (W_ (W_ (W_ M 219 67 (px M0 (A M0 224 (A M0 228 a)))) 219 68 (py M0 (A M0 224 (A M0 228 a)))) 219 69 (px M0 (A M0 224 (A M0 228 b)))) := K2.w (by simp)
  have K4 : Ke [219] M (W_ (W_ (W_ (W_ M 219 67 (px M0 (A M0 224 (A M0 228 a)))) 219 68 (py M0 (A M0 224 (A M0 228 a)))) 219 69 (px M0 (A M0 224 (A M0 228 b)))) 219 70 (py M0 (A M0 224 (A M0 228 b)))) := K3.w (by simp)
  have A4 : Ag M0 (W_ (W_ (W_ (W_ M 219 67 (px M0 (A M0 224 (A M0 228 a)))) 219 68 (py M0 (A M0 224 (A M0 228 a)))) 219 69 (px M0 (A M0 224 (A M0 228 b)))) 219 70 (py M0 (A M0 224 (A M0 228 b)))) := (((hA.w rfl).w rfl).w rfl).w rfl
  have f67 : A (W_ (W_ (W_ (W_ M 219 67 (px M0 (A M0 224 (A M0 228 a)))) 219 68 (py M0 (A M0 224 (A M0 228 a)))) 219 69 (px M0 (A M0 224 (A M0 228 b)))) 219 70 (py M0 (A M0 224 (A M0 228 b)))) 219 67 = px M0 (A M0 224 (A M0 228 a)) := by rw [A_Wo (by omega) (by omega) (by omega), A_Wo (by omega) (by omega) (by omega), A_Wo (by omega) (by omega) (by omega), A_Ws (by omega) (by omega)]
  have f68 : A (W_ (W_ (W_ (W_ M 219 67 (px M0 (A M0 224 (A M0 228 a)))) 219 68 (py M0 (A M0 224 (A M0 228 a)))) 219 69 (px M0 (A M0 224 (A M0 228 b)))) 219 70 (py M0 (A M0 224 (A M0 228 b)))) 219 68 = py M0 (A M0 224 (A M0 228 a)) := by rw [A_Wo (by omega) (by omega) (by omega), A_Wo (by omega) (by omega) (by omega), A_Ws (by omega) (by omega)]
  have f69 : A (W_ (W_ (W_ (W_ M 219 67 (px M0 (A M0 224 (A M0 228 a)))) 219 68 (py M0 (A M0 224 (A M0 228 a)))) 219 69 (px M0 (A M0 224 (A M0 228 b)))) 219 70 (py M0 (A M0 224 (A M0 228 b)))) 219 69 = px M0 (A M0 224 (A M0 228 b)) := by rw [A_Wo (by omega) (by omega) (by omega), A_Ws (by omega) (by omega)]
  have f70 : A (W_ (W_ (W_ (W_ M 219 67 (px M0 (A M0 224 (A M0 228 a)))) 219 68 (py M0 (A M0 224 (A M0 228 a)))) 219 69 (px M0 (A M0 224 (A M0 228 b)))) 219 70 (py M0 (A M0 224 (A M0 228 b)))) 219 70 = py M0 (A M0 224 (A M0 228 b)) := by rw [A_Ws (by omega) (by omega)]
  have fo : ∀ z : Int, 0 ≤ z → ¬ (67 ≤ z ∧ z ≤ 70) → A (W_ (W_ (W_ (W_ M 219 67 (px M0 (A M0 224 (A M0 228 a)))) 219 68 (py M0 (A M0 224 (A M0 228 a)))) 219 69 (px M0 (A M0 224 (A M0 228 b)))) 219 70 (py M0 (A M0 224 (A M0 228 b)))) 219 z = A M 219 z := fun z z0 z1 => by rw [A_Wo (by omega) z0 (by omega), A_Wo (by omega) z0 (by omega), A_Wo (by omega) z0 (by omega), A_Wo (by omega) z0 (by omega)]
  have fj : ∀ z : Int, J (W_ (W_ (W_ (W_ M 219 67 (px M0 (A M0 224 (A M0 228 a)))) 219 68 (py M0 (A M0 224 (A M0 228 a)))) 219 69 (px M0 (A M0 224 (A M0 228 b)))) 219 70 (py M0 (A M0 224 (A M0 228 b)))) 219 z = J M 219 z := fun z => rfl
  have suff : (∃ M' : am_M, ∀ M4 : am_M, M4 = (W_ (W_ (W_ (W_ M 219 67 (px M0 (A M0 224 (A M0 228 a)))) 219 68 (py M0 (A M0 224 (A M0 228 a)))) 219 69 (px M0 (A M0 224 (A M0 228 b)))) 219 70 (py M0 (A M0 224 (A M0 228 b)))) → ∃ M5 : am_M, F 251 0 [.ref 219, .int (iI b)] [] M4 = some (none, M5) ∧ A M5 228 a = A M0 228 a ∧ F 260 129 [.ref 219, .int (iI a), .int (iI b), .long (jI 1000000000000), .long (jI 1000000000000), .int (iI (-1)), .int (iI 0), .int (iI (2 * A M0 228 a))] [] (X_ (X_ (W_ M5 219 64 0) 219 65 (-1)) 219 66 (-1)) = some (none, M') ∧ Srd M0 md by_ a b C M M') → ∃ M' : am_M, F 260 0 [.ref 219, .int (iI a), .int (iI b)] [] M = some (none, M') ∧ Srd M0 md by_ a b C M M' := fun hh => by
    obtain ⟨M', hh⟩ := hh
    obtain ⟨M5, d1, d2, d3, d4⟩ := hh _ rfl
    refine ⟨M', ?_, d4⟩
    refine s_Model_search hF hg ?_
    simp (config := { maxSteps := 1000000 }) (disch := (first | omega | decide | assumption)) only [ltm_s, ok_n, rd_i, rd_j, fd_i, fd_j, wr_i, wr_j, fw_i, fw_j, ci_s, cj_s, cv_s, dv_n, dw_n, rt_1, rt_b, rt_20, rt_21, okb_0, okb_1, okb_b, nar_0, nar_1, nar_b, i_0, i_1, j_0, j_1, i_lit, j_lit, i_n, iI_add, iI_sub, iI_mul, iI_neg, jI_add, jI_sub, jI_mul, jI_neg, sh_1, an_1, xo_1, di_p, dj_p, i_64A, i_64, j_32, lq_ge, lq_lt, lq_le, lq_gt, lq_eq, i_lt, i_le, i_eq, j_eq, iI_A, jI_J, iI_b, iI_v, jI_v, ↓reduceIte, ite_true, ite_false, Int.reduceEq, Int.reduceLT, Int.reduceLE, Int.reduceAdd, Int.reduceSub, Int.reduceMul, Int.reduceNeg, not_true_eq_false, not_false_eq_true, agA hA, agJA hA, ag hA, v_nJ, v_nW, v_nD, v_toD, v_px, v_py, v_rg, v_kd, v_ft, v_on, v_bg, v_en, @nJ_ M0, @nW_ M0, @nD_ M0, @toD_ M0, @px_ M0, @py_ M0, @rg_ M0, @kd_ M0, @ft_ M0, @on_ M0, bt_, A_Wn, d1, A_X, d2, d3]
  refine suff ?_
  generalize (W_ (W_ (W_ (W_ M 219 67 (px M0 (A M0 224 (A M0 228 a)))) 219 68 (py M0 (A M0 224 (A M0 228 a)))) 219 69 (px M0 (A M0 224 (A M0 228 b)))) 219 70 (py M0 (A M0 224 (A M0 228 b)))) = M4 at *
  clear suff
  have hss : sset md by_ M4 := by
    unfold sset mset cset
    rw [fo 56 (by omega) (by omega), fo 57 (by omega) (by omega), fo 58 (by omega) (by omega), fo 59 (by omega) (by omega), fo 60 (by omega) (by omega), f67, f68, f69, f70]
    exact ⟨hs, ⟨ps.1, ps.2.1, pt.1, pt.2.1⟩, hby, hb01⟩
  have hO : ofv M0 M4 = offs M0 a b := by
    funext e
    unfold ofv offs strg
    rw [f67, f68, f69, f70, ea, eb]
  obtain ⟨M5, d1, d2, d3, d4⟩ := m_letsDown hF hg A4 h1 h2 h4 h6 h7 h8 h9 hmd b0 b1 hss
  have A5 : Ag M0 M5 := A4.trans (d2.ag (by decide))
  have s5 := sset_ke hss d2
  have O5 : ofv M0 M5 = offs M0 a b := (ofv_ke d2).trans hO
  have hR := m_Lrg (md := md) h1 h2 h4 s5.2.1 hmd.2.2.1 hmd.2.2.2 b0 b1
  rw [hO] at d4
  have hB5 : Bel_ M0 md by_ a b (mcl M0 by_ M5) := d4
  have hCC : ∀ e : Int, 0 ≤ e → e < 2 * nW M0 → mcl M0 by_ M5 e = C e := fun e e0 e1 => Bel.eq (fun f f0 f1 => (wkk_r h1 h2 h4 (by_ := by_) a0 a1 b0 b1 hmd.2.2.1 hmd.2.2.2 f0 (by omega)).1) hB5 hC.1 e0 (by omega)
  have K6 : Ke [219] M5 (X_ (X_ (W_ M5 219 64 0) 219 65 (-1)) 219 66 (-1)) := ((Ke.refl.w (by simp)).x (by simp)).x (by simp)
  have L6 : Lbs M0 md by_ a b C (X_ (X_ (W_ M5 219 64 0) 219 65 (-1)) 219 66 (-1)) := by
    have e : ∀ z : Int, 0 ≤ z → z ≠ 64 → A (X_ (X_ (W_ M5 219 64 0) 219 65 (-1)) 219 66 (-1)) 219 z = A M5 219 z := fun z z0 z1 => by
      show A (W_ M5 219 64 0) 219 z = _
      rw [A_Wo (by omega) z0 z1]
    refine ⟨((A5.w rfl).x rfl).x rfl, ?_, ?_, fun x x0 x1 => ?_⟩
    · unfold sset mset cset
      rw [e 56 (by omega) (by omega), e 57 (by omega) (by omega), e 58 (by omega) (by omega), e 59 (by omega) (by omega), e 60 (by omega) (by omega), e 67 (by omega) (by omega), e 68 (by omega) (by omega), e 69 (by omega) (by omega), e 70 (by omega) (by omega)]
      exact s5
    · rw [← O5]
      funext x
      unfold ofv
      rw [e 67 (by omega) (by omega), e 68 (by omega) (by omega), e 69 (by omega) (by omega), e 70 (by omega) (by omega)]
    · rw [J_Xn (by decide), J_Xn (by decide), J_Xn (by decide), J_Xn (by decide), J_W, J_W]
      have r := Lab.r hR d3 x0 (by omega)
      rw [O5] at r
      have hc : cl by_ (offs M0 a b) (J M5 262) (J M5 263) x = C x := by
        rw [← hCC x x0 x1]
        show _ = cl by_ (ofv M0 M5) (J M5 262) (J M5 263) x
        rw [O5]
      rw [hc] at r
      rcases r with r | r
      · exact Or.inl r
      · exact Or.inr ⟨r.1, r.2.1, by omega, r.2.2.1⟩
  obtain ⟨M', w1, w2, w3, w4, w5, w6, w7, w8⟩ := m_srch hF hg h1 h2 h3 h4 h6 h7 h8 h9 hmd a0 a1 b0 b1 hC L6 (by show A (W_ M5 219 64 0) 219 64 = 0; rw [A_Ws (by omega) (by omega)]) (by rw [J_Xo (by omega) (by omega) (by omega), J_Xs (by omega) (by omega)]) (by rw [J_Xs (by omega) (by omega)])
  refine ⟨M', fun M4' hM4 => ⟨M5, by rw [hM4]; exact d1, agA A5 (by decide), w1, (K4.mono (by simp)).trans ((d2.mono (by simp)).trans ((K6.mono (by simp)).trans (w2.mono (by simp)))), w3, w4, w5, w6, fun z z0 z1 z2 => ?_, fun z z0 z1 z2 => ?_⟩⟩
  · rw [w7 z z0 z1]
    show A (W_ M5 219 64 0) 219 z = _
    rw [A_Wo (by omega) z0 z1, d2.a (by decide), fo z z0 z2]
  · rw [w8 z z0 z1 z2, J_Xo (by omega) z0 z2, J_Xo (by omega) z0 z1, J_W, d2.j (by decide), fj]
end Sd
