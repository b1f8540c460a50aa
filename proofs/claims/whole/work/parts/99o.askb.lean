/-! ASK, by both -/
section Ab_
variable {M0 M N M' : am_M} {g : am_G} {F : am_FT}
theorem b_ask (hF : F = am_F T0 g) (hg : GG g) (hI : Inv M) {p a b hour : Int} (p1 : -2147483648 ≤ p) (p2 : p < 2147483648) (a1 : -2147483648 ≤ a) (a2 : a < 2147483648) (b1 : -2147483648 ≤ b) (b2 : b < 2147483648) (u1 : -2147483648 ≤ hour) (u2 : hour < 2147483648) :
    ∃ (r : Int) (M1 M2 : am_M), F 254 0 [.ref 0, .int (iI p), .int (iI a), .int (iI b), .int (iI hour)] [] M = some (some (.int (iI r)), M1) ∧ F 271 0 [.ref 219, .int (iI p), .int (iI a), .int (iI b), .int (iI hour)] [] M1 = some (some (.int (iI r)), M2) ∧ Inv M2 := by
  have hI' := hI
  obtain ⟨h1, h2, h3, h4, h5, h6, h7, h8, h9, h10, h11, h12, h13, h14, h15, h16, h17, h18, h19, hm, ht⟩ := hI
  obtain ⟨s1, s2, s3⟩ := id h17
  have hd := h4.1
  have hn := h2.1
  have hp := h15.1
  have h81 := h8.1
  have hA := Ag.refl M
  have cp := c_noPupil hF hg h15 p1 p2
  have mp := m_isPupil hF hg h15.1 p1 p2
  by_cases q0 : p < 0 ∨ A M 219 41 - 1 < p
  · rw [bI_t q0] at cp
    rw [bI_f (by omega)] at mp
    refine ⟨-1, M, M, ?_, ?_, hI'⟩
    · refine s_RunSayer_ask hF hg ?_
      refine ci_in cp ?_
      rfl
    · refine s_Model_ask hF hg ?_
      refine ci_in mp ?_
      rfl
  rw [bI_f q0] at cp
  rw [bI_t (by omega)] at mp
  have cd := c_noDoors hF hg hA h4 a1 a2 b1 b2
  have ma := m_isDoor hF hg hA h4 a1 a2
  have mb := m_isDoor hF hg hA h4 b1 b2
  by_cases q1 : (a < 0 ∨ nD M - 1 < a) ∨ b < 0 ∨ nD M - 1 < b
  · rw [bI_t q1] at cd
    refine ⟨-1, M, M, ?_, ?_, hI'⟩
    · refine s_RunSayer_ask hF hg ?_
      refine ci_in (cp) ?_
      rw [if_pos (show iI 0 = 0 from rfl)]
      refine ci_in cd ?_
      rfl
    · refine s_Model_ask hF hg ?_
      refine ci_in (mp) ?_
      rw [if_neg (show ¬ iI 1 = 0 by decide)]
      by_cases q2 : 0 ≤ a ∧ a ≤ nD M - 1
      · have q3 : ¬ (0 ≤ b ∧ b ≤ nD M - 1) := by omega
        rw [bI_t q2] at ma
        rw [bI_f q3] at mb
        refine ci_in (ma) ?_
        rw [if_neg (show ¬ iI 1 = 0 by decide)]
        refine ci_in mb ?_
        rfl
      · rw [bI_f q2] at ma
        refine ci_in ma ?_
        rfl
  rw [bI_f q1] at cd
  rw [bI_t (by omega)] at ma mb
  by_cases q2 : a = b
  · refine ⟨-2, M, M, ?_, ?_, hI'⟩
    · refine s_RunSayer_ask hF hg ?_
      refine ci_in (cp) ?_
      rw [if_pos (show iI 0 = 0 from rfl)]
      refine ci_in (cd) ?_
      rw [if_pos (show iI 0 = 0 from rfl)]
      rw [if_pos (show iI a = iI b by rw [q2])]
      rfl
    · refine s_Model_ask hF hg ?_
      refine ci_in (mp) ?_
      rw [if_neg (show ¬ iI 1 = 0 by decide)]
      refine ci_in (ma) ?_
      rw [if_neg (show ¬ iI 1 = 0 by decide)]
      refine ci_in (mb) ?_
      rw [if_neg (show ¬ iI 1 = 0 by decide)]
      rw [if_pos (show iI a = iI b by rw [q2])]
      rfl
  have ne : ¬ iI a = iI b := fun h => by
    have := congrArg Int32.toInt h
    rw [iI_v a1 a2, iI_v b1 b2] at this
    exact q2 this
  have ch := c_noHour hF hg (M := M) u1 u2
  have mh := m_isHour hF hg (M := M) u1 u2
  by_cases q3 : hour < 0 ∨ 23 < hour
  · rw [bI_t q3] at ch
    rw [bI_f (by omega)] at mh
    refine ⟨-2, M, M, ?_, ?_, hI'⟩
    · refine s_RunSayer_ask hF hg ?_
      refine ci_in (cp) ?_
      rw [if_pos (show iI 0 = 0 from rfl)]
      refine ci_in (cd) ?_
      rw [if_pos (show iI 0 = 0 from rfl)]
      rw [if_neg ne]
      refine ci_in ch ?_
      rfl
    · refine s_Model_ask hF hg ?_
      refine ci_in (mp) ?_
      rw [if_neg (show ¬ iI 1 = 0 by decide)]
      refine ci_in (ma) ?_
      rw [if_neg (show ¬ iI 1 = 0 by decide)]
      refine ci_in (mb) ?_
      rw [if_neg (show ¬ iI 1 = 0 by decide)]
      rw [if_neg ne]
      refine ci_in mh ?_
      rfl
  rw [bI_f q3] at ch
  rw [bI_t (by omega)] at mh
  by_cases q4 : A M 219 49 = 24
  · refine ⟨-4, M, M, ?_, ?_, hI'⟩
    · refine s_RunSayer_ask hF hg ?_
      refine ci_in (cp) ?_
      rw [if_pos (show iI 0 = 0 from rfl)]
      refine ci_in (cd) ?_
      rw [if_pos (show iI 0 = 0 from rfl)]
      rw [if_neg ne]
      refine ci_in (ch) ?_
      rw [if_pos (show iI 0 = 0 from rfl)]
      rw [if_neg (show ¬ fI M 0 15 < 24 by rw [fd_i, s2, q4]; decide)]
      rfl
    · refine s_Model_ask hF hg ?_
      refine ci_in (mp) ?_
      rw [if_neg (show ¬ iI 1 = 0 by decide)]
      refine ci_in (ma) ?_
      rw [if_neg (show ¬ iI 1 = 0 by decide)]
      refine ci_in (mb) ?_
      rw [if_neg (show ¬ iI 1 = 0 by decide)]
      rw [if_neg ne]
      refine ci_in (mh) ?_
      rw [if_neg (show ¬ iI 1 = 0 by decide)]
      rw [if_pos (show fI M 219 49 = 24 by rw [fd_i, q4]; rfl)]
      rfl
  have hn24 : (A M 219 49) < 24 := by omega
  obtain ⟨Q5, L, ft_, tws, Ls, fs, tw, C, leg, C2, lg, p1', A5, I5', K5, ⟨f3, f5, f6, f7⟩, hB, ⟨g0, g1, g2⟩, ⟨v0, v1, v2, v3, v5, v7⟩, hL, vl, lfo, tf, tL0, tL1⟩ := c_ask hF hg hI' (p := p) (a := a) (b := b) (hour := hour) (by omega) (by omega) (by omega) (by omega) (by omega) (by omega) q2 (by omega) (by omega) hn24
  obtain ⟨M1, e1⟩ : ∃ y : am_M, y = W_ Q5 0 15 ((A M 219 49) + 1) := ⟨_, rfl⟩
  rw [← e1] at p1'
  obtain ⟨X0, eX⟩ : ∃ y : am_M, y = W_ M 0 15 ((A M 219 49) + 1) := ⟨_, rfl⟩
  have A0 : Ag X0 M1 := by rw [e1, eX]; exact A5.ww
  have c0 : Ch [] [(0, 15)] M X0 := by rw [eX]; exact Ch.refl.wm (Or.inr (by decide))
  have sm0 : Sm M X0 := c0.sm rfl
  have e41 : A X0 219 41 = A M 219 41 := c0.f rfl
  obtain ⟨N3, N4, z1, zA, z3, z4, z5, z6, z7, z8, z9, z10⟩ := m_pup hF hg A0 (c0.i1 rfl h1) (c0.i2 rfl h2) (c0.i3 rfl h3) (c0.i4 rfl h4) (c0.i6 rfl h6) (c0.i7 rfl h7) (c0.i8 rfl h8) (c0.i9 rfl h9) (p := p) (hour := hour) (a := a) (b := b) (C := C) (by omega) (by omega) (by omega) (by omega) (by omega) (by omega) (by rw [sm0.nDE]; omega) (by omega) (by rw [sm0.nDE]; omega) (by rw [sm0.cokE]; exact f3)
  rw [sm0.rspE] at z6
  rw [sm0.bvlE] at z7 z8
  obtain ⟨k1, k2, k3, k4⟩ := found_eq f5 z6 f6 f7 z7 z8
  have e64 : A N4 219 64 = L := k1.symm
  have e66 : J N4 219 66 = ft_ := k4.symm
  have m1 : ∀ z, A M1 219 z = A M 219 z := fun z => by rw [e1, A_Wn (by decide), K5.a (by simp only [List.mem_cons, List.not_mem_nil, or_false]; omega)]
  have st4 : ∀ z : Int, 0 ≤ z → z < 56 → A N4 219 z = A M1 219 z := fun z z0 z1 => by
    have hs : stb 219 z.toNat = true := by
      have : Nat.blt z.toNat 56 = true := Nat.ble_eq_true_of_le (by omega)
      unfold stb
      rw [this]; rfl
    rw [ag z5 hs, ag A0 hs]
  have e49 : A N4 219 49 = (A M 219 49) := by rw [st4 49 (by omega) (by omega), m1]
  have e14 : A N4 219 14 = toD M := by rw [st4 14 (by omega) (by omega), m1]; rfl
  obtain ⟨N5, e5⟩ : ∃ y : am_M, y = W_ (W_ (W_ (W_ (W_ (W_ N4 256 (8 * (A M 219 49)) p) 256 (8 * (A M 219 49) + 1) a) 256 (8 * (A M 219 49) + 2) b) 256 (8 * (A M 219 49) + 3) (toD M)) 256 (8 * (A M 219 49) + 4) hour) 256 (8 * (A M 219 49) + 6) L := ⟨_, rfl⟩
  have K6 : Ke [256] N4 N5 := by
    rw [e5]; exact (((((Ke.refl.w (by simp)).w (by simp)).w (by simp)).w (by simp)).w (by simp)).w (by simp)
  obtain ⟨N6, i1, i2, i3, i4⟩ := m_ask_l hF hg (n := (A M 219 49)) (L := L) s1.1 hn24 hL.2 L.toNat 0 N5 (by omega) (by rw [K6.a (by decide)]; exact e64) (by rw [K6.a (by decide)]; exact e49) (fun i i0 i1 => by omega)
  obtain ⟨N7, e7⟩ : ∃ y : am_M, y = X_ N6 258 (A M 219 49) ft_ := ⟨_, rfl⟩
  have K7 : Ke [258] N6 N7 := by rw [e7]; exact Ke.refl.x (by simp)
  have K47 : Ke [256, 257, 258] N4 N7 := ((K6.mono (by decide)).trans (i2.mono (by decide))).trans (K7.mono (by decide))
  have A7 : Ag (mixr X0 N7) N7 := mixr_ag z5 K47
  have c1 : Ch [256, 257, 258] [] X0 (mixr X0 N7) := mixr_ch
  have c01 : Ch [256, 257, 258] [(0, 15)] M (mixr X0 N7) := (c0.mono rfl).trans (c1.mono rfl)
  have sm1 : Sm M (mixr X0 N7) := c01.sm rfl
  have r256 : ∀ z, A N7 256 z = A N5 256 z := fun z => by rw [K7.a (by decide), i2.a (by decide)]
  have o0 : A N7 256 (8 * (A M 219 49)) = p := by rw [r256, e5]; simp (config := { maxSteps := 1000000 }) (disch := (first | omega | decide | assumption)) only [ltm_s, ok_n, rd_i, rd_j, fd_i, fd_j, wr_i, wr_j, fw_i, fw_j, ci_s, cj_s, cv_s, dv_n, dw_n, rt_1, rt_b, rt_20, rt_21, okb_0, okb_1, okb_b, nar_0, nar_1, nar_b, i_0, i_1, j_0, j_1, i_lit, j_lit, i_n, iI_add, iI_sub, iI_mul, iI_neg, jI_add, jI_sub, jI_mul, jI_neg, sh_1, an_1, xo_1, di_p, dj_p, i_64A, i_64, j_32, lq_ge, lq_lt, lq_le, lq_gt, lq_eq, i_lt, i_le, i_eq, j_eq, iI_A, jI_J, iI_b, iI_v, jI_v, ↓reduceIte, ite_true, ite_false, Int.reduceEq, Int.reduceLT, Int.reduceLE, Int.reduceAdd, Int.reduceSub, Int.reduceMul, Int.reduceNeg, not_true_eq_false, not_false_eq_true, A_Wn, A_WA, A_Wb, A_Ws, A_Wo, A_X, J_W, J_Xn, J_XJ, J_Xs, J_Xo]
  have o1 : A N7 256 (8 * (A M 219 49) + 1) = a := by rw [r256, e5]; simp (config := { maxSteps := 1000000 }) (disch := (first | omega | decide | assumption)) only [ltm_s, ok_n, rd_i, rd_j, fd_i, fd_j, wr_i, wr_j, fw_i, fw_j, ci_s, cj_s, cv_s, dv_n, dw_n, rt_1, rt_b, rt_20, rt_21, okb_0, okb_1, okb_b, nar_0, nar_1, nar_b, i_0, i_1, j_0, j_1, i_lit, j_lit, i_n, iI_add, iI_sub, iI_mul, iI_neg, jI_add, jI_sub, jI_mul, jI_neg, sh_1, an_1, xo_1, di_p, dj_p, i_64A, i_64, j_32, lq_ge, lq_lt, lq_le, lq_gt, lq_eq, i_lt, i_le, i_eq, j_eq, iI_A, jI_J, iI_b, iI_v, jI_v, ↓reduceIte, ite_true, ite_false, Int.reduceEq, Int.reduceLT, Int.reduceLE, Int.reduceAdd, Int.reduceSub, Int.reduceMul, Int.reduceNeg, not_true_eq_false, not_false_eq_true, A_Wn, A_WA, A_Wb, A_Ws, A_Wo, A_X, J_W, J_Xn, J_XJ, J_Xs, J_Xo]
  have o2 : A N7 256 (8 * (A M 219 49) + 2) = b := by rw [r256, e5]; simp (config := { maxSteps := 1000000 }) (disch := (first | omega | decide | assumption)) only [ltm_s, ok_n, rd_i, rd_j, fd_i, fd_j, wr_i, wr_j, fw_i, fw_j, ci_s, cj_s, cv_s, dv_n, dw_n, rt_1, rt_b, rt_20, rt_21, okb_0, okb_1, okb_b, nar_0, nar_1, nar_b, i_0, i_1, j_0, j_1, i_lit, j_lit, i_n, iI_add, iI_sub, iI_mul, iI_neg, jI_add, jI_sub, jI_mul, jI_neg, sh_1, an_1, xo_1, di_p, dj_p, i_64A, i_64, j_32, lq_ge, lq_lt, lq_le, lq_gt, lq_eq, i_lt, i_le, i_eq, j_eq, iI_A, jI_J, iI_b, iI_v, jI_v, ↓reduceIte, ite_true, ite_false, Int.reduceEq, Int.reduceLT, Int.reduceLE, Int.reduceAdd, Int.reduceSub, Int.reduceMul, Int.reduceNeg, not_true_eq_false, not_false_eq_true, A_Wn, A_WA, A_Wb, A_Ws, A_Wo, A_X, J_W, J_Xn, J_XJ, J_Xs, J_Xo]
  have o3 : A N7 256 (8 * (A M 219 49) + 3) = toD M := by rw [r256, e5]; simp (config := { maxSteps := 1000000 }) (disch := (first | omega | decide | assumption)) only [ltm_s, ok_n, rd_i, rd_j, fd_i, fd_j, wr_i, wr_j, fw_i, fw_j, ci_s, cj_s, cv_s, dv_n, dw_n, rt_1, rt_b, rt_20, rt_21, okb_0, okb_1, okb_b, nar_0, nar_1, nar_b, i_0, i_1, j_0, j_1, i_lit, j_lit, i_n, iI_add, iI_sub, iI_mul, iI_neg, jI_add, jI_sub, jI_mul, jI_neg, sh_1, an_1, xo_1, di_p, dj_p, i_64A, i_64, j_32, lq_ge, lq_lt, lq_le, lq_gt, lq_eq, i_lt, i_le, i_eq, j_eq, iI_A, jI_J, iI_b, iI_v, jI_v, ↓reduceIte, ite_true, ite_false, Int.reduceEq, Int.reduceLT, Int.reduceLE, Int.reduceAdd, Int.reduceSub, Int.reduceMul, Int.reduceNeg, not_true_eq_false, not_false_eq_true, A_Wn, A_WA, A_Wb, A_Ws, A_Wo, A_X, J_W, J_Xn, J_XJ, J_Xs, J_Xo]
  have o4 : A N7 256 (8 * (A M 219 49) + 4) = hour := by rw [r256, e5]; simp (config := { maxSteps := 1000000 }) (disch := (first | omega | decide | assumption)) only [ltm_s, ok_n, rd_i, rd_j, fd_i, fd_j, wr_i, wr_j, fw_i, fw_j, ci_s, cj_s, cv_s, dv_n, dw_n, rt_1, rt_b, rt_20, rt_21, okb_0, okb_1, okb_b, nar_0, nar_1, nar_b, i_0, i_1, j_0, j_1, i_lit, j_lit, i_n, iI_add, iI_sub, iI_mul, iI_neg, jI_add, jI_sub, jI_mul, jI_neg, sh_1, an_1, xo_1, di_p, dj_p, i_64A, i_64, j_32, lq_ge, lq_lt, lq_le, lq_gt, lq_eq, i_lt, i_le, i_eq, j_eq, iI_A, jI_J, iI_b, iI_v, jI_v, ↓reduceIte, ite_true, ite_false, Int.reduceEq, Int.reduceLT, Int.reduceLE, Int.reduceAdd, Int.reduceSub, Int.reduceMul, Int.reduceNeg, not_true_eq_false, not_false_eq_true, A_Wn, A_WA, A_Wb, A_Ws, A_Wo, A_X, J_W, J_Xn, J_XJ, J_Xs, J_Xo]
  have o6 : A N7 256 (8 * (A M 219 49) + 6) = L := by rw [r256, e5]; simp (config := { maxSteps := 1000000 }) (disch := (first | omega | decide | assumption)) only [ltm_s, ok_n, rd_i, rd_j, fd_i, fd_j, wr_i, wr_j, fw_i, fw_j, ci_s, cj_s, cv_s, dv_n, dw_n, rt_1, rt_b, rt_20, rt_21, okb_0, okb_1, okb_b, nar_0, nar_1, nar_b, i_0, i_1, j_0, j_1, i_lit, j_lit, i_n, iI_add, iI_sub, iI_mul, iI_neg, jI_add, jI_sub, jI_mul, jI_neg, sh_1, an_1, xo_1, di_p, dj_p, i_64A, i_64, j_32, lq_ge, lq_lt, lq_le, lq_gt, lq_eq, i_lt, i_le, i_eq, j_eq, iI_A, jI_J, iI_b, iI_v, jI_v, ↓reduceIte, ite_true, ite_false, Int.reduceEq, Int.reduceLT, Int.reduceLE, Int.reduceAdd, Int.reduceSub, Int.reduceMul, Int.reduceNeg, not_true_eq_false, not_false_eq_true, A_Wn, A_WA, A_Wb, A_Ws, A_Wo, A_X, J_W, J_Xn, J_XJ, J_Xs, J_Xo]
  have oo : ∀ z : Int, 0 ≤ z → z < 8 * (A M 219 49) ∨ 8 * (A M 219 49) + 8 ≤ z → A N7 256 z = A N4 256 z := fun z z0 z1 => by
    rw [r256, e5, A_Wo (by omega) z0 (by omega), A_Wo (by omega) z0 (by omega), A_Wo (by omega) z0 (by omega), A_Wo (by omega) z0 (by omega), A_Wo (by omega) z0 (by omega), A_Wo (by omega) z0 (by omega)]
  have o8 : J N7 258 (A M 219 49) = ft_ := by rw [e7, J_Xs (by omega) (by omega)]
  have o7 : ∀ i : Int, 0 ≤ i → i < L → A N7 257 (80 * (A M 219 49) + i) = leg i := fun i i0 i1' => by
    rw [K7.a (by decide), i3 i i0 i1', K6.a (by decide)]
    exact (k2 i i0 i1').symm
  have hmx : ∀ V, mkx (mixr X0 N7) V = mkx M V := fun V => mkx_eq (c01.f rfl) (fun z => c01.a rfl) (fun z => c01.a rfl) (fun z => c01.a rfl) V
  obtain ⟨N8, w1, w2, w3, w4, w5, w6, w7, w8⟩ := m_marks hF hg (N := N7) A7 (c01.i1 rfl h1) (c01.i2 rfl h2) (c01.i3 rfl h3) (c01.i4 rfl h4) (c01.i6 rfl h6) (c01.i7 rfl h7) (c01.i8 rfl h8) (c01.i9 rfl h9) (c01.i16 rfl h16) (by rw [c01.f (a := 219) (z := 41) rfl]; omega) (k := (A M 219 49)) (a := a) (b := b) (day := toD M) (hour := hour) (L := L) (ft_ := ft_) (leg := leg) (Ls := Ls) (fs := fs) (tw := tw) (C := C2) (lg := lg) s1.1 hn24 (by omega) (by rw [sm1.nDE]; omega) (by omega) (by rw [sm1.nDE]; omega) (by omega) (by omega) (by omega) (by omega) hL tf tL0 tL1 o1 o2 o3 o4 o6 o8 (fun i i0 i1' => ⟨o7 i i0 i1', by rw [sm1.nWE]; exact (vl i i0 i1').2⟩) (by rw [sm1.bstE]; exact hB)
  rw [hmx, sm1.goodE, sm1.toDE] at w7
  rw [sm1.toDE] at w8
  obtain ⟨M2, e2⟩ : ∃ y : am_M, y = W_ N8 219 49 ((A M 219 49) + 1) := ⟨_, rfl⟩
  -- all that changed
  have d1 : Ch (256 :: 257 :: 258 :: 262 :: 263 :: 264 :: 276 :: 32 :: 33 :: 34 :: 35 :: 36 :: 37 :: 38 :: 39 :: 40 :: 41 :: 70 :: 71 :: List.range' 137 72) [(0, 15), (219, 49), (219, 56), (219, 57), (219, 58), (219, 59), (219, 60), (219, 61), (219, 62), (219, 63), (219, 64), (219, 65), (219, 66), (219, 67), (219, 68), (219, 69), (219, 70)] M Q5 := (K5.ch.sub (W' := 256 :: 257 :: 258 :: 262 :: 263 :: 264 :: 276 :: 32 :: 33 :: 34 :: 35 :: 36 :: 37 :: 38 :: 39 :: 40 :: 41 :: 70 :: 71 :: List.range' 137 72) (fun c hc => by
    simp only [List.mem_cons, List.not_mem_nil, or_false] at hc ⊢
    rcases hc with q | q | q | q | q | q | q | q | q | q | q | q | q | q | q
    · simp only [q, true_or, or_true]
    · simp only [q, true_or, or_true]
    · simp only [q, true_or, or_true]
    · simp only [q, true_or, or_true]
    · simp only [q, true_or, or_true]
    · simp only [q, true_or, or_true]
    · simp only [q, true_or, or_true]
    · simp only [q, true_or, or_true]
    · simp only [q, true_or, or_true]
    · simp only [q, true_or, or_true]
    · simp only [q, true_or, or_true]
    · simp only [q, true_or, or_true]
    · have : c ∈ List.range' 137 72 := mRg (by omega) (by omega)
      simp only [this, or_true]
    · have : c ∈ List.range' 137 72 := mRg (by omega) (by omega)
      simp only [this, or_true]
    · have : c ∈ List.range' 137 72 := mRg (by omega) (by omega)
      simp only [this, or_true])).mono (W' := 256 :: 257 :: 258 :: 262 :: 263 :: 264 :: 276 :: 32 :: 33 :: 34 :: 35 :: 36 :: 37 :: 38 :: 39 :: 40 :: 41 :: 70 :: 71 :: List.range' 137 72) (Q' := [(0, 15), (219, 49), (219, 56), (219, 57), (219, 58), (219, 59), (219, 60), (219, 61), (219, 62), (219, 63), (219, 64), (219, 65), (219, 66), (219, 67), (219, 68), (219, 69), (219, 70)]) (by decide)
  have d2 : Ch [] [(0, 15)] Q5 M1 := by rw [e1]; exact Ch.refl.wm (Or.inr (by decide))
  have d3 : Ch [262, 263, 264] [(219, 56), (219, 57), (219, 58), (219, 59), (219, 60), (219, 61), (219, 62), (219, 63), (219, 64), (219, 65), (219, 66), (219, 67), (219, 68), (219, 69), (219, 70)] M1 N4 := ch219 z4 (fun c hc => by simp only [List.mem_cons, List.not_mem_nil, or_false] at hc ⊢; omega) z9 st4 (fun z z0 y => by
    by_cases q : z < 56
    · have hs : stb 219 z.toNat = true := by
        have : Nat.blt z.toNat 56 = true := Nat.ble_eq_true_of_le (by omega)
        unfold stb
        rw [this]; rfl
      rw [agJ z5 hs, agJ A0 hs]
    · exact z10 z (by omega))
  have d4 : Ch [256, 257, 258] [] N4 N7 := K47.ch
  have d5 : Ch [256, 262, 263, 264, 276] [(219, 56), (219, 57), (219, 58), (219, 59), (219, 60), (219, 61), (219, 62), (219, 63), (219, 64), (219, 65), (219, 66), (219, 67), (219, 68), (219, 69), (219, 70)] N7 N8 := ch219 w2 (fun c hc => by simp only [List.mem_cons, List.not_mem_nil, or_false] at hc ⊢; omega) w3 w4 (fun z z0 y => w5 z z0 (by omega) (by omega))
  have d6 : Ch [] [(219, 49)] N8 M2 := by rw [e2]; exact Ch.refl.wm (Or.inr (by decide))
  have c : Ch (256 :: 257 :: 258 :: 262 :: 263 :: 264 :: 276 :: 32 :: 33 :: 34 :: 35 :: 36 :: 37 :: 38 :: 39 :: 40 :: 41 :: 70 :: 71 :: List.range' 137 72) [(0, 15), (219, 49), (219, 56), (219, 57), (219, 58), (219, 59), (219, 60), (219, 61), (219, 62), (219, 63), (219, 64), (219, 65), (219, 66), (219, 67), (219, 68), (219, 69), (219, 70)] M M2 := ((((d1.trans (d2.mono (by decide))).trans (d3.mono (by decide))).trans (d4.mono (by decide))).trans (d5.mono (by decide))).trans (d6.mono (by decide))
  have cM : Ch [256, 257, 258, 262, 263, 264, 276] [(0, 15), (219, 49), (219, 56), (219, 57), (219, 58), (219, 59), (219, 60), (219, 61), (219, 62), (219, 63), (219, 64), (219, 65), (219, 66), (219, 67), (219, 68), (219, 69), (219, 70)] M1 M2 := (((d3.mono (by decide)).trans (d4.mono (by decide))).trans (d5.mono (by decide))).trans (d6.mono (by decide))
  have cQ : Ch [256, 257, 258, 262, 263, 264, 276] [(0, 15), (219, 49), (219, 56), (219, 57), (219, 58), (219, 59), (219, 60), (219, 61), (219, 62), (219, 63), (219, 64), (219, 65), (219, 66), (219, 67), (219, 68), (219, 69), (219, 70)] Q5 M2 := (d2.mono (by decide)).trans cM
  have cM' : Ch [256, 257, 258, 262, 263, 264, 276] [(219, 49), (219, 56), (219, 57), (219, 58), (219, 59), (219, 60), (219, 61), (219, 62), (219, 63), (219, 64), (219, 65), (219, 66), (219, 67), (219, 68), (219, 69), (219, 70)] M1 M2 := (((d3.mono (by decide)).trans (d4.mono (by decide))).trans (d5.mono (by decide))).trans (d6.mono (by decide))
  have t49 : A M2 219 49 = (A M 219 49) + 1 := by rw [e2, A_Ws (by omega) (by omega)]
  have t15 : A M2 0 15 = (A M 219 49) + 1 := by rw [cM'.f (a := 0) (z := 15) rfl, e1, A_Ws (by omega) (by omega)]
  have eW : nW M2 = nW M := c.f (a := 219) (z := 4) rfl
  have eD : nD M2 = nD M := c.f (a := 219) (z := 10) rfl
  have ef : fol M2 = fol M := by
    funext e f
    unfold fol bg en
    rw [c.a (a := 224) rfl, c.a (a := 225) rfl, c.a (a := 224) rfl, c.a (a := 225) rfl]
  have rq : ∀ x : Nat, 100 < x → x < 219 → ∀ z, A M2 x z = A Q5 x z := fun x x0 x1 z => congrArg Int32.toInt (cQ x z.toNat (by simp only [List.mem_cons, List.not_mem_nil, or_false]; omega) (by simp only [List.mem_cons, Prod.mk.injEq, List.not_mem_nil, or_false]; omega)).1
  have mM : ∀ x : Nat, 219 < x → x < 262 → (∀ z, A N4 x z = A M x z) ∧ ∀ z, J N4 x z = J M x z := fun x x0 x1 => ⟨fun z => by
    rw [z4.a (by simp only [List.mem_cons, List.not_mem_nil, or_false]; omega), e1, A_Wn (by omega), K5.a (by simp only [List.mem_cons, List.not_mem_nil, or_false]; omega)], fun z => by
    rw [z4.j (by simp only [List.mem_cons, List.not_mem_nil, or_false]; omega), e1, J_W, K5.j (by simp only [List.mem_cons, List.not_mem_nil, or_false]; omega)]⟩
  have q256 : ∀ z, A M2 256 z = A N8 256 z := fun z => by rw [e2, A_Wn (by decide)]
  have q257 : ∀ z, A M2 257 z = A N7 257 z := fun z => by rw [e2, A_Wn (by decide), w2.a (by decide)]
  have q258 : ∀ z, J M2 258 z = J N7 258 z := fun z => by rw [e2, J_W, w2.j (by decide)]
  have mb := mkx_r h16 (Vf L (bI (¬ good M (toD M) hour (toD M) L leg)) (ovr L ft_ Ls fs) ft_ (toD M))
  have i17 : I17 M2 := by
    refine ⟨by rw [t49]; omega, by rw [t49, t15], fun j j0 j1 => ?_⟩
    rw [t49] at j1
    by_cases q : j = (A M 219 49)
    · rw [q]
      have t8 : ∀ x : Int, 0 ≤ x → x < 8 → ¬ x = 5 → ¬ x = 7 → A M2 256 (8 * (A M 219 49) + x) = A N7 256 (8 * (A M 219 49) + x) := fun x x0 x1 x2 x3 => by rw [q256, w6 _ (by omega) (by omega) (by omega)]
      have t0 : A M2 256 (8 * (A M 219 49)) = p := by
        have := t8 0 (by omega) (by omega) (by omega) (by omega)
        rw [Int.add_zero, o0] at this
        exact this
      have t1 : A M2 256 (8 * (A M 219 49) + 1) = a := by rw [t8 1 (by omega) (by omega) (by omega) (by omega)]; exact o1
      have t2 : A M2 256 (8 * (A M 219 49) + 2) = b := by rw [t8 2 (by omega) (by omega) (by omega) (by omega)]; exact o2
      have t3 : A M2 256 (8 * (A M 219 49) + 3) = toD M := by rw [t8 3 (by omega) (by omega) (by omega) (by omega)]; exact o3
      have t4 : A M2 256 (8 * (A M 219 49) + 4) = hour := by rw [t8 4 (by omega) (by omega) (by omega) (by omega)]; exact o4
      have t6 : A M2 256 (8 * (A M 219 49) + 6) = L := by rw [t8 6 (by omega) (by omega) (by omega) (by omega)]; exact o6
      have t5 := (q256 (8 * (A M 219 49) + 5)).trans w7
      have t7 := (q256 (8 * (A M 219 49) + 7)).trans w8
      have tl : ∀ i : Int, 0 ≤ i → i < L → A M2 257 (80 * (A M 219 49) + i) = leg i := fun i i0 i1 => by rw [q257]; exact o7 i i0 i1
      have t88 : J M2 258 (A M 219 49) = ft_ := by rw [q258]; exact o8
      unfold B17
      rw [eW, eD, ef, t0, t1, t2, t3, t4, t5, t6, t7, t88, rq _ (by omega) (by omega), rq _ (by omega) (by omega), rq _ (by omega) (by omega), rq _ (by omega) (by omega), rq _ (by omega) (by omega), rq _ (by omega) (by omega), rq _ (by omega) (by omega), rq _ (by omega) (by omega), rq _ (by omega) (by omega), g0, g1, g2, v0, v1, v2, v3, v5, v7]
      refine ⟨by omega, by omega, by omega, by omega, mb, hL, rfl, rfl, rfl, rfl, rfl, rfl, rfl, rfl, fun i i0 i1 => ?_, rfl, tf, tL0, tL1, fun i i0 i1 => ?_⟩
      · rw [tl i i0 i1, rq _ (by omega) (by omega), (vl i i0 i1).1]
        exact ⟨(vl i i0 i1).2, rfl⟩
      · rw [show 80 * (A M 219 49) + i + 1 = 80 * (A M 219 49) + (i + 1) by omega, tl i i0 (by omega), tl (i + 1) (by omega) i1]
        exact lfo i i0 i1
    · have jn : j < (A M 219 49) := by omega
      refine B17_st (s3 j j0 jn) eW eD ef (fun z => by rw [rq _ (by omega) (by omega), K5.a (by simp only [List.mem_cons, List.not_mem_nil, or_false]; omega)]) (fun z => by rw [rq _ (by omega) (by omega), K5.a (by simp only [List.mem_cons, List.not_mem_nil, or_false]; omega)]) (fun z => by rw [rq _ (by omega) (by omega), K5.a (by simp only [List.mem_cons, List.not_mem_nil, or_false]; omega)]) (fun x x0 x1 => by rw [q256, w6 _ (by omega) (by omega) (by omega), oo _ (by omega) (by omega), (mM 256 (by omega) (by omega)).1]) (fun i i0 i1 => by rw [q257, K7.a (by decide), i4 _ (by omega) (by omega), K6.a (by decide), (mM 257 (by omega) (by omega)).1]) (by rw [q258, e7, J_Xo (by omega) (by omega) q, i2.j (by decide), K6.j (by decide), (mM 258 (by omega) (by omega)).2])
  have im : Imk M2 := cQ.imk rfl I5'
  refine ⟨(A M 219 49), M1, M2, p1', ?_, ⟨c.i1 rfl h1, c.i2 rfl h2, c.i3 rfl h3, c.i4 rfl h4, c.i5 rfl h5, c.i6 rfl h6, c.i7 rfl h7, c.i8 rfl h8, c.i9 rfl h9, c.i10 rfl h10, c.i11 rfl h11, c.i12 rfl h12, c.i13 rfl h13, c.i14 rfl h14, c.i15 rfl h15, c.i16 rfl h16, i17, c.i18 rfl h18, c.i19 rfl h19, im, c.itd rfl ht⟩⟩
  have mp' := m_isPupil hF hg (M := M1) (by rw [m1]; exact h15.1) p1 p2
  rw [m1, bI_t (by omega)] at mp'
  have ma' := m_isDoor hF hg A0 (c0.i4 rfl h4) a1 a2
  have mb' := m_isDoor hF hg A0 (c0.i4 rfl h4) b1 b2
  rw [sm0.nDE, bI_t (by omega)] at ma' mb'
  have mh' := m_isHour hF hg (M := M1) u1 u2
  rw [bI_t (by omega)] at mh'
  have i1' := i1
  have l145 : F 271 145 [.ref 219, .int (iI L)] [] N6 = some (some (.int (iI (A M 219 49))), M2) := by
    have x64 : A N6 219 64 = L := by rw [i2.a (by decide), K6.a (by decide)]; exact e64
    have x49 : A N6 219 49 = (A M 219 49) := by rw [i2.a (by decide), K6.a (by decide)]; exact e49
    have x66 : J N6 219 66 = ft_ := by rw [i2.j (by decide), K6.j (by decide)]; exact e66
    have y49 : A N7 219 49 = (A M 219 49) := by rw [K7.a (by decide)]; exact x49
    have z49 : A N8 219 49 = (A M 219 49) := by rw [w4 49 (by omega) (by omega)]; exact y49
    have u : L ≤ L := Int.le_refl _
    refine s_Model_ask_145 hF hg ?_
    simp (config := { maxSteps := 1000000 }) (disch := (first | omega | decide | assumption)) only [ltm_s, ok_n, rd_i, rd_j, fd_i, fd_j, wr_i, wr_j, fw_i, fw_j, ci_s, cj_s, cv_s, dv_n, dw_n, rt_1, rt_b, rt_20, rt_21, okb_0, okb_1, okb_b, nar_0, nar_1, nar_b, i_0, i_1, j_0, j_1, i_lit, j_lit, i_n, iI_add, iI_sub, iI_mul, iI_neg, jI_add, jI_sub, jI_mul, jI_neg, sh_1, an_1, xo_1, di_p, dj_p, i_64A, i_64, j_32, lq_ge, lq_lt, lq_le, lq_gt, lq_eq, i_lt, i_le, i_eq, j_eq, iI_A, jI_J, iI_b, iI_v, jI_v, ↓reduceIte, ite_true, ite_false, Int.reduceEq, Int.reduceLT, Int.reduceLE, Int.reduceAdd, Int.reduceSub, Int.reduceMul, Int.reduceNeg, not_true_eq_false, not_false_eq_true, x64, u, x49, x66, e7.symm, y49, w1, z49]
    rw [e2]
    simp (config := { maxSteps := 1000000 }) (disch := (first | omega | decide | assumption)) only [ltm_s, ok_n, rd_i, rd_j, fd_i, fd_j, wr_i, wr_j, fw_i, fw_j, ci_s, cj_s, cv_s, dv_n, dw_n, rt_1, rt_b, rt_20, rt_21, okb_0, okb_1, okb_b, nar_0, nar_1, nar_b, i_0, i_1, j_0, j_1, i_lit, j_lit, i_n, iI_add, iI_sub, iI_mul, iI_neg, jI_add, jI_sub, jI_mul, jI_neg, sh_1, an_1, xo_1, di_p, dj_p, i_64A, i_64, j_32, lq_ge, lq_lt, lq_le, lq_gt, lq_eq, i_lt, i_le, i_eq, j_eq, iI_A, jI_J, iI_b, iI_v, jI_v, ↓reduceIte, ite_true, ite_false, Int.reduceEq, Int.reduceLT, Int.reduceLE, Int.reduceAdd, Int.reduceSub, Int.reduceMul, Int.reduceNeg, not_true_eq_false, not_false_eq_true, A_Wn, A_WA, A_Wb, A_Ws, A_Wo, A_X, J_W, J_Xn, J_XJ, J_Xs, J_Xo, Int.add_sub_cancel]
  have hgo := i1 _ l145
  refine s_Model_ask hF hg ?_
  refine ci_in (mp') ?_
  rw [if_neg (show ¬ iI 1 = 0 by decide)]
  refine ci_in (ma') ?_
  rw [if_neg (show ¬ iI 1 = 0 by decide)]
  refine ci_in (mb') ?_
  rw [if_neg (show ¬ iI 1 = 0 by decide)]
  rw [if_neg ne]
  refine ci_in (mh') ?_
  rw [if_neg (show ¬ iI 1 = 0 by decide)]
  rw [if_neg (show ¬ fI M1 219 49 = 24 by rw [fd_i, m1]; intro h; rw [i_eq, iI_v (by omega) (by omega)] at h; exact q4 h)]
  refine cv_in z1 ?_
  refine cv_in z3 ?_
  simp (config := { maxSteps := 1000000 }) (disch := (first | omega | decide | assumption)) only [ltm_s, ok_n, rd_i, rd_j, fd_i, fd_j, wr_i, wr_j, fw_i, fw_j, ci_s, cj_s, cv_s, dv_n, dw_n, rt_1, rt_b, rt_20, rt_21, okb_0, okb_1, okb_b, nar_0, nar_1, nar_b, i_0, i_1, j_0, j_1, i_lit, j_lit, i_n, iI_add, iI_sub, iI_mul, iI_neg, jI_add, jI_sub, jI_mul, jI_neg, sh_1, an_1, xo_1, di_p, dj_p, i_64A, i_64, j_32, lq_ge, lq_lt, lq_le, lq_gt, lq_eq, i_lt, i_le, i_eq, j_eq, iI_A, jI_J, iI_b, iI_v, jI_v, ↓reduceIte, ite_true, ite_false, Int.reduceEq, Int.reduceLT, Int.reduceLE, Int.reduceAdd, Int.reduceSub, Int.reduceMul, Int.reduceNeg, not_true_eq_false, not_false_eq_true, A_Wn, A_WA, A_Wb, A_Ws, A_Wo, A_X, J_W, J_Xn, J_XJ, J_Xs, J_Xo, e49, e14, e64, e5.symm]
  exact hgo
end Ab_
