/-! ASK, the class's side -/
section Ac
variable {M0 M N M' : am_M} {g : am_G} {F : am_FT}
theorem c_ask (hF : F = am_F T0 g) (hg : GG g) (hI : Inv M) {p a b hour : Int} (p0 : 0 ≤ p) (p1 : p < A M 219 41) (a0 : 0 ≤ a) (a1 : a < nD M) (b0 : 0 ≤ b) (b1 : b < nD M) (nab : ¬ a = b) (u0 : 0 ≤ hour) (u1 : hour < 24) (hn24 : A M 219 49 < 24) :
    ∃ (Q5 : am_M) (L ft_ tws Ls fs tw : Int) (C leg C2 lg : Int → Int), F 254 0 [.ref 0, .int (iI p), .int (iI a), .int (iI b), .int (iI hour)] [] M = some (some (.int (iI (A M 219 49))), W_ Q5 0 15 (A M 219 49 + 1)) ∧ Ag M Q5 ∧ Imk Q5 ∧ Ke [32, 33, 34, 35, 36, 37, 38, 39, 40, 41, 70, 71, 137 + 3 * (A M 219 49).toNat, 137 + 3 * (A M 219 49).toNat + 1, 137 + 3 * (A M 219 49).toNat + 1 + 1] M Q5 ∧
      (Cok M (p, 0, hour, 0) 0 a b C ∧ rsp M (p, 0, hour, 0) 0 a b C L leg ∧ (bvl M (p, 0, hour, 0) 0 a b C = FARC → tws = -1 ∧ ft_ = -1) ∧ (bvl M (p, 0, hour, 0) 0 a b C ≠ FARC → (0 ≤ tws ∧ tws ≤ 4000000) ∧ (0 ≤ ft_ ∧ ft_ ≤ 4000000) ∧ key 0 tws ft_ = bvl M (p, 0, hour, 0) 0 a b C)) ∧ Bst M (toD M) hour a b Ls fs tw C2 lg ∧
      (A Q5 (137 + 3 * (A M 219 49).toNat) 0 = p ∧ A Q5 (137 + 3 * (A M 219 49).toNat) 1 = mkx M (Vf L (bI (¬ good M (toD M) hour (toD M) L leg)) (ovr L ft_ Ls fs) ft_ (toD M)) ∧ A Q5 (137 + 3 * (A M 219 49).toNat) 2 = toD M) ∧ (A Q5 (137 + 3 * (A M 219 49).toNat + 1) 0 = a ∧ A Q5 (137 + 3 * (A M 219 49).toNat + 1) 1 = b ∧ A Q5 (137 + 3 * (A M 219 49).toNat + 1) 2 = toD M ∧ A Q5 (137 + 3 * (A M 219 49).toNat + 1) 3 = hour ∧ A Q5 (137 + 3 * (A M 219 49).toNat + 1) 5 = L ∧ A Q5 (137 + 3 * (A M 219 49).toNat + 1) 7 = ft_) ∧
      ((0 ≤ L ∧ L ≤ 80) ∧ (∀ i : Int, 0 ≤ i → i < L → A Q5 (137 + 3 * (A M 219 49).toNat + 1 + 1) i = leg i ∧ 0 ≤ leg i ∧ leg i < 2 * nW M) ∧ (∀ i : Int, 0 ≤ i → i + 1 < L → fol M (leg i) (leg (i + 1))) ∧ (-1 ≤ ft_ ∧ ft_ ≤ 4000000) ∧ (L = 0 → ft_ = -1) ∧ (0 < L → 0 ≤ ft_)) := by
  obtain ⟨h1, h2, h3, h4, h5, h6, h7, h8, h9, h10, h11, h12, h13, h14, h15, h16, h17, h18, h19, hm, ht⟩ := hI
  obtain ⟨s1, s2, s3⟩ := id h17
  have h81 := h8.1
  have hn := h2.1
  have hp := h15.1
  have hd8 := h4.1
  have hk24 : (A M 219 49).toNat < 24 := by omega
  have hex := ex_n hg (A M 219 49).toNat hk24
  have hst : ∀ j : Nat, j < 24 → stN (137 + 3 * j) = true ∧ stN (137 + 3 * j + 1) = true := by decide
  have st0 := (hst _ hk24).1
  have st1 := (hst _ hk24).2
  have hA := Ag.refl M
  -- the pupil is written
  obtain ⟨Q1, e1⟩ : ∃ y : am_M, y = W_ M (137 + 3 * (A M 219 49).toNat) 0 p := ⟨_, rfl⟩
  have K1 : Ke [137 + 3 * (A M 219 49).toNat] M Q1 := by rw [e1]; exact Ke.refl.w (List.mem_singleton.mpr rfl)
  have A1 : Ag M Q1 := K1.ag (by simp only [List.all_cons, List.all_nil, st0]; rfl)
  obtain ⟨Q2, x1, x2, x3, x4⟩ := c_setHour hF hg h2 A1 (hour := hour) u0 u1
  have I1' : Imk Q1 := hm.ke K1 (by rw [List.mem_singleton]; omega) (by rw [List.mem_singleton]; omega) (by rw [List.mem_singleton]; omega)
  have hs : Hs M hour Q2 := ⟨A1.trans (x2.ag (by decide)), I1'.ke x2 (by decide) (by decide) (by decide), x3, x4⟩
  obtain ⟨Qa, Q3, L, C, y1, y2, y3⟩ := c_sayBy hF hg hex.2 h1 h2 h3 h4 h8 h9 h14 h15 u0 u1 hs (p := p) (a := a) (b := b) p0 p1 a0 a1 b0 b1
  have Hb := hs.fnd hex.2 y2 y3
  obtain ⟨f1, f2, f3, f4, f5, f6, f7, f8, f9, f10⟩ := y3
  obtain ⟨Q4, e4⟩ : ∃ y : am_M, y = W_ (W_ Q3 (137 + 3 * (A M 219 49).toNat + 1) 2 (toD M)) (137 + 3 * (A M 219 49).toNat + 1) 3 hour := ⟨_, rfl⟩
  have K4 : Ke [137 + 3 * (A M 219 49).toNat + 1] Q3 Q4 := by rw [e4]; exact (Ke.refl.w (List.mem_singleton.mpr rfl)).w (List.mem_singleton.mpr rfl)
  have A4 : Ag M Q4 := Hb.1.trans (K4.ag (by simp only [List.all_cons, List.all_nil, st1]; rfl))
  have I4' : Imk Q4 := Hb.2.1.ke K4 (by rw [List.mem_singleton]; omega) (by rw [List.mem_singleton]; omega) (by rw [List.mem_singleton]; omega)
  have far : ∀ c : Nat, 100 < c → ¬ c = 137 + 3 * (A M 219 49).toNat → ¬ c = 137 + 3 * (A M 219 49).toNat + 1 → ¬ c = 137 + 3 * (A M 219 49).toNat + 1 + 1 → ∀ z, A Q4 c z = A M c z := fun c h0 h1 h2 h3 z => by
    rw [K4.a (by rw [List.mem_singleton]; exact h2), f1.a (by simp only [List.mem_cons, List.not_mem_nil, or_false]; omega), y2.a (by simp only [List.mem_cons, List.not_mem_nil, or_false]; omega), x2.a (by simp only [List.mem_cons, List.not_mem_nil, or_false]; omega), K1.a (by rw [List.mem_singleton]; exact h1)]
  have hL := rsp_len hn f5
  obtain ⟨l1, l2⟩ := rsp_leg h2 h4 f3.1 a0 a1 f5
  have lfo : ∀ i : Int, 0 ≤ i → i + 1 < L → fol M (A Q3 (137 + 3 * (A M 219 49).toNat + 1 + 1) i) (A Q3 (137 + 3 * (A M 219 49).toNat + 1 + 1) (i + 1)) := fun i i0 i1 => (l2 i i0 i1).1
  have tf : -1 ≤ A Q3 (137 + 3 * (A M 219 49).toNat + 1) 7 ∧ A Q3 (137 + 3 * (A M 219 49).toNat + 1) 7 ≤ 4000000 := by
    by_cases q : bvl M (p, 0, hour, 0) 0 a b C = FARC
    · rw [(f6 q).2]; omega
    · have := (f7 q).2.1; omega
  have tL0 : L = 0 → A Q3 (137 + 3 * (A M 219 49).toNat + 1) 7 = -1 := fun h => by
    by_cases q : bvl M (p, 0, hour, 0) 0 a b C = FARC
    · exact (f6 q).2
    · by_cases q2 : alone M 0 a b (sbl M (p, 0, hour, 0) 0 a b C) = bvl M (p, 0, hour, 0) 0 a b C
      · have := (f5.2.1 q q2).1; omega
      · obtain ⟨m, -, -, e, -⟩ := f5.2.2 q q2
        omega
  have tL1 : 0 < L → 0 ≤ A Q3 (137 + 3 * (A M 219 49).toNat + 1) 7 := fun h => by
    by_cases q : bvl M (p, 0, hour, 0) 0 a b C = FARC
    · have := f5.1 q; omega
    · exact (f7 q).2.1.1
  have r4 : ∀ z : Int, 0 ≤ z → ¬ z = 2 → ¬ z = 3 → A Q4 (137 + 3 * (A M 219 49).toNat + 1) z = A Q3 (137 + 3 * (A M 219 49).toNat + 1) z := fun z z0 z1 z2 => by rw [e4, A_Wo (by omega) z0 z2, A_Wo (by omega) z0 z1]
  have v0 : A Q4 (137 + 3 * (A M 219 49).toNat + 1) 0 = a := by rw [r4 0 (by omega) (by omega) (by omega)]; exact f8
  have v1 : A Q4 (137 + 3 * (A M 219 49).toNat + 1) 1 = b := by rw [r4 1 (by omega) (by omega) (by omega)]; exact f9
  have v2 : A Q4 (137 + 3 * (A M 219 49).toNat + 1) 2 = toD M := by rw [e4, A_Wo (by omega) (by omega) (by omega), A_Ws (by omega) (by omega)]
  have v3 : A Q4 (137 + 3 * (A M 219 49).toNat + 1) 3 = hour := by rw [e4, A_Ws (by omega) (by omega)]
  have v5 : A Q4 (137 + 3 * (A M 219 49).toNat + 1) 5 = L := by rw [r4 5 (by omega) (by omega) (by omega)]; exact f4
  have v7 : A Q4 (137 + 3 * (A M 219 49).toNat + 1) 7 = A Q3 (137 + 3 * (A M 219 49).toNat + 1) 7 := r4 7 (by omega) (by omega) (by omega)
  have vl : ∀ i, A Q4 (137 + 3 * (A M 219 49).toNat + 1 + 1) i = A Q3 (137 + 3 * (A M 219 49).toNat + 1 + 1) i := fun i => K4.a (by rw [List.mem_singleton]; omega)
  have ru : RuA M Q4 := by
    refine ⟨agA A4 (a := 0) rfl, fun c c0 c1 z => far c (by omega) (by omega) (by omega) (by omega) z⟩
  have hnn : ((A M 219 49).toNat : Int) = A M 219 49 := by omega
  obtain ⟨Q5, Ls, fs, tw, C2, lg, w1, w2, w3, w4, w5, w6, w7⟩ := c_markExam hF hg A4 h1 h2 h3 h4 h6 h7 h8 h16 I4' ru (k := A M 219 49) (a := a) (b := b) (day := toD M) (hour := hour) (L := L) (ft_ := A Q3 (137 + 3 * (A M 219 49).toNat + 1) 7) (leg := fun j => A Q3 (137 + 3 * (A M 219 49).toNat + 1 + 1) j) s1.1 hn24 a0 a1 b0 b1 (by omega) (by omega) u0 u1 hL tf v0 v1 v2 v3 v5 v7 (fun i i0 i1 => ⟨vl i, l1 i i0 i1⟩) lfo
  have A5 : Ag M Q5 := A4.trans (w3.ag (by
    simp only [List.all_cons, List.all_nil, st0]; rfl))
  have n5 : ∀ c : Nat, 100 < c → ¬ c = 137 + 3 * (A M 219 49).toNat → ∀ z, A Q5 c z = A Q4 c z := fun c h0 h1 z => w3.a (by simp only [List.mem_cons, List.not_mem_nil, or_false]; omega)
  have KK : Ke [32, 33, 34, 35, 36, 37, 38, 39, 40, 41, 70, 71, 137 + 3 * (A M 219 49).toNat, 137 + 3 * (A M 219 49).toNat + 1, 137 + 3 * (A M 219 49).toNat + 1 + 1] M Q5 := by
    refine (((((K1.sub ?_).trans (x2.sub ?_)).trans (y2.sub ?_)).trans (f1.sub ?_)).trans (K4.sub ?_)).trans (w3.sub ?_)
    all_goals
      intro c hc
      simp only [List.mem_cons, List.not_mem_nil, or_false] at hc ⊢
      omega
  refine ⟨Q5, L, A Q3 (137 + 3 * (A M 219 49).toNat + 1) 7, A Q3 (137 + 3 * (A M 219 49).toNat + 1) 6, Ls, fs, tw, C, fun j => A Q3 (137 + 3 * (A M 219 49).toNat + 1 + 1) j, C2, lg, ?_, A5, w4, KK, ⟨f3, f5, f6, f7⟩, w2, ⟨?_, w6, w7⟩, ⟨by rw [n5 _ (by omega) (by omega)]; exact v0, by rw [n5 _ (by omega) (by omega)]; exact v1, by rw [n5 _ (by omega) (by omega)]; exact v2, by rw [n5 _ (by omega) (by omega)]; exact v3, by rw [n5 _ (by omega) (by omega)]; exact v5, by rw [n5 _ (by omega) (by omega)]; exact v7⟩, hL, fun i i0 i1 => ⟨by rw [n5 _ (by omega) (by omega)]; exact vl i, l1 i i0 i1⟩, lfo, tf, tL0, tL1⟩
  · have cp := c_noPupil hF hg h15 (v := p) (by omega) (by omega)
    rw [bI_f (by omega)] at cp
    have cd := c_noDoors hF hg hA h4 (v := a) (w := b) (by omega) (by omega) (by omega) (by omega)
    rw [bI_f (by omega)] at cd
    have ch := c_noHour hF hg (M := M) (v := hour) (by omega) (by omega)
    rw [bI_f (by omega)] at ch
    have ne : ¬ iI a = iI b := fun h => by
      have := congrArg Int32.toInt h
      rw [iI_v (by omega) (by omega), iI_v (by omega) (by omega)] at this
      exact nab this
    have st : F 69 0 [.ref (137 + 3 * (A M 219 49).toNat + 1), .int (iI (toD M)), .int (iI hour)] [] Q3 = some (none, Q4) := by
      rw [e4]
      refine s_Route_setTime hF hg hex.2.1 ?_
      simp (config := { maxSteps := 1000000 }) (disch := (first | omega | decide | assumption)) only [ltm_s, ok_n, rd_i, rd_j, fd_i, fd_j, wr_i, wr_j, fw_i, fw_j, ci_s, cj_s, cv_s, dv_n, dw_n, rt_1, rt_b, rt_20, rt_21, okb_0, okb_1, okb_b, nar_0, nar_1, nar_b, i_0, i_1, j_0, j_1, i_lit, j_lit, i_n, iI_add, iI_sub, iI_mul, iI_neg, jI_add, jI_sub, jI_mul, jI_neg, sh_1, an_1, xo_1, di_p, dj_p, i_64A, i_64, j_32, lq_ge, lq_lt, lq_le, lq_gt, lq_eq, i_lt, i_le, i_eq, j_eq, iI_A, jI_J, iI_b, iI_v, jI_v, ↓reduceIte, ite_true, ite_false, Int.reduceEq, Int.reduceLT, Int.reduceLE, Int.reduceAdd, Int.reduceSub, Int.reduceMul, Int.reduceNeg, not_true_eq_false, not_false_eq_true]
    have g18 : A Q3 18 0 = toD M := by rw [agA Hb.1 (a := 18) rfl]; exact h8.2
    have g15 : A Q5 0 15 = A M 219 49 := by rw [agA A5 (a := 0) rfl]; exact s2
    refine s_RunSayer_ask hF hg ?_
    refine ci_in (cp) ?_
    rw [if_pos (show iI 0 = 0 from rfl)]
    refine ci_in (cd) ?_
    rw [if_pos (show iI 0 = 0 from rfl)]
    rw [if_neg ne]
    refine ci_in (ch) ?_
    rw [if_pos (show iI 0 = 0 from rfl)]
    simp (config := { maxSteps := 1000000 }) (disch := (first | omega | decide | assumption)) only [ltm_s, ok_n, rd_i, rd_j, fd_i, fd_j, wr_i, wr_j, fw_i, fw_j, ci_s, cj_s, cv_s, dv_n, dw_n, rt_1, rt_b, rt_20, rt_21, okb_0, okb_1, okb_b, nar_0, nar_1, nar_b, i_0, i_1, j_0, j_1, i_lit, j_lit, i_n, iI_add, iI_sub, iI_mul, iI_neg, jI_add, jI_sub, jI_mul, jI_neg, sh_1, an_1, xo_1, di_p, dj_p, i_64A, i_64, j_32, lq_ge, lq_lt, lq_le, lq_gt, lq_eq, i_lt, i_le, i_eq, j_eq, iI_A, jI_J, iI_b, iI_v, jI_v, ↓reduceIte, ite_true, ite_false, Int.reduceEq, Int.reduceLT, Int.reduceLE, Int.reduceAdd, Int.reduceSub, Int.reduceMul, Int.reduceNeg, not_true_eq_false, not_false_eq_true, iI_n, rdn_i, rdn_j, wrn_i, wrn_j, s2, hn24, e1.symm, x1, y1, g18, st, w1, g15]
    simp (config := { maxSteps := 1000000 }) (disch := (first | omega | decide | assumption)) only [ltm_s, ok_n, rd_i, rd_j, fd_i, fd_j, wr_i, wr_j, fw_i, fw_j, ci_s, cj_s, cv_s, dv_n, dw_n, rt_1, rt_b, rt_20, rt_21, okb_0, okb_1, okb_b, nar_0, nar_1, nar_b, i_0, i_1, j_0, j_1, i_lit, j_lit, i_n, iI_add, iI_sub, iI_mul, iI_neg, jI_add, jI_sub, jI_mul, jI_neg, sh_1, an_1, xo_1, di_p, dj_p, i_64A, i_64, j_32, lq_ge, lq_lt, lq_le, lq_gt, lq_eq, i_lt, i_le, i_eq, j_eq, iI_A, jI_J, iI_b, iI_v, jI_v, ↓reduceIte, ite_true, ite_false, Int.reduceEq, Int.reduceLT, Int.reduceLE, Int.reduceAdd, Int.reduceSub, Int.reduceMul, Int.reduceNeg, not_true_eq_false, not_false_eq_true, A_Wn, A_WA, A_Wb, A_Ws, A_Wo, A_X, J_W, J_Xn, J_XJ, J_Xs, J_Xo]
    rw [Int.add_sub_cancel]
  · rw [w5, K4.a (by rw [List.mem_singleton]; omega), f1.a (by simp only [List.mem_cons, List.not_mem_nil, or_false]; omega), y2.a (by simp only [List.mem_cons, List.not_mem_nil, or_false]; omega), x2.a (by simp only [List.mem_cons, List.not_mem_nil, or_false]; omega), e1, A_Ws (by omega) (by omega)]
end Ac
