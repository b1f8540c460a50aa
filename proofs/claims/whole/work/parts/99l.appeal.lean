/-! APPEAL, by both -/
section Ap
variable {M0 M M' : am_M} {g : am_G} {F : am_FT}
/-- what marking changes, in all -/
theorem mark_ch {N1 N2 : am_M} {k : Int} (k0 : 0 ≤ k) (k1 : k < 24) (c1 : Ke [32, 33, 34, 35, 36, 37, 38, 39, 40, 41, 70, 71, 137 + 3 * k.toNat] M N1) (c2 : Ke [219, 256, 262, 263, 264, 276] N1 N2) (o1 : ∀ z : Int, 71 ≤ z → A N2 219 z = A N1 219 z) (o2 : ∀ z : Int, 0 ≤ z → z < 56 → A N2 219 z = A N1 219 z) (o3 : ∀ z : Int, 0 ≤ z → ¬ z = 65 → ¬ z = 66 → J N2 219 z = J N1 219 z) : Ch (256 :: 262 :: 263 :: 264 :: 276 :: 32 :: 33 :: 34 :: 35 :: 36 :: 37 :: 38 :: 39 :: 40 :: 41 :: 70 :: 71 :: List.range' 137 72) [(219, 56), (219, 57), (219, 58), (219, 59), (219, 60), (219, 61), (219, 62), (219, 63), (219, 64), (219, 65), (219, 66), (219, 67), (219, 68), (219, 69), (219, 70)] M N2 := fun a z ha hz => by
  have i1 : a ∉ [32, 33, 34, 35, 36, 37, 38, 39, 40, 41, 70, 71, 137 + 3 * k.toNat] := fun q => ha (by
    simp only [List.mem_cons, List.not_mem_nil, or_false] at q ⊢
    rcases q with q | q | q | q | q | q | q | q | q | q | q | q | q
    · simp only [q, true_or, or_true]
    · simp only [q, true_or, or_true]
    · simp only [q, true_or, or_true]
    · simp only [q, true_or, or_true]
    · simp only [q, true_or, or_true]
    · simp only [q, true_or, or_true]
    · simp only [q, true_or, or_true]
    · simp only [q, true_or, or_true]
    · simp only [q, true_or, or_true]
    · simp only [q, true_or, or_true]
    · simp only [q, true_or, or_true]
    · simp only [q, true_or, or_true]
    · have : a ∈ List.range' 137 72 := mRg (by omega) (by omega)
      simp only [this, or_true])
  have e1 := c1 a i1
  by_cases q : a = 219
  · subst q
    have hz' : z < 56 ∨ 71 ≤ z := by
      simp only [List.mem_cons, Prod.mk.injEq, true_and, List.not_mem_nil, or_false] at hz
      omega
    refine ⟨?_, fun j => ?_⟩
    · rw [← congrFun e1.1 z]
      have h : A N2 219 (z : Int) = A N1 219 (z : Int) := by
        rcases hz' with h | h
        · exact o2 z (by omega) (by omega)
        · exact o1 z (by omega)
      unfold A at h
      rw [Int.toNat_natCast] at h
      exact Int32.toInt_inj.mp h
    · rw [← congrFun e1.2 z]
      have h' := o3 (z : Int) (by omega) (by omega) (by omega)
      unfold J at h'
      rw [Int.toNat_natCast] at h'
      exact Int64.toInt_inj.mp h'
  · have i2 : a ∉ [219, 256, 262, 263, 264, 276] := fun q2 => ha (by
      simp only [List.mem_cons, List.not_mem_nil, or_false] at q2 ⊢
      rcases q2 with q2 | q2 | q2 | q2 | q2 | q2
      · exact absurd q2 q
      · simp only [q2, true_or, or_true]
      · simp only [q2, true_or, or_true]
      · simp only [q2, true_or, or_true]
      · simp only [q2, true_or, or_true]
      · simp only [q2, true_or, or_true])
    have e2 := c2 a i2
    exact ⟨(congrFun e2.1 z).trans (congrFun e1.1 z), fun _ => (congrFun e2.2 z).trans (congrFun e1.2 z)⟩
/-- an exam that stays -/
theorem B17_st {j : Int} (h : B17 M j) (eW : nW M' = nW M) (eD : nD M' = nD M) (ef : fol M' = fol M) (r0 : ∀ z, A M' (137 + 3 * j.toNat) z = A M (137 + 3 * j.toNat) z) (r1 : ∀ z, A M' (137 + 3 * j.toNat + 1) z = A M (137 + 3 * j.toNat + 1) z) (r2 : ∀ z, A M' (137 + 3 * j.toNat + 1 + 1) z = A M (137 + 3 * j.toNat + 1 + 1) z) (e6 : ∀ c : Int, 0 ≤ c → c < 8 → A M' 256 (8 * j + c) = A M 256 (8 * j + c)) (e7 : ∀ i : Int, 0 ≤ i → i < 80 → A M' 257 (80 * j + i) = A M 257 (80 * j + i)) (e8 : J M' 258 j = J M 258 j) : B17 M' j := by
  have c0 : A M' 256 (8 * j) = A M 256 (8 * j) := by
    have := e6 0 (by omega) (by omega)
    rw [Int.add_zero] at this
    exact this
  obtain ⟨b1, b2, b3, b4, b5, b6, y0, y1, y2, y3, y4, y5, y6, y7, d1, d2, d3, d4, d5, d6⟩ := h
  have x1 := e6 1 (by omega) (by omega)
  have x2 := e6 2 (by omega) (by omega)
  have x3 := e6 3 (by omega) (by omega)
  have x4 := e6 4 (by omega) (by omega)
  have x5 := e6 5 (by omega) (by omega)
  have x6 := e6 6 (by omega) (by omega)
  have x7 := e6 7 (by omega) (by omega)
  unfold B17
  rw [eW, eD, ef, c0, x1, x2, x3, x4, x5, x6, x7, e8, r0, r1, r1, r1, r1, r0, r1, r0, r1]
  refine ⟨b1, b2, b3, b4, b5, b6, y0, y1, y2, y3, y4, y5, y6, y7, fun i i0 i1 => ?_, d2, d3, d4, d5, fun i i0 i1 => ?_⟩
  · rw [e7 i i0 (by omega), r2]; exact d1 i i0 i1
  · have h1 := e7 (i + 1) (by omega) (by omega)
    rw [show 80 * j + (i + 1) = 80 * j + i + 1 by omega] at h1
    rw [e7 i i0 (by omega), h1]; exact d6 i i0 i1
theorem b_appeal (hF : F = am_F T0 g) (hg : GG g) (hI : Inv M) {k : Int} (k1 : -2147483648 ≤ k) (k2 : k < 2147483648) :
    ∃ (r : Int) (M1 M2 : am_M), F 253 0 [.ref 0, .int (iI k)] [] M = some (some (.int (iI r)), M1) ∧ F 270 0 [.ref 219, .int (iI k)] [] M1 = some (some (.int (iI r)), M2) ∧ Inv M2 := by
  have hI' := hI
  obtain ⟨h1, h2, h3, h4, h5, h6, h7, h8, h9, h10, h11, h12, h13, h14, h15, h16, h17, h18, h19, hm, ht⟩ := hI
  obtain ⟨s1, s2, s3⟩ := id h17
  have h81 := h8.1
  have ck := c_upto hF hg (M := M) (v := k) (a := 0) (z := 15) (c := A M 219 49) k1 k2 s2 (by omega)
  have mk := fun (N : am_M) (hN : A N 219 49 = A M 219 49) => m_upto hF hg (M := N) (v := k) (a := 219) (z := 49) (c := A M 219 49) k1 k2 hN (by omega)
  by_cases q1 : k < 0 ∨ A M 219 49 - 1 < k
  · rw [bI_t q1] at ck
    have mk := mk M rfl
    rw [bI_f (by omega)] at mk
    refine ⟨-1, M, M, ?_, ?_, hI'⟩
    · refine s_RunSayer_appeal hF hg ?_
      refine ci_in ck ?_
      rfl
    · refine s_Model_appeal hF hg ?_
      refine ci_in mk ?_
      rfl
  rw [bI_f q1] at ck
  have kk : 0 ≤ k ∧ k < 24 := by omega
  obtain ⟨b1, b2, b3, b4, b5, b6, y0, y1, y2, y3, y4, y5, y6, y7, d1, d2, d3, d4, d5, d6⟩ := s3 k kk.1 (by omega)
  have hnk : (iI k).toNatClampNeg = k.toNat := iI_n (by omega) (by omega)
  have lg : ∀ i : Int, 0 ≤ i → i < A M 256 (8 * k + 6) → A M (137 + 3 * k.toNat + 1 + 1) i = A M 257 (80 * k + i) ∧ 0 ≤ A M 257 (80 * k + i) ∧ A M 257 (80 * k + i) < 2 * nW M := fun i i0 i1 => ⟨(d1 i i0 i1).2, (d1 i i0 i1).1⟩
  obtain ⟨M1, Ls, fs, tw, C, lg1, p1, p2, p3, p4, p5, p6, p7⟩ := c_markExam hF hg (Ag.refl M) h1 h2 h3 h4 h6 h7 h8 h16 hm ⟨rfl, fun _ _ _ _ => rfl⟩ (k := k) (L := A M 256 (8 * k + 6)) (ft_ := J M 258 k) (leg := fun i => A M 257 (80 * k + i)) kk.1 kk.2 b1.1 b1.2 b2.1 b2.2 b3.1 b3.2 b4.1 b4.2 b6 d3 y1 y2 y3 y4 y6 d2 lg (fun i i0 i1 => by
    have h := d6 i i0 i1
    rw [show 80 * k + i + 1 = 80 * k + (i + 1) by omega] at h
    exact h)
  have n1 : ∀ c : Nat, 218 < c → (∀ z, A M1 c z = A M c z) ∧ ∀ z, J M1 c z = J M c z := fun c hc => ⟨fun z => p3.a (by simp only [List.mem_cons, List.not_mem_nil, or_false]; omega), fun z => p3.j (by simp only [List.mem_cons, List.not_mem_nil, or_false]; omega)⟩
  have hA1 : Ag M M1 := p3.ag (by
    have : ∀ j : Nat, j < 24 → stN (137 + 3 * j) = true := by decide
    have h := this k.toNat (by omega)
    simp only [List.all_cons, List.all_nil, h]
    rfl)
  obtain ⟨M2, w1, w2, w3, w4, w5, w6, w7, w8⟩ := m_marks hF hg (N := M1) hA1 h1 h2 h3 h4 h6 h7 h8 h9 h16 h15.1.1 (k := k) (L := A M 256 (8 * k + 6)) (ft_ := J M 258 k) (leg := fun i => A M 257 (80 * k + i)) kk.1 kk.2 b1.1 b1.2 b2.1 b2.2 b3.1 b3.2 b4.1 b4.2 b6 d3 d4 d5 ((n1 256 (by omega)).1 _) ((n1 256 (by omega)).1 _) ((n1 256 (by omega)).1 _) ((n1 256 (by omega)).1 _) ((n1 256 (by omega)).1 _) ((n1 258 (by omega)).2 _) (fun i i0 i1 => by
    rw [(n1 257 (by omega)).1]
    exact ⟨rfl, (d1 i i0 i1).1⟩) p2
  have c := mark_ch kk.1 kk.2 p3 w2 w3 w4 w5
  have n2 : ∀ c : Nat, ¬ c = 219 → ¬ c = 256 → c < 262 → (∀ z, A M2 c z = A M1 c z) ∧ ∀ z, J M2 c z = J M1 c z := fun c h1 h2 h3 => ⟨fun z => w2.a (by simp only [List.mem_cons, List.not_mem_nil, or_false]; omega), fun z => w2.j (by simp only [List.mem_cons, List.not_mem_nil, or_false]; omega)⟩
  have r1 : ∀ c : Nat, 100 < c → ¬ c = 137 + 3 * k.toNat → ∀ z, A M1 c z = A M c z := fun c h1 h2 z => p3.a (by simp only [List.mem_cons, List.not_mem_nil, or_false]; omega)
  have eW : nW M2 = nW M := c.f (a := 219) (z := 4) rfl
  have eD : nD M2 = nD M := c.f (a := 219) (z := 10) rfl
  have ef : fol M2 = fol M := by
    funext e f
    unfold fol bg en
    rw [c.a (a := 224) rfl, c.a (a := 225) rfl, c.a (a := 224) rfl, c.a (a := 225) rfl]
  have mb := mkx_r h16 (Vf (A M 256 (8 * k + 6)) (bI (¬ good M (A M 256 (8 * k + 3)) (A M 256 (8 * k + 4)) (toD M) (A M 256 (8 * k + 6)) fun i => A M 257 (80 * k + i))) (ovr (A M 256 (8 * k + 6)) (J M 258 k) Ls fs) (J M 258 k) (A M 256 (8 * k + 3)))
  have im : Imk M2 := p4.ke w2 (by decide) (by decide) (by decide)
  have i17 : I17 M2 := by
    refine ⟨by rw [c.f (a := 219) (z := 49) rfl]; exact s1, by rw [c.f (a := 219) (z := 49) rfl, c.f (a := 0) (z := 15) rfl]; exact s2, fun j j0 j1 => ?_⟩
    rw [c.f (a := 219) (z := 49) rfl] at j1
    by_cases q : j = k
    · rw [q]
      have m6 : ∀ z : Int, 0 ≤ z → ¬ z = 8 * k + 5 → ¬ z = 8 * k + 7 → A M2 256 z = A M 256 z := fun z z0 z1 z2 => by rw [w6 z z0 z1 z2, (n1 256 (by omega)).1]
      have x8 : J M2 258 k = J M 258 k := by rw [(n2 258 (by omega) (by omega) (by omega)).2, (n1 258 (by omega)).2]
      have x7 : ∀ z, A M2 257 z = A M 257 z := fun z => by rw [(n2 257 (by omega) (by omega) (by omega)).1, (n1 257 (by omega)).1]
      have v0 : ∀ z, A M2 (137 + 3 * k.toNat) z = A M1 (137 + 3 * k.toNat) z := (n2 _ (by omega) (by omega) (by omega)).1
      have v1 : ∀ z, A M2 (137 + 3 * k.toNat + 1) z = A M (137 + 3 * k.toNat + 1) z := fun z => by rw [(n2 _ (by omega) (by omega) (by omega)).1, r1 _ (by omega) (by omega)]
      have v2 : ∀ z, A M2 (137 + 3 * k.toNat + 1 + 1) z = A M (137 + 3 * k.toNat + 1 + 1) z := fun z => by rw [(n2 _ (by omega) (by omega) (by omega)).1, r1 _ (by omega) (by omega)]
      unfold B17
      rw [eW, eD, ef, m6 (8 * k) (by omega) (by omega) (by omega), m6 (8 * k + 1) (by omega) (by omega) (by omega), m6 (8 * k + 2) (by omega) (by omega) (by omega), m6 (8 * k + 3) (by omega) (by omega) (by omega), m6 (8 * k + 4) (by omega) (by omega) (by omega), w7, m6 (8 * k + 6) (by omega) (by omega) (by omega), w8, x8, v0, v1, v1, v1, v1, v0, v1, v0, v1, p5, p6, p7]
      simp only [x7, v2]
      exact ⟨b1, b2, b3, b4, mb, b6, y0, y1, y2, y3, y4, trivial, y6, trivial, d1, d2, d3, d4, d5, d6⟩
    · refine B17_st (s3 j j0 j1) eW eD ef (fun z => by rw [(n2 _ (by omega) (by omega) (by omega)).1, r1 _ (by omega) (by omega)]) (fun z => by rw [(n2 _ (by omega) (by omega) (by omega)).1, r1 _ (by omega) (by omega)]) (fun z => by rw [(n2 _ (by omega) (by omega) (by omega)).1, r1 _ (by omega) (by omega)]) (fun c c0 c1 => by rw [w6 _ (by omega) (by omega) (by omega), (n1 256 (by omega)).1]) (fun i i0 i1 => by rw [(n2 257 (by omega) (by omega) (by omega)).1, (n1 257 (by omega)).1]) (by rw [(n2 258 (by omega) (by omega) (by omega)).2, (n1 258 (by omega)).2])
  refine ⟨A M1 (137 + 3 * k.toNat) 1 - A M 256 (8 * k + 5), M1, M2, ?_, ?_, ⟨c.i1 rfl h1, c.i2 rfl h2, c.i3 rfl h3, c.i4 rfl h4, c.i5 rfl h5, c.i6 rfl h6, c.i7 rfl h7, c.i8 rfl h8, c.i9 rfl h9, c.i10 rfl h10, c.i11 rfl h11, c.i12 rfl h12, c.i13 rfl h13, c.i14 rfl h14, c.i15 rfl h15, c.i16 rfl h16, i17, c.i18 rfl h18, c.i19 rfl h19, im, c.itd rfl ht⟩⟩
  · refine s_RunSayer_appeal hF hg ?_
    refine ci_in ck ?_
    rw [if_pos (show iI 0 = 0 from rfl)]
    simp (config := { maxSteps := 1000000 }) (disch := (first | omega | decide | assumption)) only [ltm_s, ok_n, rd_i, rd_j, fd_i, fd_j, wr_i, wr_j, fw_i, fw_j, ci_s, cj_s, cv_s, dv_n, dw_n, rt_1, rt_b, rt_20, rt_21, okb_0, okb_1, okb_b, nar_0, nar_1, nar_b, i_0, i_1, j_0, j_1, i_lit, j_lit, i_n, iI_add, iI_sub, iI_mul, iI_neg, jI_add, jI_sub, jI_mul, jI_neg, sh_1, an_1, xo_1, di_p, dj_p, i_64A, i_64, j_32, lq_ge, lq_lt, lq_le, lq_gt, lq_eq, i_lt, i_le, i_eq, j_eq, iI_A, jI_J, iI_b, iI_v, jI_v, ↓reduceIte, ite_true, ite_false, Int.reduceEq, Int.reduceLT, Int.reduceLE, Int.reduceAdd, Int.reduceSub, Int.reduceMul, Int.reduceNeg, not_true_eq_false, not_false_eq_true, iI_n, rdn_i, rdn_j, wrn_i, wrn_j, p1, y5]
  · have mk' := mk M1 ((n1 219 (by omega)).1 49)
    rw [bI_t (by omega)] at mk'
    have u5 : A M1 256 (8 * k + 5) = A M 256 (8 * k + 5) := (n1 256 (by omega)).1 _
    have u7 : A M2 256 (8 * k + 5) = A M1 (137 + 3 * k.toNat) 1 := by rw [w7, p6]
    refine s_Model_appeal hF hg ?_
    refine ci_in mk' ?_
    rw [if_neg (show ¬ iI 1 = 0 by decide)]
    simp (config := { maxSteps := 1000000 }) (disch := (first | omega | decide | assumption)) only [ltm_s, ok_n, rd_i, rd_j, fd_i, fd_j, wr_i, wr_j, fw_i, fw_j, ci_s, cj_s, cv_s, dv_n, dw_n, rt_1, rt_b, rt_20, rt_21, okb_0, okb_1, okb_b, nar_0, nar_1, nar_b, i_0, i_1, j_0, j_1, i_lit, j_lit, i_n, iI_add, iI_sub, iI_mul, iI_neg, jI_add, jI_sub, jI_mul, jI_neg, sh_1, an_1, xo_1, di_p, dj_p, i_64A, i_64, j_32, lq_ge, lq_lt, lq_le, lq_gt, lq_eq, i_lt, i_le, i_eq, j_eq, iI_A, jI_J, iI_b, iI_v, jI_v, ↓reduceIte, ite_true, ite_false, Int.reduceEq, Int.reduceLT, Int.reduceLE, Int.reduceAdd, Int.reduceSub, Int.reduceMul, Int.reduceNeg, not_true_eq_false, not_false_eq_true, w1, u5, u7]
end Ap
