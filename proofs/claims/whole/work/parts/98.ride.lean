/-! RIDE, by both -/
section Ri
variable {M0 M M' : am_M} {g : am_G} {F : am_FT}
theorem lkn_r (h2 : I2 M) (h13 : I13 M) {r i : Int} (r0 : 0 ≤ r) (r1 : r < A M 219 37) (i0 : 0 ≤ i) (i1 : i < A M 247 r - 1) : 0 ≤ lkn M r i ∧ lkn M r i < 6400 := by
  have hn := h2.1
  have hb := h13.2.2 r r0 r1
  have a := (hb.2.2.1 i i0 (by omega)).1
  have b := (hb.2.2.1 (i + 1) (by omega) (by omega)).1
  rw [show 21 * r + (i + 1) = 21 * r + i + 1 by omega] at b
  unfold lkn
  omega
theorem inR_iff (h2 : I2 M) (h13 : I13 M) (h14 : I14 M) {r t : Int} (r0 : 0 ≤ r) (r1 : r < A M 219 37) (t0 : 0 ≤ t) (t1 : t < 6400) (h0 : ¬ A M 45 t = 0) : inR M r t ↔ ∃ j : Int, 0 ≤ j ∧ j < A M 57 r ∧ A M (47 + 1 * r.toNat) j = A M 45 t - 1 := by
  obtain ⟨c1, c2, c3, c4⟩ := h14
  obtain ⟨b1, b2, b3, b4⟩ := c4 r r0 r1
  constructor
  · rintro ⟨i, i0, i1, i2⟩
    obtain ⟨j, j0, j1, j2⟩ := b4 i i0 i1
    rw [i2] at j2
    exact ⟨j, j0, j1, by omega⟩
  · rintro ⟨j, j0, j1, j2⟩
    obtain ⟨x, i, i0, i1, i2⟩ := b2 j j0 j1
    refine ⟨i, i0, i1, ?_⟩
    have e : A M 45 (lkn M r i) = A M 45 t := by rw [i2, j2]; omega
    have hl := lkn_r h2 h13 r0 r1 i0 i1
    have u := (lkt_i c3 hl.1 hl.2 (by rw [e]; exact h0)).2.2
    have v := (lkt_i c3 t0 t1 h0).2.2
    rw [e] at u
    exact u.symm.trans v
theorem inR_no (h2 : I2 M) (h13 : I13 M) (h14 : I14 M) {r t : Int} (r0 : 0 ≤ r) (r1 : r < A M 219 37) (h0 : A M 45 t = 0) : ¬ inR M r t := by
  rintro ⟨i, i0, i1, i2⟩
  obtain ⟨c1, c2, c3, c4⟩ := h14
  obtain ⟨b1, b2, b3, b4⟩ := c4 r r0 r1
  obtain ⟨j, j0, j1, j2⟩ := b4 i i0 i1
  have := (b2 j j0 j1).1
  rw [i2] at j2
  omega
theorem b_ride (hF : F = am_F T0 g) (hg : GG g) (hI : Inv M) {p r : Int} (p1 : -2147483648 ≤ p) (p2 : p < 2147483648) (r1 : -2147483648 ≤ r) (r2 : r < 2147483648) :
    ∃ (x : Int) (M1 M2 : am_M), F 246 0 [.ref 0, .int (iI p), .int (iI r)] [] M = some (some (.int (iI x)), M1) ∧ F 192 0 [.ref 219, .int (iI p), .int (iI r)] [] M1 = some (some (.int (iI x)), M2) ∧ Inv M2 := by
  have hI' := hI
  obtain ⟨h1, h2, h3, h4, h5, h6, h7, h8, h9, h10, h11, h12, h13, h14, h15, h16, h17, h18, h19, hm, ht⟩ := hI
  have h81 := h8.1
  have h82 := h8.2
  have hp := h15.1
  have cp := c_noPupil hF hg h15 p1 p2
  have mp := m_isPupil hF hg h15.1 p1 p2
  obtain ⟨s1, s2, s3⟩ := h13
  by_cases q1 : p < 0 ∨ A M 219 41 - 1 < p
  · rw [bI_t q1] at cp
    rw [bI_f (by omega)] at mp
    refine ⟨-1, M, M, ?_, ?_, hI'⟩
    · refine s_RunSayer_ride hF hg ?_
      simp (config := { maxSteps := 1000000 }) (disch := (first | omega | decide | assumption)) only [ltm_s, ok_n, rd_i, rd_j, fd_i, fd_j, wr_i, wr_j, fw_i, fw_j, ci_s, cj_s, cv_s, dv_n, dw_n, rt_1, rt_b, rt_20, rt_21, okb_0, okb_1, okb_b, nar_0, nar_1, nar_b, i_0, i_1, j_0, j_1, i_lit, j_lit, i_n, iI_add, iI_sub, iI_mul, iI_neg, jI_add, jI_sub, jI_mul, jI_neg, sh_1, an_1, xo_1, di_p, dj_p, i_64A, i_64, j_32, lq_ge, lq_lt, lq_le, lq_gt, lq_eq, i_lt, i_le, i_eq, j_eq, iI_A, jI_J, iI_b, iI_v, jI_v, ↓reduceIte, ite_true, ite_false, Int.reduceEq, Int.reduceLT, Int.reduceLE, Int.reduceAdd, Int.reduceSub, Int.reduceMul, Int.reduceNeg, not_true_eq_false, not_false_eq_true, cp]
    · refine s_Model_ride hF hg ?_
      simp (config := { maxSteps := 1000000 }) (disch := (first | omega | decide | assumption)) only [ltm_s, ok_n, rd_i, rd_j, fd_i, fd_j, wr_i, wr_j, fw_i, fw_j, ci_s, cj_s, cv_s, dv_n, dw_n, rt_1, rt_b, rt_20, rt_21, okb_0, okb_1, okb_b, nar_0, nar_1, nar_b, i_0, i_1, j_0, j_1, i_lit, j_lit, i_n, iI_add, iI_sub, iI_mul, iI_neg, jI_add, jI_sub, jI_mul, jI_neg, sh_1, an_1, xo_1, di_p, dj_p, i_64A, i_64, j_32, lq_ge, lq_lt, lq_le, lq_gt, lq_eq, i_lt, i_le, i_eq, j_eq, iI_A, jI_J, iI_b, iI_v, jI_v, ↓reduceIte, ite_true, ite_false, Int.reduceEq, Int.reduceLT, Int.reduceLE, Int.reduceAdd, Int.reduceSub, Int.reduceMul, Int.reduceNeg, not_true_eq_false, not_false_eq_true, mp]
  rw [bI_f q1] at cp
  rw [bI_t (by omega)] at mp
  have cr := c_outside hF hg (M := M) (v := r) (l := 0) (h := A M 219 37 - 1) r1 r2 (by omega) (by omega) (by omega) (by omega)
  have mr : ∀ N : am_M, A N 219 37 = A M 219 37 → F 121 0 [.ref 219, .int (iI r)] [] N = some (some (.int (iI (bI (0 ≤ r ∧ r ≤ A M 219 37 - 1)))), N) := fun N h => by
    refine s_Model_isSaidRun hF hg ?_
    simp (config := { maxSteps := 1000000 }) (disch := (first | omega | decide | assumption)) only [ltm_s, ok_n, rd_i, rd_j, fd_i, fd_j, wr_i, wr_j, fw_i, fw_j, ci_s, cj_s, cv_s, dv_n, dw_n, rt_1, rt_b, rt_20, rt_21, okb_0, okb_1, okb_b, nar_0, nar_1, nar_b, i_0, i_1, j_0, j_1, i_lit, j_lit, i_n, iI_add, iI_sub, iI_mul, iI_neg, jI_add, jI_sub, jI_mul, jI_neg, sh_1, an_1, xo_1, di_p, dj_p, i_64A, i_64, j_32, lq_ge, lq_lt, lq_le, lq_gt, lq_eq, i_lt, i_le, i_eq, j_eq, iI_A, jI_J, iI_b, iI_v, jI_v, ↓reduceIte, ite_true, ite_false, Int.reduceEq, Int.reduceLT, Int.reduceLE, Int.reduceAdd, Int.reduceSub, Int.reduceMul, Int.reduceNeg, not_true_eq_false, not_false_eq_true, h, m_inn hF hg]
  by_cases q2 : r < 0 ∨ A M 219 37 - 1 < r
  · rw [bI_t q2] at cr
    have mr := mr M rfl
    rw [bI_f (by omega)] at mr
    refine ⟨-1, M, M, ?_, ?_, hI'⟩
    · refine s_RunSayer_ride hF hg ?_
      simp (config := { maxSteps := 1000000 }) (disch := (first | omega | decide | assumption)) only [ltm_s, ok_n, rd_i, rd_j, fd_i, fd_j, wr_i, wr_j, fw_i, fw_j, ci_s, cj_s, cv_s, dv_n, dw_n, rt_1, rt_b, rt_20, rt_21, okb_0, okb_1, okb_b, nar_0, nar_1, nar_b, i_0, i_1, j_0, j_1, i_lit, j_lit, i_n, iI_add, iI_sub, iI_mul, iI_neg, jI_add, jI_sub, jI_mul, jI_neg, sh_1, an_1, xo_1, di_p, dj_p, i_64A, i_64, j_32, lq_ge, lq_lt, lq_le, lq_gt, lq_eq, i_lt, i_le, i_eq, j_eq, iI_A, jI_J, iI_b, iI_v, jI_v, ↓reduceIte, ite_true, ite_false, Int.reduceEq, Int.reduceLT, Int.reduceLE, Int.reduceAdd, Int.reduceSub, Int.reduceMul, Int.reduceNeg, not_true_eq_false, not_false_eq_true, cp, s2, cr]
    · refine s_Model_ride hF hg ?_
      simp (config := { maxSteps := 1000000 }) (disch := (first | omega | decide | assumption)) only [ltm_s, ok_n, rd_i, rd_j, fd_i, fd_j, wr_i, wr_j, fw_i, fw_j, ci_s, cj_s, cv_s, dv_n, dw_n, rt_1, rt_b, rt_20, rt_21, okb_0, okb_1, okb_b, nar_0, nar_1, nar_b, i_0, i_1, j_0, j_1, i_lit, j_lit, i_n, iI_add, iI_sub, iI_mul, iI_neg, jI_add, jI_sub, jI_mul, jI_neg, sh_1, an_1, xo_1, di_p, dj_p, i_64A, i_64, j_32, lq_ge, lq_lt, lq_le, lq_gt, lq_eq, i_lt, i_le, i_eq, j_eq, iI_A, jI_J, iI_b, iI_v, jI_v, ↓reduceIte, ite_true, ite_false, Int.reduceEq, Int.reduceLT, Int.reduceLE, Int.reduceAdd, Int.reduceSub, Int.reduceMul, Int.reduceNeg, not_true_eq_false, not_false_eq_true, mp, mr]
  rw [bI_f q2] at cr
  have rr : 0 ≤ r ∧ r < A M 219 37 := by omega
  have pp : 0 ≤ p ∧ p < A M 219 41 := by omega
  have p4 : p < 4 := by omega
  have hnp : (iI p).toNatClampNeg = p.toNat := iI_n (by omega) (by omega)
  obtain ⟨c1, c2, c3, c4⟩ := id h14
  obtain ⟨b1, b2, b3, b4⟩ := c4 r rr.1 rr.2
  have hlc : A M 42 2 ≤ 200 := by omega
  have hpa : 72 ≤ 72 + 5 * p.toNat ∧ 72 + 5 * p.toNat < 90 := by omega
  -- the class's side
  have tl : ∀ l : Int, 0 ≤ l → l < A M 42 2 → A M (72 + 5 * p.toNat + 1) l = A M 251 (6400 * p + lkt M l) ∧ (0 ≤ lkt M l ∧ lkt M l < 6400) := fun l l0 l1 => by
    obtain ⟨x0, x1, x2⟩ := lkt_r c3 l0 l1
    have b := ((h15.2.2.2 p pp.1 p4).2 (lkt M l) x0 x1).2 (by omega)
    rw [x2, show l + 1 - 1 = l by omega] at b
    exact ⟨b.1, x0, x1⟩
  obtain ⟨M1, k1, k2, k3⟩ := c_rideRun hF hg (pu_ok hg pp.1 p4) hpa (M := M) (r := r) (day := toD M) (n := A M 57 r) (o := fun j => A M (47 + 1 * r.toNat) j) rr.1 (by omega) (by omega) (by omega) b1 (fun i i0 i1 => by
    have := (b2 i i0 i1).1
    exact ⟨this.1, by omega⟩) (fun i j i0 ij j1 => b3 i j i0 ij j1) rfl (fun _ _ _ => rfl) (fun i i0 i1 => by
    have a := (b2 i i0 i1).1
    have b := tl _ a.1 a.2
    rw [b.1]
    exact (h9.2 (6400 * p + lkt M (A M (47 + 1 * r.toNat) i)) (by omega) (by omega)).1)
  have f1 : ∀ a : Nat, ¬ a = 72 + 5 * p.toNat + 1 → ¬ a = 72 + 5 * p.toNat + 2 → ∀ z, A M1 a z = A M a z := fun a h1 h2 z => congrArg Int32.toInt (k2 a z.toNat (by simp only [List.mem_cons, List.not_mem_nil, or_false]; omega) (by simp only [List.not_mem_nil, not_false_eq_true])).1
  have hb := s3 r rr.1 rr.2
  have hn := h2.1
  -- the model's side
  obtain ⟨M2, u1, u2, u3, u4, u5⟩ := m_rides hF hg (M := M1) (p := p) (r := r) (day := toD M) pp.1 p4 rr.1 (by omega) (by omega) (by omega) (by rw [f1 247 (by omega) (by omega)]; exact hb.1) (fun j j0 j1 => by
    rw [f1 247 (by omega) (by omega)] at j1
    rw [f1 248 (by omega) (by omega)]
    have := (hb.2.2.1 j j0 j1).1
    omega) (fun z z0 z1 => by
    rw [f1 251 (by omega) (by omega)]
    exact (h9.2 z z0 z1).1)
  have hmem : ∀ a, a ∈ [72 + 5 * p.toNat + 1, 72 + 5 * p.toNat + 2] → a ∈ [73, 74, 78, 79, 83, 84, 88, 89, 251, 252] := fun a ha => by
    simp only [List.mem_cons, List.not_mem_nil, or_false] at ha ⊢
    omega
  have c : Ch [73, 74, 78, 79, 83, 84, 88, 89, 251, 252] [] M M2 := (k2.sub hmem).trans (u2.mono rfl)
  have f2 : ∀ a : Nat, ¬ a = 251 → ¬ a = 252 → ∀ z, A M2 a z = A M1 a z := fun a h1 h2 z => congrArg Int32.toInt (u2 a z.toNat (by simp only [List.mem_cons, List.not_mem_nil, or_false]; omega) (by simp only [List.not_mem_nil, not_false_eq_true])).1
  have e247 : A M1 247 r = A M 247 r := f1 247 (by omega) (by omega) r
  have eR : ∀ t, inR M1 r t ↔ inR M r t := fun t => by
    unfold inR lkn
    simp only [f1 247 (by omega) (by omega), f1 248 (by omega) (by omega)]
  have h13' : I13 M := ⟨s1, s2, s3⟩
  have e251 : ∀ z, A M1 251 z = A M 251 z := f1 251 (by omega) (by omega)
  have e252 : ∀ z, A M1 252 z = A M 252 z := f1 252 (by omega) (by omega)
  have h9' : I9 M2 := by
    refine ⟨fun x x0 x1 => by rw [c.a (a := 250) rfl]; exact h9.1 x x0 x1, fun z z0 z1 => ⟨u3 z z0 z1, ?_⟩⟩
    have old := (h9.2 z z0 z1).2
    by_cases pz : z < 6400 * p ∨ 6400 * p + 6400 ≤ z
    · rw [(u5 z z0 pz).2, e252]; exact old
    · have h := u4 (z - 6400 * p) (by omega) (by omega)
      rw [show 6400 * p + (z - 6400 * p) = z by omega] at h
      by_cases pi : inR M1 r (z - 6400 * p)
      · rw [(h.1 pi).2]; omega
      · rw [(h.2 pi).2, e252]; exact old
  have h15' : I15 M2 := by
    obtain ⟨w1, w2, w3, w4⟩ := h15
    refine ⟨by rw [c.f (a := 219) (z := 41) rfl]; exact w1, by rw [c.f (a := 219) (z := 41) rfl, c.f (a := 0) (z := 11) rfl]; exact w2, fun x x0 x1 => ?_, fun x x0 x1 => ?_⟩
    · rw [c.f (a := 219) (z := 41) rfl] at x1
      rw [f2 _ (by omega) (by omega), f1 _ (by omega) (by omega), c.a (a := 250) rfl]
      exact w3 x x0 x1
    · obtain ⟨y1, y2⟩ := w4 x x0 x1
      have e45 : ∀ z, A M2 45 z = A M 45 z := fun z => c.a rfl
      have e42 : A M2 42 2 = A M 42 2 := c.f rfl
      by_cases px : x = p
      · rw [px] at y1 y2 ⊢
        refine ⟨fun l l0 l1 => ?_, fun t t0 t1 => ?_⟩
        · rw [e42] at l0
          rw [f2 _ (by omega) (by omega), f2 _ (by omega) (by omega)]
          have h := (k3 l (by omega)).2 (fun ⟨i, i0, i1, e⟩ => by
            have := (b2 i i0 i1).1
            have e' : A M (47 + 1 * r.toNat) i = l := e
            omega)
          rw [h.1, h.2]
          exact y1 l l0 l1
        · rw [e45, f2 (72 + 5 * p.toNat + 1) (by omega) (by omega), f2 (72 + 5 * p.toNat + 2) (by omega) (by omega)]
          have h := u4 t t0 t1
          refine ⟨fun z0 => ?_, fun z0 => ?_⟩
          · have no : ¬ inR M1 r t := fun a => inR_no h2 h13' h14 rr.1 rr.2 z0 ((eR t).mp a)
            rw [(h.2 no).1, (h.2 no).2, e251, e252]
            exact (y2 t t0 t1).1 z0
          · have hz := lkt_i c3 t0 t1 z0
            have hk := k3 (A M 45 t - 1) hz.1
            have iff := inR_iff h2 h13' h14 rr.1 rr.2 t0 t1 z0
            have old := (y2 t t0 t1).2 z0
            by_cases pi : inR M r t
            · have hk := hk.1 (iff.mp pi)
              have hm := h.1 ((eR t).mpr pi)
              rw [hk.1, hk.2, hm.1, hm.2, old.1, e251]
              exact ⟨rfl, rfl⟩
            · have hk := hk.2 (fun a => pi (iff.mpr a))
              have hm := h.2 (fun a => pi ((eR t).mp a))
              rw [hk.1, hk.2, hm.1, hm.2, old.1, old.2, e251, e252]
              exact ⟨rfl, rfl⟩
      · refine ⟨fun l l0 l1 => ?_, fun t t0 t1 => ?_⟩
        · rw [e42] at l0
          rw [f2 _ (by omega) (by omega), f2 _ (by omega) (by omega), f1 _ (by omega) (by omega), f1 _ (by omega) (by omega)]
          exact y1 l l0 l1
        · have h := u5 (6400 * x + t) (by omega) (by omega)
          rw [e45, f2 (72 + 5 * x.toNat + 1) (by omega) (by omega), f2 (72 + 5 * x.toNat + 2) (by omega) (by omega), f1 (72 + 5 * x.toNat + 1) (by omega) (by omega), f1 (72 + 5 * x.toNat + 2) (by omega) (by omega), h.1, h.2, e251, e252]
          exact y2 t t0 t1
  have h14' : I14 M2 := c.i14 rfl h14
  have pu : PuA M2 M1 p := ⟨(f2 42 (by omega) (by omega) 2).symm, fun z => ⟨(f2 _ (by omega) (by omega) z).symm, (f2 _ (by omega) (by omega) z).symm, (f2 _ (by omega) (by omega) z).symm⟩⟩
  have hc := c_heldCount hF hg h9' h14' h15' pu (day := toD M) pp.1 (by rw [c.f (a := 219) (z := 41) rfl]; exact pp.2) (by omega) (by omega)
  rw [held_eq h14' h15' pp.1 p4] at hc
  have hm2 := m_heldOn hF hg (Ag.refl M2) h9' (p := p) (day := toD M) pp.1 p4 (by omega) (by omega)
  have t18 : A M1 18 0 = toD M := by rw [f1 18 (by omega) (by omega)]; exact h82
  have t14 : A M1 219 14 = toD M := f1 219 (by omega) (by omega) 14
  have t14' : A M2 219 14 = toD M := c.f (a := 219) (z := 14) rfl
  have mp' := m_isPupil hF hg (M := M1) (by rw [f1 219 (by omega) (by omega)]; exact h15.1) p1 p2
  rw [f1 219 (by omega) (by omega), bI_t (by omega)] at mp'
  have mr' := mr M1 (f1 219 (by omega) (by omega) 37)
  rw [bI_t (by omega)] at mr'
  refine ⟨cn (fun t => hl M2 p t (toD M)) 6400, M1, M2, ?_, ?_, ⟨c.i1 rfl h1, c.i2 rfl h2, c.i3 rfl h3, c.i4 rfl h4, c.i5 rfl h5, c.i6 rfl h6, c.i7 rfl h7, c.i8 rfl h8, h9', c.i10 rfl h10, c.i11 rfl h11, c.i12 rfl h12, c.i13 rfl h13', c.i14 rfl h14, h15', c.i16 rfl h16, c.i17 rfl h17, c.i18 rfl h18, c.i19 rfl h19, c.imk rfl hm, c.itd rfl ht⟩⟩
  · refine s_RunSayer_ride hF hg ?_
    simp (config := { maxSteps := 1000000 }) (disch := (first | omega | decide | assumption)) only [ltm_s, ok_n, rd_i, rd_j, fd_i, fd_j, wr_i, wr_j, fw_i, fw_j, ci_s, cj_s, cv_s, dv_n, dw_n, rt_1, rt_b, rt_20, rt_21, okb_0, okb_1, okb_b, nar_0, nar_1, nar_b, i_0, i_1, j_0, j_1, i_lit, j_lit, i_n, iI_add, iI_sub, iI_mul, iI_neg, jI_add, jI_sub, jI_mul, jI_neg, sh_1, an_1, xo_1, di_p, dj_p, i_64A, i_64, j_32, lq_ge, lq_lt, lq_le, lq_gt, lq_eq, i_lt, i_le, i_eq, j_eq, iI_A, jI_J, iI_b, iI_v, jI_v, ↓reduceIte, ite_true, ite_false, Int.reduceEq, Int.reduceLT, Int.reduceLE, Int.reduceAdd, Int.reduceSub, Int.reduceMul, Int.reduceNeg, not_true_eq_false, not_false_eq_true, iI_n, rdn_i, rdn_j, wrn_i, wrn_j, cp, s2, cr, h82, k1, t18, hc]
  · refine s_Model_ride hF hg ?_
    simp (config := { maxSteps := 1000000 }) (disch := (first | omega | decide | assumption)) only [ltm_s, ok_n, rd_i, rd_j, fd_i, fd_j, wr_i, wr_j, fw_i, fw_j, ci_s, cj_s, cv_s, dv_n, dw_n, rt_1, rt_b, rt_20, rt_21, okb_0, okb_1, okb_b, nar_0, nar_1, nar_b, i_0, i_1, j_0, j_1, i_lit, j_lit, i_n, iI_add, iI_sub, iI_mul, iI_neg, jI_add, jI_sub, jI_mul, jI_neg, sh_1, an_1, xo_1, di_p, dj_p, i_64A, i_64, j_32, lq_ge, lq_lt, lq_le, lq_gt, lq_eq, i_lt, i_le, i_eq, j_eq, iI_A, jI_J, iI_b, iI_v, jI_v, ↓reduceIte, ite_true, ite_false, Int.reduceEq, Int.reduceLT, Int.reduceLE, Int.reduceAdd, Int.reduceSub, Int.reduceMul, Int.reduceNeg, not_true_eq_false, not_false_eq_true, iI_n, rdn_i, rdn_j, wrn_i, wrn_j, mp', mr', t14, u1, t14', hm2]
end Ri
