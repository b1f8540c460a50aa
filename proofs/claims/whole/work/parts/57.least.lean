/-! THE LEAST TO COME, as the finder finds it -/
section Le
variable {M0 M M' : am_M} {g : am_G} {F : am_FT}
theorem fset_ke {md : Int × Int × Int × Int} (h : fset M0 md M) (hK : Ke [37, 38, 39, 40, 41] M M') : fset M0 md M' := by
  unfold fset Imk
  simp only [hK.a (a := 32) (by decide), hK.a (a := 33) (by decide), hK.a (a := 34) (by decide), hK.a (a := 35) (by decide), hK.a (a := 36) (by decide)]
  exact h
theorem wgh_ke {by_ a b hour : Int} (h : wgh M0 by_ a b hour M) (hK : Ke [40, 41] M M') : wgh M0 by_ a b hour M' := by
  unfold wgh
  simp only [hK.a (a := 32) (by decide), hK.a (a := 37) (by decide), hK.j (a := 38) (by decide), hK.j (a := 39) (by decide)]
  exact h
theorem c_nearest_l (hF : F = am_F T0 g) (hg : GG g) {N : Int} (N1 : N ≤ 80) : ∀ (n k : Nat) (b c : Int), (k : Int) + n = N → c ≤ FARC → -9223372036854775808 ≤ c → (∀ u : Int, 0 ≤ u → u < (k : Int) → A M 41 u = 0 → c ≤ J M 40 u) → (b = -1 ∧ c = FARC ∨ (0 ≤ b ∧ b < N) ∧ A M 41 b = 0 ∧ J M 40 b = c ∧ c ≠ FARC) →
    ∃ r : Int, F 20 9 [.ref 32, .int (iI N), .int (iI b), .long (jI c), .int (iI k)] [] M = some (some (.int (iI r)), M) ∧ (r = -1 ∧ (∀ u : Int, 0 ≤ u → u < N → A M 41 u = 0 → FARC ≤ J M 40 u) ∨ (0 ≤ r ∧ r < N) ∧ A M 41 r = 0 ∧ J M 40 r ≠ FARC ∧ ∀ u : Int, 0 ≤ u → u < N → A M 41 u = 0 → J M 40 r ≤ J M 40 u) := by
  intro n
  induction n with
  | zero =>
    intro k b c h c1 c0 hl hb
    refine ⟨b, ?_, ?_⟩
    · refine s_Finder_nearest_9 hF hg ?_
      simp (disch := (first | omega | decide | assumption)) only [ltm_s, ok_n, rd_i, rd_j, fd_i, fd_j, wr_i, wr_j, fw_i, fw_j, ci_s, cj_s, cv_s, dv_n, dw_n, rt_1, rt_b, rt_20, rt_21, okb_0, okb_1, okb_b, nar_0, nar_1, nar_b, i_0, i_1, j_0, j_1, i_lit, j_lit, i_n, iI_add, iI_sub, iI_mul, iI_neg, jI_add, jI_sub, jI_mul, jI_neg, sh_1, an_1, xo_1, di_p, dj_p, i_64A, i_64, j_32, lq_ge, lq_lt, lq_le, lq_gt, lq_eq, i_lt, i_le, i_eq, j_eq, iI_A, jI_J, iI_b, iI_v, jI_v, ↓reduceIte, ite_true, ite_false, Int.reduceEq, Int.reduceLT, Int.reduceLE, Int.reduceAdd, Int.reduceSub, Int.reduceMul, Int.reduceNeg, not_true_eq_false, not_false_eq_true]
      rw [if_pos (by omega)]
    · rcases hb with ⟨hb, hc⟩ | ⟨hb, h1, h2, h3⟩
      · exact Or.inl ⟨hb, fun u u0 u1 hu => by rw [← hc]; exact hl u u0 (by omega) hu⟩
      · exact Or.inr ⟨hb, h1, by rw [h2]; exact h3, fun u u0 u1 hu => by rw [h2]; exact hl u u0 (by omega) hu⟩
  | succ n ih =>
    intro k b c h c1 c0 hl hb
    have ek : ((k + 1 : Nat) : Int) = (k : Int) + 1 := by omega
    have hlt : ¬ N ≤ (k : Int) := by omega
    have eF : FARC = 9223372036854775807 := rfl
    by_cases hs : A M 41 k = 0
    · by_cases hv : c ≤ J M 40 k
      · obtain ⟨r, q1, q2⟩ := ih (k + 1) b c (by omega) c1 c0 (fun u u0 u1 hu => by
          by_cases eu : u = k
          · rw [eu]; exact hv
          · exact hl u u0 (by omega) hu) hb
        rw [ek] at q1
        refine ⟨r, ?_, q2⟩
        refine s_Finder_nearest_9 hF hg ?_
        simp (disch := (first | omega | decide | assumption)) only [ltm_s, ok_n, rd_i, rd_j, fd_i, fd_j, wr_i, wr_j, fw_i, fw_j, ci_s, cj_s, cv_s, dv_n, dw_n, rt_1, rt_b, rt_20, rt_21, okb_0, okb_1, okb_b, nar_0, nar_1, nar_b, i_0, i_1, j_0, j_1, i_lit, j_lit, i_n, iI_add, iI_sub, iI_mul, iI_neg, jI_add, jI_sub, jI_mul, jI_neg, sh_1, an_1, xo_1, di_p, dj_p, i_64A, i_64, j_32, lq_ge, lq_lt, lq_le, lq_gt, lq_eq, i_lt, i_le, i_eq, j_eq, iI_A, jI_J, iI_b, iI_v, jI_v, ↓reduceIte, ite_true, ite_false, Int.reduceEq, Int.reduceLT, Int.reduceLE, Int.reduceAdd, Int.reduceSub, Int.reduceMul, Int.reduceNeg, not_true_eq_false, not_false_eq_true, hlt, hs, hv, q1]
      · have hJ := J_hi M 40 k
        have hJ2 := J_lo M 40 k
        obtain ⟨r, q1, q2⟩ := ih (k + 1) k (J M 40 k) (by omega) (by omega) hJ2 (fun u u0 u1 hu => by
          by_cases eu : u = k
          · rw [eu]; omega
          · have := hl u u0 (by omega) hu; omega) (Or.inr ⟨by omega, hs, rfl, by omega⟩)
        rw [ek] at q1
        refine ⟨r, ?_, q2⟩
        refine s_Finder_nearest_9 hF hg ?_
        simp (disch := (first | omega | decide | assumption)) only [ltm_s, ok_n, rd_i, rd_j, fd_i, fd_j, wr_i, wr_j, fw_i, fw_j, ci_s, cj_s, cv_s, dv_n, dw_n, rt_1, rt_b, rt_20, rt_21, okb_0, okb_1, okb_b, nar_0, nar_1, nar_b, i_0, i_1, j_0, j_1, i_lit, j_lit, i_n, iI_add, iI_sub, iI_mul, iI_neg, jI_add, jI_sub, jI_mul, jI_neg, sh_1, an_1, xo_1, di_p, dj_p, i_64A, i_64, j_32, lq_ge, lq_lt, lq_le, lq_gt, lq_eq, i_lt, i_le, i_eq, j_eq, iI_A, jI_J, iI_b, iI_v, jI_v, ↓reduceIte, ite_true, ite_false, Int.reduceEq, Int.reduceLT, Int.reduceLE, Int.reduceAdd, Int.reduceSub, Int.reduceMul, Int.reduceNeg, not_true_eq_false, not_false_eq_true, hlt, hs, hv, q1]
    · obtain ⟨r, q1, q2⟩ := ih (k + 1) b c (by omega) c1 c0 (fun u u0 u1 hu => by
        by_cases eu : u = k
        · rw [eu] at hu; exact absurd hu hs
        · exact hl u u0 (by omega) hu) hb
      rw [ek] at q1
      refine ⟨r, ?_, q2⟩
      refine s_Finder_nearest_9 hF hg ?_
      simp (disch := (first | omega | decide | assumption)) only [ltm_s, ok_n, rd_i, rd_j, fd_i, fd_j, wr_i, wr_j, fw_i, fw_j, ci_s, cj_s, cv_s, dv_n, dw_n, rt_1, rt_b, rt_20, rt_21, okb_0, okb_1, okb_b, nar_0, nar_1, nar_b, i_0, i_1, j_0, j_1, i_lit, j_lit, i_n, iI_add, iI_sub, iI_mul, iI_neg, jI_add, jI_sub, jI_mul, jI_neg, sh_1, an_1, xo_1, di_p, dj_p, i_64A, i_64, j_32, lq_ge, lq_lt, lq_le, lq_gt, lq_eq, i_lt, i_le, i_eq, j_eq, iI_A, jI_J, iI_b, iI_v, jI_v, ↓reduceIte, ite_true, ite_false, Int.reduceEq, Int.reduceLT, Int.reduceLE, Int.reduceAdd, Int.reduceSub, Int.reduceMul, Int.reduceNeg, not_true_eq_false, not_false_eq_true, hlt, hs, q1]
theorem c_nearest (hF : F = am_F T0 g) (hg : GG g) {N : Int} (N0 : 0 ≤ N) (N1 : N ≤ 80) : ∃ r : Int, F 20 0 [.ref 32, .int (iI N)] [] M = some (some (.int (iI r)), M) ∧ (r = -1 ∧ (∀ u : Int, 0 ≤ u → u < N → A M 41 u = 0 → FARC ≤ J M 40 u) ∨ (0 ≤ r ∧ r < N) ∧ A M 41 r = 0 ∧ J M 40 r ≠ FARC ∧ ∀ u : Int, 0 ≤ u → u < N → A M 41 u = 0 → J M 40 r ≤ J M 40 u) := by
  have eF : FARC = 9223372036854775807 := rfl
  obtain ⟨r, q1, q2⟩ := c_nearest_l hF hg (M := M) N1 N.toNat 0 (-1) FARC (by omega) (by omega) (by omega) (fun u u0 u1 => by omega) (Or.inl ⟨rfl, rfl⟩)
  exact ⟨r, s_Finder_nearest hF hg q1, q2⟩
theorem c_costThrough (hF : F = am_F T0 g) (hg : GG g) {f : Int} (f0 : 0 ≤ f) (f1 : f < 80) : F 16 0 [.ref 32, .int (iI f)] [] M = some (some (.long (jI (if J M 40 f = FARC then FARC else J M 40 f + J M 38 f))), M) := by
  refine s_Finder_costThrough hF hg ?_
  have eF : FARC = 9223372036854775807 := rfl
  simp (disch := (first | omega | decide | assumption)) only [ltm_s, ok_n, rd_i, rd_j, fd_i, fd_j, wr_i, wr_j, fw_i, fw_j, ci_s, cj_s, cv_s, dv_n, dw_n, rt_1, rt_b, rt_20, rt_21, okb_0, okb_1, okb_b, nar_0, nar_1, nar_b, i_0, i_1, j_0, j_1, i_lit, j_lit, i_n, iI_add, iI_sub, iI_mul, iI_neg, jI_add, jI_sub, jI_mul, jI_neg, sh_1, an_1, xo_1, di_p, dj_p, i_64A, i_64, j_32, lq_ge, lq_lt, lq_le, lq_gt, lq_eq, i_lt, i_le, i_eq, j_eq, iI_A, jI_J, iI_b, iI_v, jI_v, ↓reduceIte, ite_true, ite_false, Int.reduceEq, Int.reduceLT, Int.reduceLE, Int.reduceAdd, Int.reduceSub, Int.reduceMul, Int.reduceNeg, not_true_eq_false, not_false_eq_true]
  rw [eF]
  split <;> rfl
theorem c_spread_i (hF : F = am_F T0 g) (hg : GG g) {N w : Int} (N1 : N ≤ 80) : ∀ (n k : Nat) (M : am_M), (k : Int) + n = N → (∀ e : Int, 0 ≤ e → e < (k : Int) → J M 40 e = FARC ∧ A M 41 e = 0) →
    ∃ M' : am_M, Ke [40, 41] M M' ∧ (∀ e : Int, 0 ≤ e → e < N → J M' 40 e = FARC ∧ A M' 41 e = 0) ∧ ∀ r : am_R, F 171 41 [.ref 32, .int (iI N), .int (iI w), .int (iI N)] [] M' = some r →
    F 171 41 [.ref 32, .int (iI N), .int (iI w), .int (iI k)] [] M = some r := by
  intro n
  induction n with
  | zero =>
    intro k M h hp
    have e : (k : Int) = N := by omega
    refine ⟨M, Ke.refl, fun e e0 e1 => hp e e0 (by omega), fun r h => ?_⟩
    rw [e]; exact h
  | succ n ih =>
    intro k M h hp
    have ek : ((k + 1 : Nat) : Int) = (k : Int) + 1 := by omega
    have hlt : ¬ N ≤ (k : Int) := by omega
    have eF : FARC = 9223372036854775807 := rfl
    have hK : Ke [40, 41] M (W_ (X_ M 40 k FARC) 41 k 0) := (Ke.refl.x (by decide)).w (by decide)
    obtain ⟨M', q1, q2, q3⟩ := ih (k + 1) (W_ (X_ M 40 k FARC) 41 k 0) (by omega) (fun e e0 e1 => by
      by_cases ee : e = k
      · rw [ee, J_W, J_Xs (by omega) (by omega), A_Ws (by omega) (by omega)]
        exact ⟨rfl, rfl⟩
      · rw [J_W, J_Xo (by omega) e0 ee, A_Wo (by omega) e0 ee, A_X]
        exact hp e e0 (by omega))
    refine ⟨M', hK.trans q1, q2, fun r hr => ?_⟩
    have q4 := q3 r hr
    rw [ek, eF] at q4
    refine s_Finder_spread_41 hF hg ?_
    simp (disch := (first | omega | decide | assumption)) only [ltm_s, ok_n, rd_i, rd_j, fd_i, fd_j, wr_i, wr_j, fw_i, fw_j, ci_s, cj_s, cv_s, dv_n, dw_n, rt_1, rt_b, rt_20, rt_21, okb_0, okb_1, okb_b, nar_0, nar_1, nar_b, i_0, i_1, j_0, j_1, i_lit, j_lit, i_n, iI_add, iI_sub, iI_mul, iI_neg, jI_add, jI_sub, jI_mul, jI_neg, sh_1, an_1, xo_1, di_p, dj_p, i_64A, i_64, j_32, lq_ge, lq_lt, lq_le, lq_gt, lq_eq, i_lt, i_le, i_eq, j_eq, iI_A, jI_J, iI_b, iI_v, jI_v, ↓reduceIte, ite_true, ite_false, Int.reduceEq, Int.reduceLT, Int.reduceLE, Int.reduceAdd, Int.reduceSub, Int.reduceMul, Int.reduceNeg, not_true_eq_false, not_false_eq_true, hlt, q4]
theorem c_spread_l (hF : F = am_F T0 g) (hg : GG g) (h1 : I1 M0) (h2 : I2 M0) (h3 : I3 M0) (h4 : I4 M0) {md : Int × Int × Int × Int} {by_ a b : Int} (hb : by_ = 0 ∨ by_ = 1) (u0 : 0 ≤ md.2.2.1) (u1 : md.2.2.1 < 24) (a0 : 0 ≤ a) (a1 : a < nD M0) (b0 : 0 ≤ b) (b1 : b < nD M0) {N : Nat} (hN : (N : Int) = 2 * nW M0) : ∀ (n k : Nat) (M : am_M), (k : Int) + n = N → Ag M0 M → fset M0 md M → wgh M0 by_ a b md.2.2.1 M → (∀ e : Int, 0 ≤ e → e < N → A M 41 e = 0 ∨ A M 41 e = 1) → cn (fun e => A M 41 e = 1) N = k →
    (∀ e : Int, 0 ≤ e → e < N → J M 40 e ≠ FARC → J M 40 e ≤ ((k : Int) + 1) * 85903640887296 ∧ (by_ = 1 → J M 40 e % 4294967296 ≤ ((k : Int) + 1) * 20000)) → Dij N (may M0 md) (gol M0 b) (gkk M0 by_ b) (wkk M0 by_ a b md.2.2.1) (fun e => A M 41 e = 1) (J M 40) →
    ∃ M' : am_M, F 171 105 [.ref 32, .int (iI N), .int (iI k)] [] M = some (none, M') ∧ Ke [40, 41] M M' ∧ (∀ e : Int, 0 ≤ e → e < 2 * nW M0 → J M' 40 e ≠ FARC → J M' 40 e ≤ 7000000000000000 ∧ (by_ = 1 → J M' 40 e % 4294967296 ≤ 1620000)) ∧ Bel N (may M0 md) (gol M0 b) (gkk M0 by_ b) (wkk M0 by_ a b md.2.2.1) (J M' 40) := by
  intro n
  induction n with
  | zero =>
    intro k M h hA hs hw h01 hc hbd hD
    have hn := h2.1
    refine ⟨M, ?_, Ke.refl, fun e e0 e1 he => by have := hbd e e0 (by omega) he; omega, hD.done fun e e0 e1 _ => ?_⟩
    · refine s_Finder_spread_105 hF hg ?_
      simp (disch := (first | omega | decide | assumption)) only [ltm_s, ok_n, rd_i, rd_j, fd_i, fd_j, wr_i, wr_j, fw_i, fw_j, ci_s, cj_s, cv_s, dv_n, dw_n, rt_1, rt_b, rt_20, rt_21, okb_0, okb_1, okb_b, nar_0, nar_1, nar_b, i_0, i_1, j_0, j_1, i_lit, j_lit, i_n, iI_add, iI_sub, iI_mul, iI_neg, jI_add, jI_sub, jI_mul, jI_neg, sh_1, an_1, xo_1, di_p, dj_p, i_64A, i_64, j_32, lq_ge, lq_lt, lq_le, lq_gt, lq_eq, i_lt, i_le, i_eq, j_eq, iI_A, jI_J, iI_b, iI_v, jI_v, ↓reduceIte, ite_true, ite_false, Int.reduceEq, Int.reduceLT, Int.reduceLE, Int.reduceAdd, Int.reduceSub, Int.reduceMul, Int.reduceNeg, not_true_eq_false, not_false_eq_true]
      rw [if_pos (by omega)]
    · exact cn_full (C := fun e => A M 41 e = 1) (n := N) (by rw [hc]; omega) e e0 e1
  | succ n ih =>
    intro k M h hA hs hw h01 hc hbd hD
    have hn := h2.1
    have ek : ((k + 1 : Nat) : Int) = (k : Int) + 1 := by omega
    have hlt : ¬ (N : Int) ≤ (k : Int) := by omega
    have eF : FARC = 9223372036854775807 := rfl
    obtain ⟨r, q1, q2⟩ := c_nearest hF hg (M := M) (N := N) (by omega) (by omega)
    rcases q2 with ⟨er, q2⟩ | ⟨⟨r0, r1⟩, qs, qf, qm⟩
    · refine ⟨M, ?_, Ke.refl, fun e e0 e1 he => by have := hbd e e0 (by omega) he; omega, hD.done fun e e0 e1 he => ?_⟩
      · refine s_Finder_spread_105 hF hg ?_
        simp (disch := (first | omega | decide | assumption)) only [ltm_s, ok_n, rd_i, rd_j, fd_i, fd_j, wr_i, wr_j, fw_i, fw_j, ci_s, cj_s, cv_s, dv_n, dw_n, rt_1, rt_b, rt_20, rt_21, okb_0, okb_1, okb_b, nar_0, nar_1, nar_b, i_0, i_1, j_0, j_1, i_lit, j_lit, i_n, iI_add, iI_sub, iI_mul, iI_neg, jI_add, jI_sub, jI_mul, jI_neg, sh_1, an_1, xo_1, di_p, dj_p, i_64A, i_64, j_32, lq_ge, lq_lt, lq_le, lq_gt, lq_eq, i_lt, i_le, i_eq, j_eq, iI_A, jI_J, iI_b, iI_v, jI_v, ↓reduceIte, ite_true, ite_false, Int.reduceEq, Int.reduceLT, Int.reduceLE, Int.reduceAdd, Int.reduceSub, Int.reduceMul, Int.reduceNeg, not_true_eq_false, not_false_eq_true, hlt, q1]
        rw [if_neg (by omega)]
      · rcases h01 e e0 e1 with x | x
        · have := q2 e e0 e1 x
          have := J_hi M 40 e
          omega
        · exact x
    · have hst := strg_r h1 h2 h4 a0 a1 b0 b1 (j := en M0 r) (en_r h2 (by omega) (by omega)).1 (en_r h2 (by omega) (by omega)).2
      have hpw : ∀ f : Int, 0 ≤ f → f < (N : Int) → 0 < wkk M0 by_ a b md.2.2.1 f ∧ wkk M0 by_ a b md.2.2.1 f ≤ 85903640887296 ∧ (by_ = 1 → wkk M0 by_ a b md.2.2.1 f % 4294967296 ≤ 20000) := fun f f0 f1 => by
        have he := en_r h2 (e := f) (by omega) (by omega)
        have hst := strg_r h1 h2 h4 a0 a1 b0 b1 he.1 he.2
        have hpr := prc_r h2 (w := f / 2) (by omega) (by omega) u0 u1
        have := key_r (by_ := by_) hst.1 hst.2 (n := prc M0 (f / 2) md.2.2.1) (by omega) (by omega)
        refine ⟨this.2.2 (by omega), this.2.1, fun y => ?_⟩
        unfold wkk key offs
        subst y
        rw [if_neg (by omega)]
        omega
      have hwr := hpw r r0 r1
      have hJr := hbd r r0 r1 qf
      have hJ0 : 0 ≤ J M 40 r := by
        rcases hD.1 r r0 r1 with x | x
        · exact absurd x qf
        · exact x.1
      have e38 : J M 38 r = wkk M0 by_ a b md.2.2.1 r := (hw.2.2 r r0 (by omega)).1
      have hK1 : Ke [40, 41] M (W_ M 41 r 1) := Ke.refl.w (by decide)
      have hA1 : Ag M0 (W_ M 41 r 1) := hA.trans (hK1.ag (by decide))
      have hs1 : fset M0 md (W_ M 41 r 1) := fset_ke hs (hK1.mono (by decide))
      have ct := c_costThrough hF hg (M := W_ M 41 r 1) (f := r) r0 (by omega)
      have x1 : J (W_ M 41 r 1) 40 r = J M 40 r := J_W
      have x2 : J (W_ M 41 r 1) 38 r = wkk M0 by_ a b md.2.2.1 r := e38
      rw [x1, x2, if_neg qf] at ct
      obtain ⟨M2, o1, o2, o3⟩ := c_offer hF hg hA1 h1 h2 h3 hs1 (f := r) (v := J M 40 r + wkk M0 by_ a b md.2.2.1 r) r0 (by omega) (by omega) (by omega)
      have hK : Ke [40, 41] M M2 := hK1.trans (o2.mono (by decide))
      have e41 : ∀ e : Int, A M2 41 e = A (W_ M 41 r 1) 41 e := fun e => o2.a (by decide)
      have hS : ∀ e : Int, 0 ≤ e → e < (N : Int) → (A M2 41 e = 1 ↔ (A M 41 e = 1 ∨ e = r)) := fun e e0 e1 => by
        rw [e41]
        by_cases ee : e = r
        · rw [ee, A_Ws (by omega) (by omega)]
          exact ⟨fun _ => Or.inr rfl, fun _ => rfl⟩
        · rw [A_Wo r0 e0 ee]
          exact ⟨Or.inl, fun x => x.resolve_right ee⟩
      have hrs : ¬ A M 41 r = 1 := by omega
      have hD2 := hD.step (fun f f0 f1 => (hpw f f0 f1).1) r0 r1 hrs qf (by omega) (fun u u0 u1 hu => qm u u0 u1 ((h01 u u0 u1).resolve_right hu)) (c' := J M2 40) (fun e e0 e1 => o3 e e0 (by omega))
      obtain ⟨M', p1, p2, pbd, p3⟩ := ih (k + 1) M2 (by omega) (hA.trans (hK.ag (by decide))) (fset_ke hs (hK.mono (by decide))) (wgh_ke hw hK) (fun e e0 e1 => by
          rw [e41]
          by_cases ee : e = r
          · rw [ee, A_Ws (by omega) (by omega)]; exact Or.inr rfl
          · rw [A_Wo r0 e0 ee]; exact h01 e e0 e1) (by
          rw [cn_cg (D := fun e => A M 41 e = 1 ∨ e = r) (fun e e0 e1 => hS e e0 e1), cn_add (C := fun e => A M 41 e = 1) hrs r0 r1, hc]; omega) (fun e e0 e1 he => by
          obtain ⟨x, y⟩ := o3 e e0 (by omega)
          by_cases q : may M0 md e r ∧ J M 40 r + wkk M0 by_ a b md.2.2.1 r < J (W_ M 41 r 1) 40 e
          · rw [x q]; exact ⟨by omega, fun yy => by have := hwr.2.2 yy; have := hJr.2 yy; omega⟩
          · have z : J M2 40 e = J M 40 e := y q
            rw [z] at he ⊢
            have := hbd e e0 e1 he
            omega) (by
          obtain ⟨d1, d2, d3, d4, d5⟩ := hD2
          refine ⟨d1, d2, fun e f e0 e1 f0 f1 hm hf => d3 e f e0 e1 f0 f1 hm ((hS f f0 f1).mp hf), fun e e0 e1 he => ?_, fun e e0 e1 he => ?_⟩
          · obtain ⟨f, f0, f1, hm, hq⟩ := d4 e e0 e1 he
            exact ⟨f, f0, f1, hm, hq.imp id fun q => ⟨(hS f f0 f1).mpr q.1, q.2⟩⟩
          · obtain ⟨x, y⟩ := d5 e e0 e1 ((hS e e0 e1).mp he)
            exact ⟨x, fun u u0 u1 hu => y u u0 u1 fun z => hu ((hS u u0 u1).mpr z)⟩)
      rw [ek] at p1
      refine ⟨M', ?_, hK.trans p2, pbd, p3⟩
      refine s_Finder_spread_105 hF hg ?_
      simp (disch := (first | omega | decide | assumption)) only [ltm_s, ok_n, rd_i, rd_j, fd_i, fd_j, wr_i, wr_j, fw_i, fw_j, ci_s, cj_s, cv_s, dv_n, dw_n, rt_1, rt_b, rt_20, rt_21, okb_0, okb_1, okb_b, nar_0, nar_1, nar_b, i_0, i_1, j_0, j_1, i_lit, j_lit, i_n, iI_add, iI_sub, iI_mul, iI_neg, jI_add, jI_sub, jI_mul, jI_neg, sh_1, an_1, xo_1, di_p, dj_p, i_64A, i_64, j_32, lq_ge, lq_lt, lq_le, lq_gt, lq_eq, i_lt, i_le, i_eq, j_eq, iI_A, jI_J, iI_b, iI_v, jI_v, ↓reduceIte, ite_true, ite_false, Int.reduceEq, Int.reduceLT, Int.reduceLE, Int.reduceAdd, Int.reduceSub, Int.reduceMul, Int.reduceNeg, not_true_eq_false, not_false_eq_true, hlt, q1, r0, ct, o1, p1]
theorem c_spread (hF : F = am_F T0 g) (hg : GG g) (hA : Ag M0 M) (h1 : I1 M0) (h2 : I2 M0) (h3 : I3 M0) (h4 : I4 M0) {md : Int × Int × Int × Int} {by_ a b : Int} (hb : by_ = 0 ∨ by_ = 1) (u0 : 0 ≤ md.2.2.1) (u1 : md.2.2.1 < 24) (a0 : 0 ≤ a) (a1 : a < nD M0) (b0 : 0 ≤ b) (b1 : b < nD M0) (hs : fset M0 md M) :
    ∃ M' : am_M, F 171 0 [.ref 32, .int (iI a), .int (iI b), .int (iI by_)] [] M = some (none, M') ∧ Ke [32, 37, 38, 39, 40, 41] M M' ∧ fset M0 md M' ∧ wgh M0 by_ a b md.2.2.1 M' ∧ (∀ e : Int, 0 ≤ e → e < 2 * nW M0 → J M' 40 e ≠ FARC → J M' 40 e ≤ 7000000000000000 ∧ (by_ = 1 → J M' 40 e % 4294967296 ≤ 1620000)) ∧ Bel (2 * nW M0).toNat (may M0 md) (gol M0 b) (gkk M0 by_ b) (wkk M0 by_ a b md.2.2.1) (J M' 40) := by
  have hn := h2.1
  have hd := h4.1
  have eF : FARC = 9223372036854775807 := rfl
  have hN : ((2 * nW M0).toNat : Int) = 2 * nW M0 := by omega
  have wb := (h4.2.2 b b0 b1).1
  -- by
  have k1 : Ke [32] M (W_ M 32 13 by_) := Ke.refl.w (by decide)
  have A1 : Ag M0 (W_ M 32 13 by_) := hA.trans (k1.ag (by decide))
  have m1 : A (W_ M 32 13 by_) 32 13 = by_ := A_Ws (by omega) (by omega)
  have s1 : fset M0 md (W_ M 32 13 by_) := by
    obtain ⟨⟨i1, i2, i3⟩, s1, s2, s3, s4⟩ := hs
    refine ⟨⟨?_, ?_, ?_⟩, ?_, ?_, ?_, ?_⟩
    · rw [A_Wo (by omega) (by omega) (by omega)]; exact i1
    · rw [A_Wo (by omega) (by omega) (by omega)]; exact i2
    · rw [A_Wo (by omega) (by omega) (by omega)]; exact i3
    · exact s1
    · exact s2
    · rw [A_Wo (by omega) (by omega) (by omega)]; exact s3
    · exact s4
  -- the string
  obtain ⟨M2, f2, k2, p2⟩ := c_stretchString hF hg A1 h1 h2 h4 a0 a1 b0 b1
  have A2 : Ag M0 M2 := A1.trans (k2.ag (by decide))
  have s2 := fset_ke s1 (k2.mono (by decide))
  have m2 : A M2 32 13 = by_ := (k2.a (by decide)).trans m1
  -- the legs
  obtain ⟨M3, f3, k3, w3⟩ := c_weighLegs hF hg A2 h1 h2 h4 hb a0 a1 b0 b1 u0 u1 m2 p2 s2.2.2.1
  have A3 : Ag M0 M3 := A2.trans (k3.ag (by decide))
  have s3 := fset_ke s2 (k3.mono (by decide))
  have kk : Ke [32, 37, 38, 39, 40, 41] M M3 := (k1.mono (by decide)).trans ((k2.mono (by decide)).trans (k3.mono (by decide)))
  suffices hh : ∃ M' : am_M, F 171 41 [.ref 32, .int (iI (2 * nW M0)), .int (iI (2 * A M0 228 b)), .int (iI 0)] [] M3 = some (none, M') ∧ Ke [40, 41] M3 M' ∧ (∀ e : Int, 0 ≤ e → e < 2 * nW M0 → J M' 40 e ≠ FARC → J M' 40 e ≤ 7000000000000000 ∧ (by_ = 1 → J M' 40 e % 4294967296 ≤ 1620000)) ∧ Bel (2 * nW M0).toNat (may M0 md) (gol M0 b) (gkk M0 by_ b) (wkk M0 by_ a b md.2.2.1) (J M' 40) by
    obtain ⟨M', f4, k4, bd4, B4⟩ := hh
    refine ⟨M', ?_, kk.trans (k4.mono (by decide)), fset_ke s3 (k4.mono (by decide)), wgh_ke w3 k4, bd4, B4⟩
    refine s_Finder_spread hF hg ?_
    have lc := c_legCount hF hg A3 h2
    have e11 : A M3 11 b = A M0 228 b := (agA A3 (by decide)).trans (r11 h4 b0 b1)
    rcases hb with rfl | rfl
    · simp (disch := (first | omega | decide | assumption)) only [ltm_s, ok_n, rd_i, rd_j, fd_i, fd_j, wr_i, wr_j, fw_i, fw_j, ci_s, cj_s, cv_s, dv_n, dw_n, rt_1, rt_b, rt_20, rt_21, okb_0, okb_1, okb_b, nar_0, nar_1, nar_b, i_0, i_1, j_0, j_1, i_lit, j_lit, i_n, iI_add, iI_sub, iI_mul, iI_neg, jI_add, jI_sub, jI_mul, jI_neg, sh_1, an_1, xo_1, di_p, dj_p, i_64A, i_64, j_32, lq_ge, lq_lt, lq_le, lq_gt, lq_eq, i_lt, i_le, i_eq, j_eq, iI_A, jI_J, iI_b, iI_v, jI_v, ↓reduceIte, ite_true, ite_false, Int.reduceEq, Int.reduceLT, Int.reduceLE, Int.reduceAdd, Int.reduceSub, Int.reduceMul, Int.reduceNeg, not_true_eq_false, not_false_eq_true, f2, f3, lc, e11, f4]
    · simp (disch := (first | omega | decide | assumption)) only [ltm_s, ok_n, rd_i, rd_j, fd_i, fd_j, wr_i, wr_j, fw_i, fw_j, ci_s, cj_s, cv_s, dv_n, dw_n, rt_1, rt_b, rt_20, rt_21, okb_0, okb_1, okb_b, nar_0, nar_1, nar_b, i_0, i_1, j_0, j_1, i_lit, j_lit, i_n, iI_add, iI_sub, iI_mul, iI_neg, jI_add, jI_sub, jI_mul, jI_neg, sh_1, an_1, xo_1, di_p, dj_p, i_64A, i_64, j_32, lq_ge, lq_lt, lq_le, lq_gt, lq_eq, i_lt, i_le, i_eq, j_eq, iI_A, jI_J, iI_b, iI_v, jI_v, ↓reduceIte, ite_true, ite_false, Int.reduceEq, Int.reduceLT, Int.reduceLE, Int.reduceAdd, Int.reduceSub, Int.reduceMul, Int.reduceNeg, not_true_eq_false, not_false_eq_true, f2, f3, lc, e11, f4]
  -- nothing is settled
  obtain ⟨M4, k4, p4, f4⟩ := c_spread_i hF hg (N := 2 * nW M0) (w := 2 * A M0 228 b) (by omega) (2 * nW M0).toNat 0 M3 (by omega) (fun e e0 e1 => by omega)
  have A4 : Ag M0 M4 := A3.trans (k4.ag (by decide))
  have s4 := fset_ke s3 (k4.mono (by decide))
  have w4 := wgh_ke w3 k4
  have hgk : ∀ f : Int, 0 ≤ gkk M0 by_ b f ∧ gkk M0 by_ b f ≤ 85903640887296 ∧ (by_ = 1 → gkk M0 by_ b f % 4294967296 ≤ 20000) := fun f => by
    have := tdr_r h2 h4 (f := f) b0 b1
    have := key_r (by_ := by_) (t := 0) (n := tdr M0 b f) (by omega) (by omega) (by omega) (by omega)
    refine ⟨this.1, this.2.1, fun y => ?_⟩
    unfold gkk key
    subst y
    rw [if_neg (by omega)]
    omega
  have g1 : J M4 39 (2 * A M0 228 b) = gkk M0 by_ b (2 * A M0 228 b) := (w4.2.2 _ (by omega) (by omega)).2.1 (by show (2 * A M0 228 b) / 2 = A M0 228 b; omega)
  have g2 : J M4 39 (2 * A M0 228 b + 1) = gkk M0 by_ b (2 * A M0 228 b + 1) := (w4.2.2 _ (by omega) (by omega)).2.1 (by show (2 * A M0 228 b + 1) / 2 = A M0 228 b; omega)
  have r1 := hgk (2 * A M0 228 b)
  have r2 := hgk (2 * A M0 228 b + 1)
  obtain ⟨M5, f5, k5, o5⟩ := c_offer hF hg A4 h1 h2 h3 s4 (f := 2 * A M0 228 b) (v := gkk M0 by_ b (2 * A M0 228 b)) (by omega) (by omega) (by omega) (by omega)
  have A5 : Ag M0 M5 := A4.trans (k5.ag (by decide))
  have s5 := fset_ke s4 (k5.mono (by decide))
  obtain ⟨M6, f6, k6, o6⟩ := c_offer hF hg A5 h1 h2 h3 s5 (f := 2 * A M0 228 b + 1) (v := gkk M0 by_ b (2 * A M0 228 b + 1)) (by omega) (by omega) (by omega) (by omega)
  have A6 : Ag M0 M6 := A5.trans (k6.ag (by decide))
  have s6 := fset_ke s5 (k6.mono (by decide))
  have k46 : Ke [40, 41] M4 M6 := (k5.mono (by decide)).trans (k6.mono (by decide))
  have w6 := wgh_ke w4 k46
  have e41 : ∀ e : Int, A M6 41 e = A M4 41 e := fun e => (k6.a (by decide)).trans (k5.a (by decide))
  have e39 : J M5 39 (2 * A M0 228 b + 1) = J M4 39 (2 * A M0 228 b + 1) := k5.j (by decide)
  -- what the offers leave
  have hd1 : ∀ e : Int, 0 ≤ e → e < 2 * nW M0 → J M6 40 e = FARC ∧ (¬ may M0 md e (2 * A M0 228 b)) ∧ (¬ may M0 md e (2 * A M0 228 b + 1)) ∨ (∃ f : Int, (f = 2 * A M0 228 b ∨ f = 2 * A M0 228 b + 1) ∧ may M0 md e f ∧ J M6 40 e = gkk M0 by_ b f) ∧ (may M0 md e (2 * A M0 228 b) → J M6 40 e ≤ gkk M0 by_ b (2 * A M0 228 b)) ∧ (may M0 md e (2 * A M0 228 b + 1) → J M6 40 e ≤ gkk M0 by_ b (2 * A M0 228 b + 1)) := fun e e0 e1 => by
    obtain ⟨x1, y1⟩ := o5 e e0 e1
    obtain ⟨x2, y2⟩ := o6 e e0 e1
    have z := (p4 e e0 e1).1
    by_cases m1 : may M0 md e (2 * A M0 228 b)
    · have x1 := x1 ⟨m1, by omega⟩
      right
      by_cases m2 : may M0 md e (2 * A M0 228 b + 1) ∧ gkk M0 by_ b (2 * A M0 228 b + 1) < J M5 40 e
      · have x2 := x2 m2
        exact ⟨⟨_, Or.inr rfl, m2.1, x2⟩, fun _ => by omega, fun _ => by omega⟩
      · have x2 := y2 m2
        refine ⟨⟨_, Or.inl rfl, m1, by omega⟩, fun _ => by omega, fun q => ?_⟩
        have : ¬ gkk M0 by_ b (2 * A M0 228 b + 1) < J M5 40 e := fun x => m2 ⟨q, x⟩
        omega
    · have x1 := y1 fun q => m1 q.1
      by_cases m2 : may M0 md e (2 * A M0 228 b + 1)
      · have x2 := x2 ⟨m2, by omega⟩
        exact Or.inr ⟨⟨_, Or.inr rfl, m2, x2⟩, fun q => absurd q m1, fun _ => by omega⟩
      · have x2 := y2 fun q => m2 q.1
        exact Or.inl ⟨by omega, m1, m2⟩
  have hD : Dij (2 * nW M0).toNat (may M0 md) (gol M0 b) (gkk M0 by_ b) (wkk M0 by_ a b md.2.2.1) (fun e => A M6 41 e = 1) (J M6 40) := by
    have ns : ∀ e : Int, 0 ≤ e → e < 2 * nW M0 → ¬ A M6 41 e = 1 := fun e e0 e1 => by
      rw [e41, (p4 e e0 e1).2]; omega
    refine ⟨fun e e0 e1 => ?_, fun e f e0 e1 f0 f1 hm hgf => ?_, fun e f e0 e1 f0 f1 hm hgf => absurd hgf (ns f f0 (by omega)), fun e e0 e1 he => ?_, fun e e0 e1 he => absurd he (ns e e0 (by omega))⟩
    · rcases hd1 e e0 (by omega) with q | ⟨⟨f, -, -, q⟩, -⟩
      · exact Or.inl q.1
      · have := hgk f; right; omega
    · have ef : f = 2 * A M0 228 b ∨ f = 2 * A M0 228 b + 1 := by
        have : f / 2 = A M0 228 b := hgf
        omega
      rcases hd1 e e0 (by omega) with q | ⟨-, q1, q2⟩
      · rcases ef with rfl | rfl
        · exact absurd hm q.2.1
        · exact absurd hm q.2.2
      · rcases ef with rfl | rfl
        · exact q1 hm
        · exact q2 hm
    · rcases hd1 e e0 (by omega) with q | ⟨⟨f, hf, hm, q⟩, -⟩
      · exact absurd q.1 he
      · refine ⟨f, by omega, by omega, hm, Or.inl ⟨?_, q⟩⟩
        show f / 2 = A M0 228 b
        omega
  obtain ⟨M7, f7, k7, bd7, B7⟩ := c_spread_l hF hg h1 h2 h3 h4 hb u0 u1 a0 a1 b0 b1 hN (2 * nW M0).toNat 0 M6 (by omega) A6 s6 w6 (fun e e0 e1 => by rw [e41]; exact Or.inl (p4 e e0 (by omega)).2) (by
    have := cn_no (C := fun e => A M6 41 e = 1) (m := 0) (n := (2 * nW M0).toNat) (Nat.zero_le _) (fun e e0 e1 => by show ¬ A M6 41 e = 1; rw [e41, (p4 e (by omega) (by omega)).2]; omega)
    rw [this]; rfl) (fun e e0 e1 he => by
    rcases hd1 e e0 (by omega) with q | ⟨⟨f, -, -, q⟩, -⟩
    · exact absurd q.1 he
    · have := hgk f; rw [q]; exact ⟨by omega, fun yy => by have := this.2.2 yy; omega⟩) hD
  have ez : iI ((0 : Nat) : Int) = iI 0 := rfl
  rw [ez, hN] at f7
  rw [ez] at f4
  refine ⟨M7, ?_, k4.trans (k46.trans k7), bd7, B7⟩
  refine f4 _ ?_
  refine s_Finder_spread_41 hF hg ?_
  simp (disch := (first | omega | decide | assumption)) only [ltm_s, ok_n, rd_i, rd_j, fd_i, fd_j, wr_i, wr_j, fw_i, fw_j, ci_s, cj_s, cv_s, dv_n, dw_n, rt_1, rt_b, rt_20, rt_21, okb_0, okb_1, okb_b, nar_0, nar_1, nar_b, i_0, i_1, j_0, j_1, i_lit, j_lit, i_n, iI_add, iI_sub, iI_mul, iI_neg, jI_add, jI_sub, jI_mul, jI_neg, sh_1, an_1, xo_1, di_p, dj_p, i_64A, i_64, j_32, lq_ge, lq_lt, lq_le, lq_gt, lq_eq, i_lt, i_le, i_eq, j_eq, iI_A, jI_J, iI_b, iI_v, jI_v, ↓reduceIte, ite_true, ite_false, Int.reduceEq, Int.reduceLT, Int.reduceLE, Int.reduceAdd, Int.reduceSub, Int.reduceMul, Int.reduceNeg, not_true_eq_false, not_false_eq_true, g1, e39, g2, f5, f6, f7]
  rw [if_pos (by omega)]
end Le
