/-! MOST ALIKE, by both -/
section Ma
variable {M0 M M' : am_M} {g : am_G} {F : am_FT}
/-- what the model changes while it compares pupils -/
def Km (N N' : am_M) : Prop := Ke [219, 262, 263, 264, 274, 275] N N' ∧ (∀ z : Int, 71 ≤ z → A N' 219 z = A N 219 z) ∧ ∀ z : Int, 67 ≤ z → J N' 219 z = J N 219 z
theorem Km.refl (N : am_M) : Km N N := ⟨Ke.refl, fun _ _ => rfl, fun _ _ => rfl⟩
theorem Km.trans {N N' N2 : am_M} (h : Km N N') (h2 : Km N' N2) : Km N N2 := ⟨h.1.trans h2.1, fun z z0 => (h2.2.1 z z0).trans (h.2.1 z z0), fun z z0 => (h2.2.2 z z0).trans (h.2.2 z z0)⟩
theorem m_cs_l (hF : F = am_F T0 g) (hg : GG g) {s a b hour most p L : Int} (p0 : 0 ≤ p) (p3 : p < 4) (L1 : L ≤ 80) : ∀ (n k : Nat) (N : am_M), (k : Int) + n = L → A N 219 64 = L → (∀ i : Int, 0 ≤ i → i < (k : Int) → A N 275 (80 * p + i) = A N 264 i) → ∃ N' : am_M, (∀ R, F 267 94 [.ref 219, .int (iI s), .int (iI a), .int (iI b), .int (iI hour), .int (iI most), .int (iI p), .int (iI 0), .int (iI 0)] [] N' = some R → F 267 53 [.ref 219, .int (iI s), .int (iI a), .int (iI b), .int (iI hour), .int (iI most), .int (iI p), .int (iI k)] [] N = some R) ∧ Ke [275] N N' ∧ (∀ i : Int, 0 ≤ i → i < L → A N' 275 (80 * p + i) = A N 264 i) ∧ ∀ z : Int, 0 ≤ z → z < 80 * p ∨ 80 * p + 80 ≤ z → A N' 275 z = A N 275 z := by
  intro n
  induction n with
  | zero =>
    intro k N hk hL h
    have u : L ≤ (k : Int) := by omega
    refine ⟨N, fun R hR => ?_, Ke.refl, fun i i0 i1 => h i i0 (by omega), fun _ _ _ => rfl⟩
    refine s_Model_mostAlike_53 hF hg ?_
    simp (config := { maxSteps := 1000000 }) (disch := (first | omega | decide | assumption)) only [ltm_s, ok_n, rd_i, rd_j, fd_i, fd_j, wr_i, wr_j, fw_i, fw_j, ci_s, cj_s, cv_s, dv_n, dw_n, rt_1, rt_b, rt_20, rt_21, okb_0, okb_1, okb_b, nar_0, nar_1, nar_b, i_0, i_1, j_0, j_1, i_lit, j_lit, i_n, iI_add, iI_sub, iI_mul, iI_neg, jI_add, jI_sub, jI_mul, jI_neg, sh_1, an_1, xo_1, di_p, dj_p, i_64A, i_64, j_32, lq_ge, lq_lt, lq_le, lq_gt, lq_eq, i_lt, i_le, i_eq, j_eq, iI_A, jI_J, iI_b, iI_v, jI_v, ↓reduceIte, ite_true, ite_false, Int.reduceEq, Int.reduceLT, Int.reduceLE, Int.reduceAdd, Int.reduceSub, Int.reduceMul, Int.reduceNeg, not_true_eq_false, not_false_eq_true, hL, u]
    exact hR
  | succ n ih =>
    intro k N hk hL h
    have u : ¬ L ≤ (k : Int) := by omega
    have hs : (k : Int) + 1 = ((k + 1 : Nat) : Int) := by omega
    obtain ⟨N', q1, q2, q3, q4⟩ := ih (k + 1) (W_ N 275 (80 * p + k) (A N 264 k)) (by omega) (by rw [A_Wn (by decide)]; exact hL) (fun i i0 i1 => by
      by_cases e : i = k
      · rw [e, A_WA, A_Wn (by decide)]
      · rw [A_Wo (by omega) (by omega) (by omega), A_Wn (by decide)]; exact h i i0 (by omega))
    refine ⟨N', fun R hR => ?_, (Ke.refl.w (by decide)).trans q2, fun i i0 i1 => by rw [q3 i i0 i1, A_Wn (by decide)], fun z z0 z1 => by rw [q4 z z0 z1, A_Wo (by omega) z0 (by omega)]⟩
    refine s_Model_mostAlike_53 hF hg ?_
    simp (config := { maxSteps := 1000000 }) (disch := (first | omega | decide | assumption)) only [ltm_s, ok_n, rd_i, rd_j, fd_i, fd_j, wr_i, wr_j, fw_i, fw_j, ci_s, cj_s, cv_s, dv_n, dw_n, rt_1, rt_b, rt_20, rt_21, okb_0, okb_1, okb_b, nar_0, nar_1, nar_b, i_0, i_1, j_0, j_1, i_lit, j_lit, i_n, iI_add, iI_sub, iI_mul, iI_neg, jI_add, jI_sub, jI_mul, jI_neg, sh_1, an_1, xo_1, di_p, dj_p, i_64A, i_64, j_32, lq_ge, lq_lt, lq_le, lq_gt, lq_eq, i_lt, i_le, i_eq, j_eq, iI_A, jI_J, iI_b, iI_v, jI_v, ↓reduceIte, ite_true, ite_false, Int.reduceEq, Int.reduceLT, Int.reduceLE, Int.reduceAdd, Int.reduceSub, Int.reduceMul, Int.reduceNeg, not_true_eq_false, not_false_eq_true, hL, u, hs]
    exact q1 R hR
theorem ma_l (hF : F = am_F T0 g) (hg : GG g) (h1 : I1 M0) (h2 : I2 M0) (h3 : I3 M0) (h4 : I4 M0) (h6 : I6 M0) (h7 : I7 M0) (h8 : I8 M0) (h9 : I9 M0) (h14 : I14 M0) (h15 : I15 M0) {s a b hour : Int} (u0 : 0 ≤ hour) (u1 : hour < 24) (a0 : 0 ≤ a) (a1 : a < nD M0) (b0 : 0 ≤ b) (b1 : b < nD M0) : ∀ (n k : Nat) (most : Int) (N1 N2 : am_M), (k : Int) + n = A M0 219 41 → 0 ≤ most → most ≤ 4 → Hs M0 hour N1 → Ag M0 N2 → (∀ q : Int, 0 ≤ q → q < (k : Int) → bt s q = 1 → Sy N1 N2 q) → ∃ (r : Int) (N1' N2' : am_M), F 255 6 [.ref 0, .int (iI s), .int (iI a), .int (iI b), .int (iI most), .int (iI k)] [] N1 = some (some (.int (iI r)), N1') ∧ F 267 6 [.ref 219, .int (iI s), .int (iI a), .int (iI b), .int (iI hour), .int (iI most), .int (iI k)] [] N2 = some (some (.int (iI r)), N2') ∧ Hs M0 hour N1' ∧ Ag M0 N2' ∧ Ke [32, 33, 34, 35, 36, 37, 38, 39, 40, 41, 70, 71, 75, 76, 80, 81, 85, 86] N1 N1' ∧ Km N2 N2' ∧ (most ≤ r ∧ r ≤ 4) ∧ ((∃ q : Int, (k : Int) ≤ q ∧ q < A M0 219 41 ∧ bt s q = 1) → 1 ≤ r) := by
  have hc := h15.1
  have hn := h2.1
  have e11 : ∀ N1, Hs M0 hour N1 → A N1 0 11 = A M0 219 41 := fun N1 h => by rw [agA h.1 (a := 0) rfl]; exact h15.2.1
  have e41 : ∀ N2, Ag M0 N2 → A N2 219 41 = A M0 219 41 := fun N2 h => ag h rfl
  intro n
  induction n with
  | zero =>
    intro k most N1 N2 hk m0 m4 hH hA hS
    have u : A M0 219 41 ≤ (k : Int) := by omega
    refine ⟨most, N1, N2, ?_, ?_, hH, hA, Ke.refl, Km.refl _, by omega, fun ⟨q, q0, q1, _⟩ => by omega⟩
    · refine s_RunSayer_mostAlike_6 hF hg ?_
      simp (config := { maxSteps := 1000000 }) (disch := (first | omega | decide | assumption)) only [ltm_s, ok_n, rd_i, rd_j, fd_i, fd_j, wr_i, wr_j, fw_i, fw_j, ci_s, cj_s, cv_s, dv_n, dw_n, rt_1, rt_b, rt_20, rt_21, okb_0, okb_1, okb_b, nar_0, nar_1, nar_b, i_0, i_1, j_0, j_1, i_lit, j_lit, i_n, iI_add, iI_sub, iI_mul, iI_neg, jI_add, jI_sub, jI_mul, jI_neg, sh_1, an_1, xo_1, di_p, dj_p, i_64A, i_64, j_32, lq_ge, lq_lt, lq_le, lq_gt, lq_eq, i_lt, i_le, i_eq, j_eq, iI_A, jI_J, iI_b, iI_v, jI_v, ↓reduceIte, ite_true, ite_false, Int.reduceEq, Int.reduceLT, Int.reduceLE, Int.reduceAdd, Int.reduceSub, Int.reduceMul, Int.reduceNeg, not_true_eq_false, not_false_eq_true, e11 N1 hH, u]
    · refine s_Model_mostAlike_6 hF hg ?_
      simp (config := { maxSteps := 1000000 }) (disch := (first | omega | decide | assumption)) only [ltm_s, ok_n, rd_i, rd_j, fd_i, fd_j, wr_i, wr_j, fw_i, fw_j, ci_s, cj_s, cv_s, dv_n, dw_n, rt_1, rt_b, rt_20, rt_21, okb_0, okb_1, okb_b, nar_0, nar_1, nar_b, i_0, i_1, j_0, j_1, i_lit, j_lit, i_n, iI_add, iI_sub, iI_mul, iI_neg, jI_add, jI_sub, jI_mul, jI_neg, sh_1, an_1, xo_1, di_p, dj_p, i_64A, i_64, j_32, lq_ge, lq_lt, lq_le, lq_gt, lq_eq, i_lt, i_le, i_eq, j_eq, iI_A, jI_J, iI_b, iI_v, jI_v, ↓reduceIte, ite_true, ite_false, Int.reduceEq, Int.reduceLT, Int.reduceLE, Int.reduceAdd, Int.reduceSub, Int.reduceMul, Int.reduceNeg, not_true_eq_false, not_false_eq_true, e41 N2 hA, u]
  | succ n ih =>
    intro k most N1 N2 hk m0 m4 hH hA hS
    have u : ¬ A M0 219 41 ≤ (k : Int) := by omega
    have hs : (k : Int) + 1 = ((k + 1 : Nat) : Int) := by omega
    have k4 : (k : Int) < 4 := by omega
    rcases bt_01 (x := s) (i := (k : Int)) with hb | hb
    · obtain ⟨r, N1', N2', p1, p2, p3, p4, p5, p6, p7, p8⟩ := ih (k + 1) most N1 N2 (by omega) m0 m4 hH hA (fun q q0 q1 qb => hS q q0 (by
        by_cases e : q = k
        · rw [e] at qb; omega
        · omega) qb)
      refine ⟨r, N1', N2', ?_, ?_, p3, p4, p5, p6, p7, fun ⟨q, q0, q1, qb⟩ => p8 ⟨q, by
        by_cases e : q = k
        · rw [e] at qb; omega
        · omega, q1, qb⟩⟩
      · refine s_RunSayer_mostAlike_6 hF hg ?_
        simp (config := { maxSteps := 1000000 }) (disch := (first | omega | decide | assumption)) only [ltm_s, ok_n, rd_i, rd_j, fd_i, fd_j, wr_i, wr_j, fw_i, fw_j, ci_s, cj_s, cv_s, dv_n, dw_n, rt_1, rt_b, rt_20, rt_21, okb_0, okb_1, okb_b, nar_0, nar_1, nar_b, i_0, i_1, j_0, j_1, i_lit, j_lit, i_n, iI_add, iI_sub, iI_mul, iI_neg, jI_add, jI_sub, jI_mul, jI_neg, sh_1, an_1, xo_1, di_p, dj_p, i_64A, i_64, j_32, lq_ge, lq_lt, lq_le, lq_gt, lq_eq, i_lt, i_le, i_eq, j_eq, iI_A, jI_J, iI_b, iI_v, jI_v, ↓reduceIte, ite_true, ite_false, Int.reduceEq, Int.reduceLT, Int.reduceLE, Int.reduceAdd, Int.reduceSub, Int.reduceMul, Int.reduceNeg, not_true_eq_false, not_false_eq_true, e11 N1 hH, u, bt_i, hb, hs, p1]
      · refine s_Model_mostAlike_6 hF hg ?_
        simp (config := { maxSteps := 1000000 }) (disch := (first | omega | decide | assumption)) only [ltm_s, ok_n, rd_i, rd_j, fd_i, fd_j, wr_i, wr_j, fw_i, fw_j, ci_s, cj_s, cv_s, dv_n, dw_n, rt_1, rt_b, rt_20, rt_21, okb_0, okb_1, okb_b, nar_0, nar_1, nar_b, i_0, i_1, j_0, j_1, i_lit, j_lit, i_n, iI_add, iI_sub, iI_mul, iI_neg, jI_add, jI_sub, jI_mul, jI_neg, sh_1, an_1, xo_1, di_p, dj_p, i_64A, i_64, j_32, lq_ge, lq_lt, lq_le, lq_gt, lq_eq, i_lt, i_le, i_eq, j_eq, iI_A, jI_J, iI_b, iI_v, jI_v, ↓reduceIte, ite_true, ite_false, Int.reduceEq, Int.reduceLT, Int.reduceLE, Int.reduceAdd, Int.reduceSub, Int.reduceMul, Int.reduceNeg, not_true_eq_false, not_false_eq_true, e41 N2 hA, u, bt_i, hb, hs, p2]
    · have rk := sc_ok hg (p := (k : Int)) (by omega) k4
      obtain ⟨Na, Nb, L, C, y1, y2, y3⟩ := c_sayBy hF hg rk h1 h2 h3 h4 h8 h9 h14 h15 u0 u1 hH (p := k) (a := a) (b := b) (by omega) (by omega) a0 a1 b0 b1
      have Hb := hH.fnd rk y2 y3
      obtain ⟨f1, f2, f3, f4, f5, f6, f7, -⟩ := y3
      obtain ⟨Nc, Nd, z1, zA, z3, z4, z5, z6, z7, z8, z9, z10⟩ := m_pup hF hg hA h1 h2 h3 h4 h6 h7 h8 h9 (p := k) (hour := hour) (a := a) (b := b) u0 u1 (by omega) (by omega) k4 a0 a1 b0 b1 f3
      obtain ⟨e1, e2, e3, e4⟩ := found_eq f5 z6 f6 f7 z7 z8
      have hL := rsp_len hn z6
      obtain ⟨Ne, eN⟩ : ∃ y : am_M, y = W_ Nd 274 k L := ⟨_, rfl⟩
      obtain ⟨Nf, w1, w2, w3, w4⟩ := m_cs_l hF hg (s := s) (a := a) (b := b) (hour := hour) (most := most) (p := k) (L := L) (by omega) k4 (by omega) L.toNat 0 Ne (by omega) (by rw [eN, A_Wn (by decide)]; exact e1.symm) (fun i i0 i1 => by omega)
      have KE : Ke [274] Nd Ne := by rw [eN]; exact Ke.refl.w (by decide)
      have g274 : ∀ z : Int, 0 ≤ z → ¬ z = k → A Nf 274 z = A N2 274 z := fun z z0 z1 => by
        rw [w2.a (by decide), eN, A_Wo (by omega) z0 z1, z4.a (by decide)]
      have s274 : A Nf 274 k = L := by
        rw [w2.a (by decide), eN, A_Ws (by omega) (by omega)]
      have g275 : ∀ z : Int, 0 ≤ z → z < 80 * (k : Int) ∨ 80 * (k : Int) + 80 ≤ z → A Nf 275 z = A N2 275 z := fun z z0 z1 => by
        rw [w4 z z0 z1, KE.a (by decide), z4.a (by decide)]
      have km : Km N2 Nf := by
        refine ⟨((z4.mono (by decide)).trans (KE.mono (by decide))).trans (w2.mono (by decide)), fun z z0 => ?_, fun z z0 => ?_⟩
        · rw [w2.a (by decide), KE.a (by decide), z9 z z0]
        · rw [w2.j (by decide), KE.j (by decide), z10 z z0]
      have agf : Ag M0 Nf := (z5.trans (KE.ag (by decide))).trans (w2.ag (by decide))
      have SyA : ∀ q : Int, 0 ≤ q → q ≤ (k : Int) → bt s q = 1 → Sy Nb Nf q := fun q q0 q1 qb => by
        by_cases e : q = k
        · rw [e]
          refine ⟨by rw [s274]; omega, by rw [s274]; exact f4, fun i i0 i1 => ?_⟩
          rw [s274] at i1
          rw [w3 i i0 i1, KE.a (by decide)]
          exact e2 i i0 i1
        · obtain ⟨o1, o2, o3⟩ := hS q q0 (by omega) qb
          have r0 : ∀ z, A Nb (70 + 5 * q.toNat) z = A N1 (70 + 5 * q.toNat) z := fun z => by
            rw [f1.a (by simp only [List.mem_cons, List.not_mem_nil, or_false]; omega), y2.a (by simp only [List.mem_cons, List.not_mem_nil, or_false]; omega)]
          have r1 : ∀ z, A Nb (70 + 5 * q.toNat + 1) z = A N1 (70 + 5 * q.toNat + 1) z := fun z => by
            rw [f1.a (by simp only [List.mem_cons, List.not_mem_nil, or_false]; omega), y2.a (by simp only [List.mem_cons, List.not_mem_nil, or_false]; omega)]
          refine ⟨by rw [g274 q q0 e]; exact o1, by rw [r0, g274 q q0 e]; exact o2, fun i i0 i1 => ?_⟩
          rw [g274 q q0 e] at i1
          rw [r1, g275 (80 * q + i) (by omega) (by omega)]
          exact o3 i i0 i1
      obtain ⟨x, x1, x2, x3⟩ := al_l hF hg (N := Nb) (N2 := Nf) (s := s) (a := a) (b := b) (hour := hour) (most := most) (p := k) (by omega) k4 hb ⟨m0, m4⟩ SyA k 0 0 (by omega) (by omega) (by omega)
      have hmx : 0 ≤ (if most < x then x else most) ∧ (if most < x then x else most) ≤ 4 ∧ most ≤ (if most < x then x else most) ∧ 1 ≤ (if most < x then x else most) := by
        split <;> omega
      obtain ⟨r, N1', N2', p1, p2, p3, p4, p5, p6, p7, p8⟩ := ih (k + 1) (if most < x then x else most) Nb Nf (by omega) hmx.1 hmx.2.1 Hb agf (fun q q0 q1 qb => SyA q q0 (by omega) qb)
      rw [← hs] at p1 p2
      have v1 := x2 _ p1
      have v2 := x3 _ p2
      have v3 := w1 _ v2
      have kc : Ke [32, 33, 34, 35, 36, 37, 38, 39, 40, 41, 70, 71, 75, 76, 80, 81, 85, 86] N1 Nb := (y2.mono (by decide)).trans (f1.mono (by
        have : k = 0 ∨ k = 1 ∨ k = 2 ∨ k = 3 := by omega
        rcases this with rfl | rfl | rfl | rfl <;> decide))
      refine ⟨r, N1', N2', ?_, ?_, p3, p4, kc.trans p5, km.trans p6, by omega, fun _ => by omega⟩
      · refine s_RunSayer_mostAlike_6 hF hg ?_
        have hnk : (iI (k : Int)).toNatClampNeg = (k : Int).toNat := iI_n (by omega) (by omega)
        rw [hnk]
        simp (config := { maxSteps := 1000000 }) (disch := (first | omega | decide | assumption)) only [ltm_s, ok_n, rd_i, rd_j, fd_i, fd_j, wr_i, wr_j, fw_i, fw_j, ci_s, cj_s, cv_s, dv_n, dw_n, rt_1, rt_b, rt_20, rt_21, okb_0, okb_1, okb_b, nar_0, nar_1, nar_b, i_0, i_1, j_0, j_1, i_lit, j_lit, i_n, iI_add, iI_sub, iI_mul, iI_neg, jI_add, jI_sub, jI_mul, jI_neg, sh_1, an_1, xo_1, di_p, dj_p, i_64A, i_64, j_32, lq_ge, lq_lt, lq_le, lq_gt, lq_eq, i_lt, i_le, i_eq, j_eq, iI_A, jI_J, iI_b, iI_v, jI_v, ↓reduceIte, ite_true, ite_false, Int.reduceEq, Int.reduceLT, Int.reduceLE, Int.reduceAdd, Int.reduceSub, Int.reduceMul, Int.reduceNeg, not_true_eq_false, not_false_eq_true, e11 N1 hH, u, bt_i, hb, y1]
        exact v1
      · have e64 : A Nd 219 64 = L := e1.symm
        refine s_Model_mostAlike_6 hF hg ?_
        simp (config := { maxSteps := 1000000 }) (disch := (first | omega | decide | assumption)) only [ltm_s, ok_n, rd_i, rd_j, fd_i, fd_j, wr_i, wr_j, fw_i, fw_j, ci_s, cj_s, cv_s, dv_n, dw_n, rt_1, rt_b, rt_20, rt_21, okb_0, okb_1, okb_b, nar_0, nar_1, nar_b, i_0, i_1, j_0, j_1, i_lit, j_lit, i_n, iI_add, iI_sub, iI_mul, iI_neg, jI_add, jI_sub, jI_mul, jI_neg, sh_1, an_1, xo_1, di_p, dj_p, i_64A, i_64, j_32, lq_ge, lq_lt, lq_le, lq_gt, lq_eq, i_lt, i_le, i_eq, j_eq, iI_A, jI_J, iI_b, iI_v, jI_v, ↓reduceIte, ite_true, ite_false, Int.reduceEq, Int.reduceLT, Int.reduceLE, Int.reduceAdd, Int.reduceSub, Int.reduceMul, Int.reduceNeg, not_true_eq_false, not_false_eq_true, e41 N2 hA, u, bt_i, hb, z1, z3, e64, eN.symm]
        exact v3
end Ma
