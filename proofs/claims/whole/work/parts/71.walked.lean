/-! THE MODEL HAS WALKED -/
section Wd
variable {M0 M M' : am_M} {g : am_G} {F : am_FT}
theorem m_find (hF : F = am_F T0 g) (hg : GG g) (h1 : I1 M0) (h2 : I2 M0) (h4 : I4 M0) (h6 : I6 M0) (h7 : I7 M0) (h8 : I8 M0) (h9 : I9 M0) {md : Int × Int × Int × Int} (hmd : mok M0 md) {by_ a b : Int} {C : Int → Int} (a0 : 0 ≤ a) (a1 : a < nD M0) (b0 : 0 ≤ b) (b1 : b < nD M0) (hC : Cok M0 md by_ a b C) (hL : Lbs M0 md by_ a b C M) {e : Int} (e0 : 0 ≤ e) (e1 : e < 2 * nW M0) (he : C e ≠ FARC) {r : am_R}
    (hr : F 260 337 [.ref 219, .int (iI b), .int (iI (bI (lkS M0 a b M e (nf_ M0 md by_ a b C e)))), .int (iI e), .int (iI (nf_ M0 md by_ a b C e + 1)), .int (iI (bI (lkT M0 md a b M e (nf_ M0 md by_ a b C e))))] [] M = some r) : ∀ (n k : Nat), (k : Int) + n = nf_ M0 md by_ a b C e →
    F 260 337 [.ref 219, .int (iI b), .int (iI 0), .int (iI e), .int (iI k), .int (iI 0)] [] M = some r := by
  have hn := h2.1
  have ok := nf_ok hC.1 e0 (by omega) he
  have okm : may M0 md e (nf_ M0 md by_ a b C e) := ok.2.1.1
  have okn : ∀ g : Int, 0 ≤ g → g < nf_ M0 md by_ a b C e → ¬ nx_ M0 md by_ a b C e g := ok.2.2
  have ok1 : 0 ≤ nf_ M0 md by_ a b C e ∧ nf_ M0 md by_ a b C e < ((2 * nW M0).toNat : Int) := ok.1
  generalize nf_ M0 md by_ a b C e = f at *
  intro n
  induction n with
  | zero =>
    intro k h
    have ek : (k : Int) = f := by omega
    rw [ek]
    exact (m_look hF hg h1 h2 h4 h6 h7 h8 h9 hmd a0 a1 b0 b1 hL e0 e1 ok1.1 (by omega)).2 okm hr
  | succ n ih =>
    intro k h
    have ek : ((k + 1 : Nat) : Int) = (k : Int) + 1 := by omega
    have q := ih (k + 1) (by omega)
    rw [ek] at q
    have lk := m_look hF hg h1 h2 h4 h6 h7 h8 h9 hmd a0 a1 b0 b1 hL e0 e1 (f := k) (by omega) (by omega) (r := r)
    by_cases hm : may M0 md e k
    · have hno := okn k (by omega) (by omega)
      obtain ⟨i1, i2⟩ := lk_iff h1 h2 h4 hmd.2.2.1 hmd.2.2.2 a0 a1 b0 b1 hL e0 e1 he (f := k) (by omega) (by omega)
      refine lk.2 hm ?_
      rw [bI_f (fun x => hno ⟨hm, Or.inl (i1.mp x)⟩), bI_f (fun x => hno ⟨hm, Or.inr (i2.mp x)⟩)]
      exact q
    · exact lk.1 hm q
theorem m_step (hF : F = am_F T0 g) (hg : GG g) (h1 : I1 M0) (h2 : I2 M0) (h4 : I4 M0) (h6 : I6 M0) (h7 : I7 M0) (h8 : I8 M0) (h9 : I9 M0) {md : Int × Int × Int × Int} (hmd : mok M0 md) {by_ a b : Int} {C : Int → Int} (a0 : 0 ≤ a) (a1 : a < nD M0) (b0 : 0 ≤ b) (b1 : b < nD M0) (hC : Cok M0 md by_ a b C) (hL : Lbs M0 md by_ a b C M) {e l : Int} (e0 : 0 ≤ e) (e1 : e < 2 * nW M0) (he : C e ≠ FARC) (hl : A M 219 64 = l) (l0 : 1 ≤ l) (l1 : l < 80) (hle : A M 264 (l - 1) = e) {r : am_R}
    (hr : F 260 313 [.ref 219, .int (iI b), .int (iI (bI (gol M0 b (nf_ M0 md by_ a b C e) ∧ C e = gkk M0 by_ b (nf_ M0 md by_ a b C e))))] [] (W_ (W_ M 264 l (nf_ M0 md by_ a b C e)) 219 64 (l + 1)) = some r) :
    F 260 313 [.ref 219, .int (iI b), .int (iI 0)] [] M = some r := by
  have hn := h2.1
  have ok := nf_ok hC.1 e0 (by omega) he
  have ok1 : 0 ≤ nf_ M0 md by_ a b C e ∧ nf_ M0 md by_ a b C e < ((2 * nW M0).toNat : Int) := ok.1
  obtain ⟨i1, i2⟩ := lk_iff h1 h2 h4 hmd.2.2.1 hmd.2.2.2 a0 a1 b0 b1 hL e0 e1 he (f := nf_ M0 md by_ a b C e) ok1.1 (by omega)
  rw [← bI_cg i1] at hr
  have y64 : ∀ v : Int, A (W_ M 264 l v) 219 64 = l := fun v => (A_Wn (by decide)).trans hl
  have q := m_find hF hg h1 h2 h4 h6 h7 h8 h9 hmd a0 a1 b0 b1 hC hL e0 e1 he (r := r) (by
    have hnx : lkS M0 a b M e (nf_ M0 md by_ a b C e) ∨ lkT M0 md a b M e (nf_ M0 md by_ a b C e) := ok.2.1.2.imp i1.mpr i2.mpr
    generalize nf_ M0 md by_ a b C e = f at *
    have ef : f + 1 - 1 = f := by omega
    by_cases x : lkT M0 md a b M e f
    · rw [bI_t x]
      by_cases y : lkS M0 a b M e f
      · rw [bI_t y] at hr ⊢
        refine s_Model_search_337 hF hg ?_
        rw [if_neg (show ¬ iI 1 = 0 by decide)]
        simp (config := { maxSteps := 1000000 }) (disch := (first | omega | decide | assumption)) only [ltm_s, ok_n, rd_i, rd_j, fd_i, fd_j, wr_i, wr_j, fw_i, fw_j, ci_s, cj_s, cv_s, dv_n, dw_n, rt_1, rt_b, rt_20, rt_21, okb_0, okb_1, okb_b, nar_0, nar_1, nar_b, i_0, i_1, j_0, j_1, i_lit, j_lit, i_n, iI_add, iI_sub, iI_mul, iI_neg, jI_add, jI_sub, jI_mul, jI_neg, sh_1, an_1, xo_1, di_p, dj_p, i_64A, i_64, j_32, lq_ge, lq_lt, lq_le, lq_gt, lq_eq, i_lt, i_le, i_eq, j_eq, iI_A, jI_J, iI_b, iI_v, jI_v, ↓reduceIte, ite_true, ite_false, Int.reduceEq, Int.reduceLT, Int.reduceLE, Int.reduceAdd, Int.reduceSub, Int.reduceMul, Int.reduceNeg, not_true_eq_false, not_false_eq_true, hl, y64, ef, hr]
      · rw [bI_f y] at hr ⊢
        refine s_Model_search_337 hF hg ?_
        rw [if_neg (show ¬ iI 1 = 0 by decide)]
        simp (config := { maxSteps := 1000000 }) (disch := (first | omega | decide | assumption)) only [ltm_s, ok_n, rd_i, rd_j, fd_i, fd_j, wr_i, wr_j, fw_i, fw_j, ci_s, cj_s, cv_s, dv_n, dw_n, rt_1, rt_b, rt_20, rt_21, okb_0, okb_1, okb_b, nar_0, nar_1, nar_b, i_0, i_1, j_0, j_1, i_lit, j_lit, i_n, iI_add, iI_sub, iI_mul, iI_neg, jI_add, jI_sub, jI_mul, jI_neg, sh_1, an_1, xo_1, di_p, dj_p, i_64A, i_64, j_32, lq_ge, lq_lt, lq_le, lq_gt, lq_eq, i_lt, i_le, i_eq, j_eq, iI_A, jI_J, iI_b, iI_v, jI_v, ↓reduceIte, ite_true, ite_false, Int.reduceEq, Int.reduceLT, Int.reduceLE, Int.reduceAdd, Int.reduceSub, Int.reduceMul, Int.reduceNeg, not_true_eq_false, not_false_eq_true, hl, y64, ef, hr]
    · have y := hnx.resolve_right x
      rw [bI_f x]
      rw [bI_t y] at hr ⊢
      refine s_Model_search_337 hF hg ?_
      rw [if_pos (show iI 0 = 0 from rfl), if_neg (show ¬ iI 1 = 0 by decide)]
      simp (config := { maxSteps := 1000000 }) (disch := (first | omega | decide | assumption)) only [ltm_s, ok_n, rd_i, rd_j, fd_i, fd_j, wr_i, wr_j, fw_i, fw_j, ci_s, cj_s, cv_s, dv_n, dw_n, rt_1, rt_b, rt_20, rt_21, okb_0, okb_1, okb_b, nar_0, nar_1, nar_b, i_0, i_1, j_0, j_1, i_lit, j_lit, i_n, iI_add, iI_sub, iI_mul, iI_neg, jI_add, jI_sub, jI_mul, jI_neg, sh_1, an_1, xo_1, di_p, dj_p, i_64A, i_64, j_32, lq_ge, lq_lt, lq_le, lq_gt, lq_eq, i_lt, i_le, i_eq, j_eq, iI_A, jI_J, iI_b, iI_v, jI_v, ↓reduceIte, ite_true, ite_false, Int.reduceEq, Int.reduceLT, Int.reduceLE, Int.reduceAdd, Int.reduceSub, Int.reduceMul, Int.reduceNeg, not_true_eq_false, not_false_eq_true, hl, y64, ef, hr]) (nf_ M0 md by_ a b C e).toNat 0 (by omega)
  have ez : iI ((0 : Nat) : Int) = iI 0 := rfl
  rw [ez] at q
  refine s_Model_search_313 hF hg ?_
  simp (config := { maxSteps := 1000000 }) (disch := (first | omega | decide | assumption)) only [ltm_s, ok_n, rd_i, rd_j, fd_i, fd_j, wr_i, wr_j, fw_i, fw_j, ci_s, cj_s, cv_s, dv_n, dw_n, rt_1, rt_b, rt_20, rt_21, okb_0, okb_1, okb_b, nar_0, nar_1, nar_b, i_0, i_1, j_0, j_1, i_lit, j_lit, i_n, iI_add, iI_sub, iI_mul, iI_neg, jI_add, jI_sub, jI_mul, jI_neg, sh_1, an_1, xo_1, di_p, dj_p, i_64A, i_64, j_32, lq_ge, lq_lt, lq_le, lq_gt, lq_eq, i_lt, i_le, i_eq, j_eq, iI_A, jI_J, iI_b, iI_v, jI_v, ↓reduceIte, ite_true, ite_false, Int.reduceEq, Int.reduceLT, Int.reduceLE, Int.reduceAdd, Int.reduceSub, Int.reduceMul, Int.reduceNeg, not_true_eq_false, not_false_eq_true, hl, hle, q]
theorem Lbs.w {md : Int × Int × Int × Int} {by_ a b : Int} {C : Int → Int} (hL : Lbs M0 md by_ a b C M) {l v k : Int} : Lbs M0 md by_ a b C (W_ (W_ M 264 l v) 219 64 k) := by
  obtain ⟨x1, x2, x3, x4⟩ := hL
  have e : ∀ z : Int, 0 ≤ z → z ≠ 64 → A (W_ (W_ M 264 l v) 219 64 k) 219 z = A M 219 z := fun z z0 z1 => by rw [A_Wo (by omega) z0 z1, A_Wn (by decide)]
  refine ⟨(x1.w ?_).w ?_, ?_, ?_, x4⟩
  · exact stN_b (by decide) _
  · rfl
  · unfold sset mset cset
    rw [e 56 (by omega) (by omega), e 57 (by omega) (by omega), e 58 (by omega) (by omega), e 59 (by omega) (by omega), e 60 (by omega) (by omega), e 67 (by omega) (by omega), e 68 (by omega) (by omega), e 69 (by omega) (by omega), e 70 (by omega) (by omega)]
    exact x2
  · rw [← x3]
    funext x
    unfold ofv
    rw [e 67 (by omega) (by omega), e 68 (by omega) (by omega), e 69 (by omega) (by omega), e 70 (by omega) (by omega)]
theorem m_walk (hF : F = am_F T0 g) (hg : GG g) (h1 : I1 M0) (h2 : I2 M0) (h4 : I4 M0) (h6 : I6 M0) (h7 : I7 M0) (h8 : I8 M0) (h9 : I9 M0) {md : Int × Int × Int × Int} (hmd : mok M0 md) {by_ a b : Int} {C : Int → Int} (a0 : 0 ≤ a) (a1 : a < nD M0) (b0 : 0 ≤ b) (b1 : b < nD M0) (hC : Cok M0 md by_ a b C) {e : Int} {m : Nat} (hP : Pth_ M0 md by_ a b C m e) (hm : (m : Int) + 2 ≤ 2 * nW M0) : ∀ (n i : Nat) (M : am_M), i + n = m → Lbs M0 md by_ a b C M → A M 219 64 = (i : Int) + 1 → (∀ j : Nat, j ≤ i → A M 264 j = pt_ M0 md by_ a b C j e) →
    ∃ M' : am_M, F 260 313 [.ref 219, .int (iI b), .int (iI 0)] [] M = some (none, M') ∧ Ke [219, 264] M M' ∧ Ag M0 M' ∧ A M' 219 64 = (m : Int) + 2 ∧ (∀ j : Nat, j ≤ m + 1 → A M' 264 j = pt_ M0 md by_ a b C j e) ∧ (∀ z : Int, 0 ≤ z → z ≠ 64 → A M' 219 z = A M 219 z) ∧ ∀ z : Int, J M' 219 z = J M 219 z := by
  intro n
  induction n with
  | zero =>
    intro i M h hL hl hp
    have hn := h2.1
    have him : i = m := by omega
    subst him
    obtain ⟨⟨p0, p1⟩, pF⟩ : (0 ≤ pt_ M0 md by_ a b C i e ∧ pt_ M0 md by_ a b C i e < (2 * nW M0).toNat) ∧ C (pt_ M0 md by_ a b C i e) ≠ FARC := hP.1 i (by omega)
    have es : nf_ M0 md by_ a b C (pt_ M0 md by_ a b C i e) = pt_ M0 md by_ a b C (i + 1) e := pt_s.symm
    have g2 := hP.2.2.1
    have ei : ((i + 1 : Nat) : Int) = (i : Int) + 1 := by omega
    have ok := nf_ok hC.1 p0 p1 pF
    have ok1 : 0 ≤ nf_ M0 md by_ a b C (pt_ M0 md by_ a b C i e) ∧ nf_ M0 md by_ a b C (pt_ M0 md by_ a b C i e) < ((2 * nW M0).toNat : Int) := ok.1
    rw [es] at ok1
    refine ⟨W_ (W_ M 264 ((i : Int) + 1) (pt_ M0 md by_ a b C (i + 1) e)) 219 64 ((i : Int) + 1 + 1), ?_, (Ke.refl.w (by simp)).w (by simp), hL.w.1, by rw [A_Ws (by omega) (by omega)]; omega, fun j hj => ?_, fun z z0 z1 => by rw [A_Wo (by omega) z0 z1, A_Wn (by decide)], fun z => rfl⟩
    · refine m_step hF hg h1 h2 h4 h6 h7 h8 h9 hmd a0 a1 b0 b1 hC hL (e := pt_ M0 md by_ a b C i e) p0 (by omega) pF hl (by omega) (by omega) (by rw [show (i : Int) + 1 - 1 = i by omega]; exact hp i (by omega)) ?_
      rw [es, bI_t g2]
      refine s_Model_search_313 hF hg ?_
      simp (config := { maxSteps := 1000000 }) (disch := (first | omega | decide | assumption)) only [ltm_s, ok_n, rd_i, rd_j, fd_i, fd_j, wr_i, wr_j, fw_i, fw_j, ci_s, cj_s, cv_s, dv_n, dw_n, rt_1, rt_b, rt_20, rt_21, okb_0, okb_1, okb_b, nar_0, nar_1, nar_b, i_0, i_1, j_0, j_1, i_lit, j_lit, i_n, iI_add, iI_sub, iI_mul, iI_neg, jI_add, jI_sub, jI_mul, jI_neg, sh_1, an_1, xo_1, di_p, dj_p, i_64A, i_64, j_32, lq_ge, lq_lt, lq_le, lq_gt, lq_eq, i_lt, i_le, i_eq, j_eq, iI_A, jI_J, iI_b, iI_v, jI_v, ↓reduceIte, ite_true, ite_false, Int.reduceEq, Int.reduceLT, Int.reduceLE, Int.reduceAdd, Int.reduceSub, Int.reduceMul, Int.reduceNeg, not_true_eq_false, not_false_eq_true]
    · rw [A_Wn (by decide)]
      by_cases ej : j = i + 1
      · subst ej
        rw [ei, A_Ws (by omega) (by omega)]
      · rw [A_Wo (by omega) (by omega) (by omega)]
        exact hp j (by omega)
  | succ n ih =>
    intro i M h hL hl hp
    have hn := h2.1
    obtain ⟨⟨p0, p1⟩, pF⟩ : (0 ≤ pt_ M0 md by_ a b C i e ∧ pt_ M0 md by_ a b C i e < (2 * nW M0).toNat) ∧ C (pt_ M0 md by_ a b C i e) ≠ FARC := hP.1 i (by omega)
    have es : nf_ M0 md by_ a b C (pt_ M0 md by_ a b C i e) = pt_ M0 md by_ a b C (i + 1) e := pt_s.symm
    have g2 := hP.2.1 i (by omega)
    have ei : ((i + 1 : Nat) : Int) = (i : Int) + 1 := by omega
    have ok1 : 0 ≤ pt_ M0 md by_ a b C (i + 1) e ∧ pt_ M0 md by_ a b C (i + 1) e < ((2 * nW M0).toNat : Int) := (hP.1 (i + 1) (by omega)).1
    obtain ⟨M', q1, q2, q3, q4, q5, q6, q7⟩ := ih (i + 1) (W_ (W_ M 264 ((i : Int) + 1) (pt_ M0 md by_ a b C (i + 1) e)) 219 64 ((i : Int) + 1 + 1)) (by omega) hL.w (by rw [A_Ws (by omega) (by omega)]; omega) (fun j hj => by
      rw [A_Wn (by decide)]
      by_cases ej : j = i + 1
      · subst ej
        rw [ei, A_Ws (by omega) (by omega)]
      · rw [A_Wo (by omega) (by omega) (by omega)]
        exact hp j (by omega))
    refine ⟨M', ?_, ((Ke.refl.w (by simp)).w (by simp)).trans q2, q3, q4, q5, fun z z0 z1 => by rw [q6 z z0 z1, A_Wo (by omega) z0 z1, A_Wn (by decide)], fun z => (q7 z).trans rfl⟩
    refine m_step hF hg h1 h2 h4 h6 h7 h8 h9 hmd a0 a1 b0 b1 hC hL (e := pt_ M0 md by_ a b C i e) p0 (by omega) pF hl (by omega) (by omega) (by rw [show (i : Int) + 1 - 1 = i by omega]; exact hp i (by omega)) ?_
    rw [es, bI_f g2]
    exact q1
end Wd
