/-! A ROUTE TRACED -/
/-- a route's two rows -/
def rok (g : am_G) (rt : Nat) : Prop := isRt g rt ∧ 42 ≤ rt ∧ stN rt = true ∧ stN (rt + 1) = true
/-- the finder filled -/
def Fs (M0 : am_M) (md : Int × Int × Int × Int) (by_ a b : Int) (C : Int → Int) (M : am_M) : Prop := Ag M0 M ∧ fset M0 md M ∧ wgh M0 by_ a b md.2.2.1 M ∧ J M 40 = C
/-- what a finder's answer rests on -/
def Cok (M0 : am_M) (md : Int × Int × Int × Int) (by_ a b : Int) (C : Int → Int) : Prop := Bel_ M0 md by_ a b C ∧ ∀ e : Int, 0 ≤ e → e < 2 * nW M0 → C e ≠ FARC → C e ≤ 7000000000000000
section Tr
variable {M0 M M' : am_M} {g : am_G} {F : am_FT} {rt : Nat}
theorem Ke2.a (h : Ke [rt, rt + 1] M M') {a : Nat} {z : Int} (h1 : a ≠ rt) (h2 : a ≠ rt + 1) : A M' a z = A M a z := h.a (by simp only [List.mem_cons, List.not_mem_nil, or_false]; omega)
theorem Ke2.j (h : Ke [rt, rt + 1] M M') {a : Nat} {z : Int} (h1 : a ≠ rt) (h2 : a ≠ rt + 1) : J M' a z = J M a z := h.j (by simp only [List.mem_cons, List.not_mem_nil, or_false]; omega)
theorem Ke2.ag (hr : rok g rt) (h : Ke [rt, rt + 1] M M') : Ag M M' := h.ag (by
  show (stN rt && (stN (rt + 1) && true)) = true
  rw [hr.2.2.1, hr.2.2.2]; rfl)
theorem Fs.ke {md : Int × Int × Int × Int} {by_ a b : Int} {C : Int → Int} (hr : rok g rt) (h : Fs M0 md by_ a b C M) (hK : Ke [rt, rt + 1] M M') : Fs M0 md by_ a b C M' := by
  have h42 := hr.2.1
  obtain ⟨h1, h2, h3, h4⟩ := h
  refine ⟨h1.trans (Ke2.ag hr hK), ?_, ?_, ?_⟩
  · unfold fset Imk
    simp only [Ke2.a hK (a := 32) (by omega) (by omega), Ke2.a hK (a := 33) (by omega) (by omega), Ke2.a hK (a := 34) (by omega) (by omega), Ke2.a hK (a := 35) (by omega) (by omega), Ke2.a hK (a := 36) (by omega) (by omega)]
    exact h2
  · unfold wgh
    simp only [Ke2.a hK (a := 32) (by omega) (by omega), Ke2.a hK (a := 37) (by omega) (by omega), Ke2.j hK (a := 38) (by omega) (by omega), Ke2.j hK (a := 39) (by omega) (by omega)]
    exact h3
  · rw [← h4]; funext e; exact Ke2.j hK (by omega) (by omega)
theorem c_rbegin (hF : F = am_F T0 g) (hg : GG g) (hr : isRt g rt) {a b : Int} : F 67 0 [.ref rt, .int (iI a), .int (iI b)] [] M = some (none, W_ (W_ (W_ M rt 0 a) rt 1 b) rt 5 0) := by
  refine s_Route_begin hF hg hr ?_
  simp (disch := (first | omega | decide | assumption)) only [ltm_s, ok_n, rd_i, rd_j, fd_i, fd_j, wr_i, wr_j, fw_i, fw_j, ci_s, cj_s, cv_s, dv_n, dw_n, rt_1, rt_b, rt_20, rt_21, okb_0, okb_1, okb_b, nar_0, nar_1, nar_b, i_0, i_1, j_0, j_1, i_lit, j_lit, i_n, iI_add, iI_sub, iI_mul, iI_neg, jI_add, jI_sub, jI_mul, jI_neg, sh_1, an_1, xo_1, di_p, dj_p, i_64A, i_64, j_32, lq_ge, lq_lt, lq_le, lq_gt, lq_eq, i_lt, i_le, i_eq, j_eq, iI_A, jI_J, iI_b, iI_v, jI_v, ↓reduceIte, ite_true, ite_false, Int.reduceEq, Int.reduceLT, Int.reduceLE, Int.reduceAdd, Int.reduceSub, Int.reduceMul, Int.reduceNeg, not_true_eq_false, not_false_eq_true]
theorem c_add (hF : F = am_F T0 g) (hg : GG g) (hr : isRt g rt) {f l : Int} (hl : A M rt 5 = l) (l0 : 0 ≤ l) (l1 : l < 81) : F 66 0 [.ref rt, .int (iI f)] [] M = some (none, W_ (W_ M (rt + 1) l f) rt 5 (l + 1)) := by
  refine s_Route_add hF hg hr ?_
  have hl1 : ¬ 81 ≤ l := by omega
  have hl2 : A (W_ M (rt + 1) l f) rt 5 = l := (A_Wn (by omega)).trans hl
  simp (disch := (first | omega | decide | assumption)) only [ltm_s, ok_n, rd_i, rd_j, fd_i, fd_j, wr_i, wr_j, fw_i, fw_j, ci_s, cj_s, cv_s, dv_n, dw_n, rt_1, rt_b, rt_20, rt_21, okb_0, okb_1, okb_b, nar_0, nar_1, nar_b, i_0, i_1, j_0, j_1, i_lit, j_lit, i_n, iI_add, iI_sub, iI_mul, iI_neg, jI_add, jI_sub, jI_mul, jI_neg, sh_1, an_1, xo_1, di_p, dj_p, i_64A, i_64, j_32, lq_ge, lq_lt, lq_le, lq_gt, lq_eq, i_lt, i_le, i_eq, j_eq, iI_A, jI_J, iI_b, iI_v, jI_v, ↓reduceIte, ite_true, ite_false, Int.reduceEq, Int.reduceLT, Int.reduceLE, Int.reduceAdd, Int.reduceSub, Int.reduceMul, Int.reduceNeg, not_true_eq_false, not_false_eq_true, hl, hl1, hl2]
theorem c_trace_l (hF : F = am_F T0 g) (hg : GG g) (hr : rok g rt) (h1 : I1 M0) (h2 : I2 M0) (h3 : I3 M0) (h4 : I4 M0) {md : Int × Int × Int × Int} {by_ a b : Int} {C : Int → Int} (u0 : 0 ≤ md.2.2.1) (u1 : md.2.2.1 < 24) (a0 : 0 ≤ a) (a1 : a < nD M0) (b0 : 0 ≤ b) (b1 : b < nD M0) (hC : Cok M0 md by_ a b C) {e : Int} {m : Nat} (hP : Pth_ M0 md by_ a b C m e) (hm : (m : Int) + 2 ≤ 2 * nW M0) : ∀ (n i : Nat) (M : am_M), i + n = m → Fs M0 md by_ a b C M → A M rt 5 = (i : Int) + 1 → (∀ j : Nat, j ≤ i → A M (rt + 1) j = pt_ M0 md by_ a b C j e) →
    ∃ M' : am_M, F 172 30 [.ref 32, .ref rt, .int (iI (pt_ M0 md by_ a b C i e)), .int (iI i)] [] M = some (none, M') ∧ Ke [rt, rt + 1] M M' ∧ A M' rt 5 = (m : Int) + 2 ∧ (∀ j : Nat, j ≤ m + 1 → A M' (rt + 1) j = pt_ M0 md by_ a b C j e) ∧ ∀ z : Int, 0 ≤ z → z ≠ 5 → A M' rt z = A M rt z := by
  intro n
  induction n with
  | zero =>
    intro i M h hS hl hp
    have hn := h2.1
    have him : i = m := by omega
    subst him
    obtain ⟨hA, hfs, hw, hJ⟩ := hS
    obtain ⟨⟨p0, p1⟩, pF⟩ : (0 ≤ pt_ M0 md by_ a b C i e ∧ pt_ M0 md by_ a b C i e < (2 * nW M0).toNat) ∧ C (pt_ M0 md by_ a b C i e) ≠ FARC := hP.1 i (by omega)
    have nl := c_nextLeg hF hg hA h1 h2 h3 h4 u0 u1 a0 a1 b0 b1 hfs hw (by rw [hJ]; exact hC.1) p0 (by omega) (by rw [hJ]; exact pF) (by rw [hJ]; exact hC.2)
    rw [hJ] at nl
    have ok := nf_ok hC.1 p0 p1 pF
    have es : nf_ M0 md by_ a b C (pt_ M0 md by_ a b C i e) = pt_ M0 md by_ a b C (i + 1) e := pt_s.symm
    rw [show nf (2 * nW M0).toNat (may M0 md) (gol M0 b) (gkk M0 by_ b) (wkk M0 by_ a b md.2.2.1) C (pt (2 * nW M0).toNat (may M0 md) (gol M0 b) (gkk M0 by_ b) (wkk M0 by_ a b md.2.2.1) C i e) = pt_ M0 md by_ a b C (i + 1) e from es] at ok
    rw [es] at nl
    have hlt : ¬ 2 * nW M0 ≤ (i : Int) := by omega
    have ad := c_add hF hg hr.1 (f := pt_ M0 md by_ a b C (i + 1) e) hl (by omega) (by omega)
    have hK : Ke [rt, rt + 1] M (W_ (W_ M (rt + 1) ((i : Int) + 1) (pt_ M0 md by_ a b C (i + 1) e)) rt 5 ((i : Int) + 1 + 1)) := (Ke.refl.w (by simp)).w (by simp)
    have h42 := hr.2.1
    obtain ⟨g1, g2⟩ := hP.2.2.1
    have x39 : J (W_ (W_ M (rt + 1) ((i : Int) + 1) (pt_ M0 md by_ a b C (i + 1) e)) rt 5 ((i : Int) + 1 + 1)) 39 (pt_ M0 md by_ a b C (i + 1) e) = gkk M0 by_ b (pt_ M0 md by_ a b C (i + 1) e) := (hw.2.2 _ ok.1.1 (by omega)).2.1 g1
    have x40 : J (W_ (W_ M (rt + 1) ((i : Int) + 1) (pt_ M0 md by_ a b C (i + 1) e)) rt 5 ((i : Int) + 1 + 1)) 40 (pt_ M0 md by_ a b C i e) = gkk M0 by_ b (pt_ M0 md by_ a b C (i + 1) e) := by
      show J M 40 _ = _
      rw [hJ]; exact g2
    refine ⟨_, ?_, hK, ?_, fun j hj => ?_, fun z z0 z1 => ?_⟩
    · refine s_Finder_trace_30 hF hg hr.1 ?_
      have ok0 := ok.1.1
      have ok1 := ok.1.2
      simp (disch := (first | omega | decide | assumption)) only [ltm_s, ok_n, rd_i, rd_j, fd_i, fd_j, wr_i, wr_j, fw_i, fw_j, ci_s, cj_s, cv_s, dv_n, dw_n, rt_1, rt_b, rt_20, rt_21, okb_0, okb_1, okb_b, nar_0, nar_1, nar_b, i_0, i_1, j_0, j_1, i_lit, j_lit, i_n, iI_add, iI_sub, iI_mul, iI_neg, jI_add, jI_sub, jI_mul, jI_neg, sh_1, an_1, xo_1, di_p, dj_p, i_64A, i_64, j_32, lq_ge, lq_lt, lq_le, lq_gt, lq_eq, i_lt, i_le, i_eq, j_eq, iI_A, jI_J, iI_b, iI_v, jI_v, ↓reduceIte, ite_true, ite_false, Int.reduceEq, Int.reduceLT, Int.reduceLE, Int.reduceAdd, Int.reduceSub, Int.reduceMul, Int.reduceNeg, not_true_eq_false, not_false_eq_true, agA hA, agJA hA, ag hA, v_nJ, v_nW, v_nD, v_toD, v_px, v_py, v_rg, v_kd, v_ft, v_on, v_bg, v_en, @nJ_ M0, @nW_ M0, @nD_ M0, @toD_ M0, @px_ M0, @py_ M0, @rg_ M0, @kd_ M0, @ft_ M0, @on_ M0, bt_, c_legCount hF hg hA h2, hlt, nl, ok0, ad, x39, x40]
    · rw [A_Ws (by omega) (by omega)]; omega
    · rw [A_Wn (by omega)]
      by_cases ej : j = i + 1
      · subst ej
        have e3 : ((i + 1 : Nat) : Int) = (i : Int) + 1 := by omega
        rw [e3, A_Ws (by omega) (by omega)]
      · rw [A_Wo (by omega) (by omega) (by omega)]
        exact hp j (by omega)
    · rw [A_Wo (by omega) z0 z1, A_Wn (by omega)]
  | succ n ih =>
    intro i M h hS hl hp
    have hn := h2.1
    have hS' := hS
    obtain ⟨hA, hfs, hw, hJ⟩ := hS
    obtain ⟨⟨p0, p1⟩, pF⟩ : (0 ≤ pt_ M0 md by_ a b C i e ∧ pt_ M0 md by_ a b C i e < (2 * nW M0).toNat) ∧ C (pt_ M0 md by_ a b C i e) ≠ FARC := hP.1 i (by omega)
    have nl := c_nextLeg hF hg hA h1 h2 h3 h4 u0 u1 a0 a1 b0 b1 hfs hw (by rw [hJ]; exact hC.1) p0 (by omega) (by rw [hJ]; exact pF) (by rw [hJ]; exact hC.2)
    rw [hJ] at nl
    have ok : 0 ≤ pt_ M0 md by_ a b C (i + 1) e ∧ pt_ M0 md by_ a b C (i + 1) e < (2 * nW M0).toNat := (hP.1 (i + 1) (by omega)).1
    have es : nf_ M0 md by_ a b C (pt_ M0 md by_ a b C i e) = pt_ M0 md by_ a b C (i + 1) e := pt_s.symm
    rw [es] at nl
    have hlt : ¬ 2 * nW M0 ≤ (i : Int) := by omega
    have ei : ((i + 1 : Nat) : Int) = (i : Int) + 1 := by omega
    have ad := c_add hF hg hr.1 (f := pt_ M0 md by_ a b C (i + 1) e) hl (by omega) (by omega)
    have hK : Ke [rt, rt + 1] M (W_ (W_ M (rt + 1) ((i : Int) + 1) (pt_ M0 md by_ a b C (i + 1) e)) rt 5 ((i : Int) + 1 + 1)) := (Ke.refl.w (by simp)).w (by simp)
    have h42 := hr.2.1
    have g1 := hP.2.1 i (by omega)
    have hne : ¬ J (W_ (W_ M (rt + 1) ((i : Int) + 1) (pt_ M0 md by_ a b C (i + 1) e)) rt 5 ((i : Int) + 1 + 1)) 39 (pt_ M0 md by_ a b C (i + 1) e) = J (W_ (W_ M (rt + 1) ((i : Int) + 1) (pt_ M0 md by_ a b C (i + 1) e)) rt 5 ((i : Int) + 1 + 1)) 40 (pt_ M0 md by_ a b C i e) := by
      show ¬ J M 39 _ = J M 40 _
      rw [hJ]
      intro x
      by_cases z : gol M0 b (pt_ M0 md by_ a b C (i + 1) e)
      · rw [(hw.2.2 _ ok.1 (by omega)).2.1 z] at x
        exact g1 ⟨z, x.symm⟩
      · rw [(hw.2.2 _ ok.1 (by omega)).2.2 z] at x
        exact pF x.symm
    obtain ⟨M', q1, q2, q3, q4, q5⟩ := ih (i + 1) (W_ (W_ M (rt + 1) ((i : Int) + 1) (pt_ M0 md by_ a b C (i + 1) e)) rt 5 ((i : Int) + 1 + 1)) (by omega) (hS'.ke hr hK) (by rw [A_Ws (by omega) (by omega)]; omega) (fun j hj => by
      rw [A_Wn (by omega)]
      by_cases ej : j = i + 1
      · subst ej
        rw [ei, A_Ws (by omega) (by omega)]
      · rw [A_Wo (by omega) (by omega) (by omega)]
        exact hp j (by omega))
    refine ⟨M', ?_, hK.trans q2, q3, q4, fun z z0 z1 => by rw [q5 z z0 z1, A_Wo (by omega) z0 z1, A_Wn (by omega)]⟩
    rw [ei] at q1
    refine s_Finder_trace_30 hF hg hr.1 ?_
    have ok0 := ok.1
    have ok1 := ok.2
    simp (disch := (first | omega | decide | assumption)) only [ltm_s, ok_n, rd_i, rd_j, fd_i, fd_j, wr_i, wr_j, fw_i, fw_j, ci_s, cj_s, cv_s, dv_n, dw_n, rt_1, rt_b, rt_20, rt_21, okb_0, okb_1, okb_b, nar_0, nar_1, nar_b, i_0, i_1, j_0, j_1, i_lit, j_lit, i_n, iI_add, iI_sub, iI_mul, iI_neg, jI_add, jI_sub, jI_mul, jI_neg, sh_1, an_1, xo_1, di_p, dj_p, i_64A, i_64, j_32, lq_ge, lq_lt, lq_le, lq_gt, lq_eq, i_lt, i_le, i_eq, j_eq, iI_A, jI_J, iI_b, iI_v, jI_v, ↓reduceIte, ite_true, ite_false, Int.reduceEq, Int.reduceLT, Int.reduceLE, Int.reduceAdd, Int.reduceSub, Int.reduceMul, Int.reduceNeg, not_true_eq_false, not_false_eq_true, agA hA, agJA hA, ag hA, v_nJ, v_nW, v_nD, v_toD, v_px, v_py, v_rg, v_kd, v_ft, v_on, v_bg, v_en, @nJ_ M0, @nW_ M0, @nD_ M0, @toD_ M0, @px_ M0, @py_ M0, @rg_ M0, @kd_ M0, @ft_ M0, @on_ M0, bt_, c_legCount hF hg hA h2, hlt, nl, ok0, ad, hne, q1]
end Tr
