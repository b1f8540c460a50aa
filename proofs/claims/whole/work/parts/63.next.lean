/-! THE NEXT LEG, as the finder takes it -/
noncomputable section
abbrev nf_ (M0 : am_M) (md : Int × Int × Int × Int) (by_ a b : Int) (C : Int → Int) (e : Int) : Int := nf (2 * nW M0).toNat (may M0 md) (gol M0 b) (gkk M0 by_ b) (wkk M0 by_ a b md.2.2.1) C e
abbrev nx_ (M0 : am_M) (md : Int × Int × Int × Int) (by_ a b : Int) (C : Int → Int) (e f : Int) : Prop := nx (may M0 md) (gol M0 b) (gkk M0 by_ b) (wkk M0 by_ a b md.2.2.1) C e f
abbrev pt_ (M0 : am_M) (md : Int × Int × Int × Int) (by_ a b : Int) (C : Int → Int) (i : Nat) (e : Int) : Int := pt (2 * nW M0).toNat (may M0 md) (gol M0 b) (gkk M0 by_ b) (wkk M0 by_ a b md.2.2.1) C i e
abbrev Bel_ (M0 : am_M) (md : Int × Int × Int × Int) (by_ a b : Int) (C : Int → Int) : Prop := Bel (2 * nW M0).toNat (may M0 md) (gol M0 b) (gkk M0 by_ b) (wkk M0 by_ a b md.2.2.1) C
abbrev Pth_ (M0 : am_M) (md : Int × Int × Int × Int) (by_ a b : Int) (C : Int → Int) (m : Nat) (e : Int) : Prop := Pth (2 * nW M0).toNat (may M0 md) (gol M0 b) (gkk M0 by_ b) (wkk M0 by_ a b md.2.2.1) C m e
/-- the feet straight on from one door to the other, if it lies ahead -/
def ahd_ (M0 : am_M) (a b e : Int) : Int := if e % 2 = 0 then A M0 229 b - A M0 229 a else A M0 229 a - A M0 229 b
def alone (M0 : am_M) (by_ a b e : Int) : Int := if A M0 228 a = A M0 228 b ∧ 0 < ahd_ M0 a b e then key by_ 0 (ahd_ M0 a b e) else FARC
def thru (M0 : am_M) (by_ a b : Int) (C : Int → Int) (e : Int) : Int := if C e = FARC then FARC else C e + key by_ (offs M0 a b e) (fdr M0 a e)
end
section Nx
variable {M0 M : am_M} {g : am_G} {F : am_FT}
theorem wkk_r (h1 : I1 M0) (h2 : I2 M0) (h4 : I4 M0) {by_ a b hour f : Int} (a0 : 0 ≤ a) (a1 : a < nD M0) (b0 : 0 ≤ b) (b1 : b < nD M0) (u0 : 0 ≤ hour) (u1 : hour < 24) (f0 : 0 ≤ f) (f1 : f < 2 * nW M0) : 0 < wkk M0 by_ a b hour f ∧ wkk M0 by_ a b hour f ≤ 85903640887296 := by
  have hn := h2.1
  have he := en_r h2 (e := f) (by omega) (by omega)
  have hst := strg_r h1 h2 h4 a0 a1 b0 b1 he.1 he.2
  have hpr := prc_r h2 (w := f / 2) (by omega) (by omega) u0 u1
  have := key_r (by_ := by_) hst.1 hst.2 (n := prc M0 (f / 2) hour) (by omega) (by omega)
  exact ⟨this.2.2 (by omega), this.2.1⟩
theorem gkk_r (h2 : I2 M0) (h4 : I4 M0) {by_ b f : Int} (b0 : 0 ≤ b) (b1 : b < nD M0) : 0 < gkk M0 by_ b f ∧ gkk M0 by_ b f ≤ 85903640887296 := by
  have := tdr_r h2 h4 (f := f) b0 b1
  have := key_r (by_ := by_) (t := 0) (n := tdr M0 b f) (by omega) (by omega) (by omega) (by omega)
  exact ⟨this.2.2 (by omega), this.2.1⟩
theorem c_next_l (hF : F = am_F T0 g) (hg : GG g) (hA : Ag M0 M) (h1 : I1 M0) (h2 : I2 M0) (h3 : I3 M0) (h4 : I4 M0) {md : Int × Int × Int × Int} {by_ a b : Int} (u0 : 0 ≤ md.2.2.1) (u1 : md.2.2.1 < 24) (a0 : 0 ≤ a) (a1 : a < nD M0) (b0 : 0 ≤ b) (b1 : b < nD M0) (hs : fset M0 md M) (hw : wgh M0 by_ a b md.2.2.1 M) (hB : Bel_ M0 md by_ a b (J M 40)) {e : Int} (e0 : 0 ≤ e) (e1 : e < 2 * nW M0) (he : J M 40 e ≠ FARC) (hbd : ∀ e : Int, 0 ≤ e → e < 2 * nW M0 → J M 40 e ≠ FARC → J M 40 e ≤ 7000000000000000) : ∀ (n k : Nat), (k : Int) + n = A M0 17 (en M0 e) → (∀ i : Int, 0 ≤ i → i < (k : Int) → ¬ nx_ M0 md by_ a b (J M 40) e (A M0 16 (en M0 e * 40 + i))) →
    F 96 11 [.ref 32, .int (iI e), .int (iI (en M0 e)), .int (iI k)] [] M = some (some (.int (iI (nf_ M0 md by_ a b (J M 40) e))), M) := by
  have hn := h2.1
  have hJ := h1.1
  have hN : ((2 * nW M0).toNat : Int) = 2 * nW M0 := by omega
  have hen := en_r h2 e0 e1
  obtain ⟨hc, -, c3, c4, c5⟩ := h3 (en M0 e) (by omega) (by omega)
  have eF : FARC = 9223372036854775807 := rfl
  have ok := nf_ok hB e0 (by omega) he
  rw [hN] at ok
  have ceF : J M 40 e < FARC := by
    rcases hB.1 e e0 (by omega) with q | q
    · exact absurd q he
    · exact q.2
  intro n
  induction n with
  | zero =>
    intro k h hno
    exfalso
    obtain ⟨i, i0, i1, ei⟩ := c5 _ ok.1.1 ok.1.2 ok.2.1.1.1.1
    refine hno i i0 (by omega) ?_
    rw [ei]; exact ok.2.1
  | succ n ih =>
    intro k h hno
    have ek : ((k + 1 : Nat) : Int) = (k : Int) + 1 := by omega
    have hlt : ¬ A M0 17 (en M0 e) ≤ (k : Int) := by omega
    obtain ⟨⟨g0, g1⟩, gb⟩ := c3 k (by omega) (by omega)
    have mt := c_mayTurn (M := M) hF hg h2 hs e0 e1 g0 g1 gb
    have hmin : ∀ x : Int, 0 ≤ x → x < A M0 16 (en M0 e * 40 + k) → ¬ nx_ M0 md by_ a b (J M 40) e x := fun x x0 x1 hx => by
      obtain ⟨i, i0, i1, ei⟩ := c5 x x0 (by omega) hx.1.1.1
      rw [← ei] at hx x1
      by_cases q : i < (k : Int)
      · exact hno i i0 q hx
      · by_cases q2 : i = k
        · rw [q2] at x1; omega
        · have := c4 k i (by omega) (by omega) i1; omega
    have ihs := fun hx : ¬ nx_ M0 md by_ a b (J M 40) e (A M0 16 (en M0 e * 40 + k)) => ih (k + 1) (by omega) (fun i i0 i1 => by
      by_cases q : i = k
      · rw [q]; exact hx
      · exact hno i i0 (by omega))
    rw [ek] at ihs
    generalize hG : A M0 16 (en M0 e * 40 + (k : Int)) = G at *
    by_cases hm : may M0 md e G
    · rw [bI_t hm] at mt
      have wr := wkk_r h1 h2 h4 (by_ := by_) a0 a1 b0 b1 u0 u1 g0 g1
      have gr := gkk_r h2 h4 (by_ := by_) (f := G) b0 b1
      obtain ⟨w1, w2, w3⟩ := hw.2.2 G g0 g1
      have ct := c_costThrough hF hg (M := M) (f := G) g0 (by omega)
      have cG := hB.1 G g0 (by omega)
      have b2 := hB.2.1 e G e0 (by omega) g0 (by omega) hm
      have b3 := hB.2.2.1 e G e0 (by omega) g0 (by omega) hm
      have hJl := J_lo M 39 G
      have hJh := J_hi M 39 G
      have hJ4 := J_lo M 40 e
      by_cases q1 : J M 40 G = FARC
      · rw [if_pos q1] at ct
        have mn := c_minJ hF hg (M := M) (v := J M 39 G) (w := FARC) hJl hJh (by omega) (by omega)
        rw [if_neg (by omega)] at mn
        by_cases q2 : gol M0 b G ∧ J M 40 e = gkk M0 by_ b G
        · have hx : nx_ M0 md by_ a b (J M 40) e G := ⟨hm, Or.inl q2⟩
          have w2 := w2 q2.1
          have heq : J M 39 G = J M 40 e := by omega
          have enf : nf_ M0 md by_ a b (J M 40) e = G := nf_eq g0 (by omega) hx hmin
          rw [enf]
          rw [heq] at mn
          refine s_Finder_nextLeg_11 hF hg ?_
          simp (disch := (first | omega | decide | assumption)) only [ltm_s, ok_n, rd_i, rd_j, fd_i, fd_j, wr_i, wr_j, fw_i, fw_j, ci_s, cj_s, cv_s, dv_n, dw_n, rt_1, rt_b, rt_20, rt_21, okb_0, okb_1, okb_b, nar_0, nar_1, nar_b, i_0, i_1, j_0, j_1, i_lit, j_lit, i_n, iI_add, iI_sub, iI_mul, iI_neg, jI_add, jI_sub, jI_mul, jI_neg, sh_1, an_1, xo_1, di_p, dj_p, i_64A, i_64, j_32, lq_ge, lq_lt, lq_le, lq_gt, lq_eq, i_lt, i_le, i_eq, j_eq, iI_A, jI_J, iI_b, iI_v, jI_v, ↓reduceIte, ite_true, ite_false, Int.reduceEq, Int.reduceLT, Int.reduceLE, Int.reduceAdd, Int.reduceSub, Int.reduceMul, Int.reduceNeg, not_true_eq_false, not_false_eq_true, agA hA, agJA hA, ag hA, v_nJ, v_nW, v_nD, v_toD, v_px, v_py, v_rg, v_kd, v_ft, v_on, v_bg, v_en, @nJ_ M0, @nW_ M0, @nD_ M0, @toD_ M0, @px_ M0, @py_ M0, @rg_ M0, @kd_ M0, @ft_ M0, @on_ M0, bt_, hlt, c_outLeg hF hg hA, hG, mt, ct, heq, mn]
        · have hx : ¬ nx_ M0 md by_ a b (J M 40) e G := fun x => by
            rcases x.2 with y | y
            · exact q2 y
            · exact y.1 q1
          have hne : ¬ J M 39 G = J M 40 e := fun x => by
            by_cases z : gol M0 b G
            · exact q2 ⟨z, by rw [← x, w2 z]⟩
            · rw [w3 z] at x; exact he x.symm
          have ihx := ihs hx
          refine s_Finder_nextLeg_11 hF hg ?_
          simp (disch := (first | omega | decide | assumption)) only [ltm_s, ok_n, rd_i, rd_j, fd_i, fd_j, wr_i, wr_j, fw_i, fw_j, ci_s, cj_s, cv_s, dv_n, dw_n, rt_1, rt_b, rt_20, rt_21, okb_0, okb_1, okb_b, nar_0, nar_1, nar_b, i_0, i_1, j_0, j_1, i_lit, j_lit, i_n, iI_add, iI_sub, iI_mul, iI_neg, jI_add, jI_sub, jI_mul, jI_neg, sh_1, an_1, xo_1, di_p, dj_p, i_64A, i_64, j_32, lq_ge, lq_lt, lq_le, lq_gt, lq_eq, i_lt, i_le, i_eq, j_eq, iI_A, jI_J, iI_b, iI_v, jI_v, ↓reduceIte, ite_true, ite_false, Int.reduceEq, Int.reduceLT, Int.reduceLE, Int.reduceAdd, Int.reduceSub, Int.reduceMul, Int.reduceNeg, not_true_eq_false, not_false_eq_true, agA hA, agJA hA, ag hA, v_nJ, v_nW, v_nD, v_toD, v_px, v_py, v_rg, v_kd, v_ft, v_on, v_bg, v_en, @nJ_ M0, @nW_ M0, @nD_ M0, @toD_ M0, @px_ M0, @py_ M0, @rg_ M0, @kd_ M0, @ft_ M0, @on_ M0, bt_, hlt, c_outLeg hF hg hA, hG, mt, ct, mn, hne, ihx]
      · rw [if_neg q1, w1] at ct
        have b3 := b3 q1
        have hb := hbd G g0 g1 q1
        have cG := cG.resolve_left q1
        have mn := c_minJ hF hg (M := M) (v := J M 39 G) (w := J M 40 G + wkk M0 by_ a b md.2.2.1 G) hJl hJh (by omega) (by omega)
        by_cases q2 : (gol M0 b G ∧ J M 40 e = gkk M0 by_ b G) ∨ J M 40 e = J M 40 G + wkk M0 by_ a b md.2.2.1 G
        · have hx : nx_ M0 md by_ a b (J M 40) e G := ⟨hm, q2.imp id fun x => ⟨q1, x⟩⟩
          have heq : (if J M 40 G + wkk M0 by_ a b md.2.2.1 G < J M 39 G then J M 40 G + wkk M0 by_ a b md.2.2.1 G else J M 39 G) = J M 40 e := by
            by_cases z : gol M0 b G
            · have w2 := w2 z
              have b2 := b2 z
              split <;> omega
            · have w3 := w3 z
              have : J M 40 e = J M 40 G + wkk M0 by_ a b md.2.2.1 G := by
                rcases q2 with y | y
                · exact absurd y.1 z
                · exact y
              split <;> omega
          have enf : nf_ M0 md by_ a b (J M 40) e = G := nf_eq g0 (by omega) hx hmin
          rw [enf]
          rw [heq] at mn
          refine s_Finder_nextLeg_11 hF hg ?_
          simp (disch := (first | omega | decide | assumption)) only [ltm_s, ok_n, rd_i, rd_j, fd_i, fd_j, wr_i, wr_j, fw_i, fw_j, ci_s, cj_s, cv_s, dv_n, dw_n, rt_1, rt_b, rt_20, rt_21, okb_0, okb_1, okb_b, nar_0, nar_1, nar_b, i_0, i_1, j_0, j_1, i_lit, j_lit, i_n, iI_add, iI_sub, iI_mul, iI_neg, jI_add, jI_sub, jI_mul, jI_neg, sh_1, an_1, xo_1, di_p, dj_p, i_64A, i_64, j_32, lq_ge, lq_lt, lq_le, lq_gt, lq_eq, i_lt, i_le, i_eq, j_eq, iI_A, jI_J, iI_b, iI_v, jI_v, ↓reduceIte, ite_true, ite_false, Int.reduceEq, Int.reduceLT, Int.reduceLE, Int.reduceAdd, Int.reduceSub, Int.reduceMul, Int.reduceNeg, not_true_eq_false, not_false_eq_true, agA hA, agJA hA, ag hA, v_nJ, v_nW, v_nD, v_toD, v_px, v_py, v_rg, v_kd, v_ft, v_on, v_bg, v_en, @nJ_ M0, @nW_ M0, @nD_ M0, @toD_ M0, @px_ M0, @py_ M0, @rg_ M0, @kd_ M0, @ft_ M0, @on_ M0, bt_, hlt, c_outLeg hF hg hA, hG, mt, ct, mn]
        · have hx : ¬ nx_ M0 md by_ a b (J M 40) e G := fun x => q2 (x.2.imp id fun y => y.2)
          have hne : ¬ (if J M 40 G + wkk M0 by_ a b md.2.2.1 G < J M 39 G then J M 40 G + wkk M0 by_ a b md.2.2.1 G else J M 39 G) = J M 40 e := by
            by_cases z : gol M0 b G
            · have w2 := w2 z
              have b2 := b2 z
              have : ¬ J M 40 e = gkk M0 by_ b G := fun y => q2 (Or.inl ⟨z, y⟩)
              have : ¬ J M 40 e = J M 40 G + wkk M0 by_ a b md.2.2.1 G := fun y => q2 (Or.inr y)
              split <;> omega
            · have w3 := w3 z
              have : ¬ J M 40 e = J M 40 G + wkk M0 by_ a b md.2.2.1 G := fun y => q2 (Or.inr y)
              split <;> omega
          have ihx := ihs hx
          have hz : -9223372036854775808 ≤ (if J M 40 G + wkk M0 by_ a b md.2.2.1 G < J M 39 G then J M 40 G + wkk M0 by_ a b md.2.2.1 G else J M 39 G) ∧ (if J M 40 G + wkk M0 by_ a b md.2.2.1 G < J M 39 G then J M 40 G + wkk M0 by_ a b md.2.2.1 G else J M 39 G) < 9223372036854775808 := by split <;> omega
          generalize (if J M 40 G + wkk M0 by_ a b md.2.2.1 G < J M 39 G then J M 40 G + wkk M0 by_ a b md.2.2.1 G else J M 39 G) = Z at mn hne hz
          refine s_Finder_nextLeg_11 hF hg ?_
          simp (disch := (first | omega | decide | assumption)) only [ltm_s, ok_n, rd_i, rd_j, fd_i, fd_j, wr_i, wr_j, fw_i, fw_j, ci_s, cj_s, cv_s, dv_n, dw_n, rt_1, rt_b, rt_20, rt_21, okb_0, okb_1, okb_b, nar_0, nar_1, nar_b, i_0, i_1, j_0, j_1, i_lit, j_lit, i_n, iI_add, iI_sub, iI_mul, iI_neg, jI_add, jI_sub, jI_mul, jI_neg, sh_1, an_1, xo_1, di_p, dj_p, i_64A, i_64, j_32, lq_ge, lq_lt, lq_le, lq_gt, lq_eq, i_lt, i_le, i_eq, j_eq, iI_A, jI_J, iI_b, iI_v, jI_v, ↓reduceIte, ite_true, ite_false, Int.reduceEq, Int.reduceLT, Int.reduceLE, Int.reduceAdd, Int.reduceSub, Int.reduceMul, Int.reduceNeg, not_true_eq_false, not_false_eq_true, agA hA, agJA hA, ag hA, v_nJ, v_nW, v_nD, v_toD, v_px, v_py, v_rg, v_kd, v_ft, v_on, v_bg, v_en, @nJ_ M0, @nW_ M0, @nD_ M0, @toD_ M0, @px_ M0, @py_ M0, @rg_ M0, @kd_ M0, @ft_ M0, @on_ M0, bt_, hlt, c_outLeg hF hg hA, hG, mt, ct, mn, hne, ihx]
    · rw [bI_f hm] at mt
      have ihx := ihs (fun x => hm x.1)
      refine s_Finder_nextLeg_11 hF hg ?_
      simp (disch := (first | omega | decide | assumption)) only [ltm_s, ok_n, rd_i, rd_j, fd_i, fd_j, wr_i, wr_j, fw_i, fw_j, ci_s, cj_s, cv_s, dv_n, dw_n, rt_1, rt_b, rt_20, rt_21, okb_0, okb_1, okb_b, nar_0, nar_1, nar_b, i_0, i_1, j_0, j_1, i_lit, j_lit, i_n, iI_add, iI_sub, iI_mul, iI_neg, jI_add, jI_sub, jI_mul, jI_neg, sh_1, an_1, xo_1, di_p, dj_p, i_64A, i_64, j_32, lq_ge, lq_lt, lq_le, lq_gt, lq_eq, i_lt, i_le, i_eq, j_eq, iI_A, jI_J, iI_b, iI_v, jI_v, ↓reduceIte, ite_true, ite_false, Int.reduceEq, Int.reduceLT, Int.reduceLE, Int.reduceAdd, Int.reduceSub, Int.reduceMul, Int.reduceNeg, not_true_eq_false, not_false_eq_true, agA hA, agJA hA, ag hA, v_nJ, v_nW, v_nD, v_toD, v_px, v_py, v_rg, v_kd, v_ft, v_on, v_bg, v_en, @nJ_ M0, @nW_ M0, @nD_ M0, @toD_ M0, @px_ M0, @py_ M0, @rg_ M0, @kd_ M0, @ft_ M0, @on_ M0, bt_, hlt, c_outLeg hF hg hA, hG, mt, ihx]
theorem c_nextLeg (hF : F = am_F T0 g) (hg : GG g) (hA : Ag M0 M) (h1 : I1 M0) (h2 : I2 M0) (h3 : I3 M0) (h4 : I4 M0) {md : Int × Int × Int × Int} {by_ a b : Int} (u0 : 0 ≤ md.2.2.1) (u1 : md.2.2.1 < 24) (a0 : 0 ≤ a) (a1 : a < nD M0) (b0 : 0 ≤ b) (b1 : b < nD M0) (hs : fset M0 md M) (hw : wgh M0 by_ a b md.2.2.1 M) (hB : Bel_ M0 md by_ a b (J M 40)) {e : Int} (e0 : 0 ≤ e) (e1 : e < 2 * nW M0) (he : J M 40 e ≠ FARC) (hbd : ∀ e : Int, 0 ≤ e → e < 2 * nW M0 → J M 40 e ≠ FARC → J M 40 e ≤ 7000000000000000) :
    F 96 0 [.ref 32, .int (iI e)] [] M = some (some (.int (iI (nf_ M0 md by_ a b (J M 40) e))), M) := by
  have hn := h2.1
  have hJ := h1.1
  have hen := en_r h2 e0 e1
  have hc := (h3 (en M0 e) (by omega) (by omega)).1
  have q := c_next_l hF hg hA h1 h2 h3 h4 u0 u1 a0 a1 b0 b1 hs hw hB e0 e1 he hbd (A M0 17 (en M0 e)).toNat 0 (by omega) (fun i i0 i1 => by omega)
  have ez : iI ((0 : Nat) : Int) = iI 0 := rfl
  rw [ez] at q
  refine s_Finder_nextLeg hF hg ?_
  simp (disch := (first | omega | decide | assumption)) only [ltm_s, ok_n, rd_i, rd_j, fd_i, fd_j, wr_i, wr_j, fw_i, fw_j, ci_s, cj_s, cv_s, dv_n, dw_n, rt_1, rt_b, rt_20, rt_21, okb_0, okb_1, okb_b, nar_0, nar_1, nar_b, i_0, i_1, j_0, j_1, i_lit, j_lit, i_n, iI_add, iI_sub, iI_mul, iI_neg, jI_add, jI_sub, jI_mul, jI_neg, sh_1, an_1, xo_1, di_p, dj_p, i_64A, i_64, j_32, lq_ge, lq_lt, lq_le, lq_gt, lq_eq, i_lt, i_le, i_eq, j_eq, iI_A, jI_J, iI_b, iI_v, jI_v, ↓reduceIte, ite_true, ite_false, Int.reduceEq, Int.reduceLT, Int.reduceLE, Int.reduceAdd, Int.reduceSub, Int.reduceMul, Int.reduceNeg, not_true_eq_false, not_false_eq_true, agA hA, agJA hA, ag hA, v_nJ, v_nW, v_nD, v_toD, v_px, v_py, v_rg, v_kd, v_ft, v_on, v_bg, v_en, @nJ_ M0, @nW_ M0, @nD_ M0, @toD_ M0, @px_ M0, @py_ M0, @rg_ M0, @kd_ M0, @ft_ M0, @on_ M0, bt_, c_endOf hF hg hA h2, q]
theorem ahd_r (h2 : I2 M0) (h4 : I4 M0) {a b e : Int} (a0 : 0 ≤ a) (a1 : a < nD M0) (b0 : 0 ≤ b) (b1 : b < nD M0) : -999 ≤ ahd_ M0 a b e ∧ ahd_ M0 a b e ≤ 999 := by
  obtain ⟨w, d, -⟩ := h4.2.2 b b0 b1
  obtain ⟨w2, d2, -⟩ := h4.2.2 a a0 a1
  have hf := (h2.2.2.1 _ w.1 w.2).2.1
  have hf2 := (h2.2.2.1 _ w2.1 w2.2).2.1
  unfold ahd_
  split <;> omega
theorem c_costAlone (hF : F = am_F T0 g) (hg : GG g) (hA : Ag M0 M) (h2 : I2 M0) (h4 : I4 M0) {by_ a b e : Int} (hb : A M 32 13 = by_) (hb01 : by_ = 0 ∨ by_ = 1) (a0 : 0 ≤ a) (a1 : a < nD M0) (b0 : 0 ≤ b) (b1 : b < nD M0) (e0 : 0 ≤ e) (e1 : e < 2 * nW M0) : F 93 0 [.ref 32, .int (iI e), .int (iI a), .int (iI b)] [] M = some (some (.long (jI (alone M0 by_ a b e))), M) := by
  have hn := h2.1
  have hd := h4.1
  have wa := (h4.2.2 a a0 a1).1
  have wb := (h4.2.2 b b0 b1).1
  have hr := ahd_r h2 h4 (e := e) a0 a1 b0 b1
  have eF : FARC = 9223372036854775807 := rfl
  have fa := c_feetAhead hF hg hA h2 h4 e0 e1 a0 a1 b0 b1
  have ea : (if e % 2 = 0 then A M0 229 b - A M0 229 a else A M0 229 a - A M0 229 b) = ahd_ M0 a b e := rfl
  rw [ea] at fa
  by_cases q : A M0 228 a = A M0 228 b
  · by_cases q2 : ahd_ M0 a b e ≤ 0
    · have ex : alone M0 by_ a b e = FARC := if_neg (by omega)
      rw [ex, eF]
      refine s_Finder_costAlone hF hg ?_
      simp (disch := (first | omega | decide | assumption)) only [ltm_s, ok_n, rd_i, rd_j, fd_i, fd_j, wr_i, wr_j, fw_i, fw_j, ci_s, cj_s, cv_s, dv_n, dw_n, rt_1, rt_b, rt_20, rt_21, okb_0, okb_1, okb_b, nar_0, nar_1, nar_b, i_0, i_1, j_0, j_1, i_lit, j_lit, i_n, iI_add, iI_sub, iI_mul, iI_neg, jI_add, jI_sub, jI_mul, jI_neg, sh_1, an_1, xo_1, di_p, dj_p, i_64A, i_64, j_32, lq_ge, lq_lt, lq_le, lq_gt, lq_eq, i_lt, i_le, i_eq, j_eq, iI_A, jI_J, iI_b, iI_v, jI_v, ↓reduceIte, ite_true, ite_false, Int.reduceEq, Int.reduceLT, Int.reduceLE, Int.reduceAdd, Int.reduceSub, Int.reduceMul, Int.reduceNeg, not_true_eq_false, not_false_eq_true, agA hA, agJA hA, ag hA, v_nJ, v_nW, v_nD, v_toD, v_px, v_py, v_rg, v_kd, v_ft, v_on, v_bg, v_en, @nJ_ M0, @nW_ M0, @nD_ M0, @toD_ M0, @px_ M0, @py_ M0, @rg_ M0, @kd_ M0, @ft_ M0, @on_ M0, bt_, r11 h4, q, fa, q2]
    · have ex : alone M0 by_ a b e = key by_ 0 (ahd_ M0 a b e) := if_pos ⟨q, by omega⟩
      rw [ex]
      refine s_Finder_costAlone hF hg ?_
      simp (disch := (first | omega | decide | assumption)) only [ltm_s, ok_n, rd_i, rd_j, fd_i, fd_j, wr_i, wr_j, fw_i, fw_j, ci_s, cj_s, cv_s, dv_n, dw_n, rt_1, rt_b, rt_20, rt_21, okb_0, okb_1, okb_b, nar_0, nar_1, nar_b, i_0, i_1, j_0, j_1, i_lit, j_lit, i_n, iI_add, iI_sub, iI_mul, iI_neg, jI_add, jI_sub, jI_mul, jI_neg, sh_1, an_1, xo_1, di_p, dj_p, i_64A, i_64, j_32, lq_ge, lq_lt, lq_le, lq_gt, lq_eq, i_lt, i_le, i_eq, j_eq, iI_A, jI_J, iI_b, iI_v, jI_v, ↓reduceIte, ite_true, ite_false, Int.reduceEq, Int.reduceLT, Int.reduceLE, Int.reduceAdd, Int.reduceSub, Int.reduceMul, Int.reduceNeg, not_true_eq_false, not_false_eq_true, agA hA, agJA hA, ag hA, v_nJ, v_nW, v_nD, v_toD, v_px, v_py, v_rg, v_kd, v_ft, v_on, v_bg, v_en, @nJ_ M0, @nW_ M0, @nD_ M0, @toD_ M0, @px_ M0, @py_ M0, @rg_ M0, @kd_ M0, @ft_ M0, @on_ M0, bt_, r11 h4, q, fa, q2, c_key hF hg hb hb01]
  · have ex : alone M0 by_ a b e = FARC := if_neg (fun x => q x.1)
    rw [ex, eF]
    refine s_Finder_costAlone hF hg ?_
    simp (disch := (first | omega | decide | assumption)) only [ltm_s, ok_n, rd_i, rd_j, fd_i, fd_j, wr_i, wr_j, fw_i, fw_j, ci_s, cj_s, cv_s, dv_n, dw_n, rt_1, rt_b, rt_20, rt_21, okb_0, okb_1, okb_b, nar_0, nar_1, nar_b, i_0, i_1, j_0, j_1, i_lit, j_lit, i_n, iI_add, iI_sub, iI_mul, iI_neg, jI_add, jI_sub, jI_mul, jI_neg, sh_1, an_1, xo_1, di_p, dj_p, i_64A, i_64, j_32, lq_ge, lq_lt, lq_le, lq_gt, lq_eq, i_lt, i_le, i_eq, j_eq, iI_A, jI_J, iI_b, iI_v, jI_v, ↓reduceIte, ite_true, ite_false, Int.reduceEq, Int.reduceLT, Int.reduceLE, Int.reduceAdd, Int.reduceSub, Int.reduceMul, Int.reduceNeg, not_true_eq_false, not_false_eq_true, agA hA, agJA hA, ag hA, v_nJ, v_nW, v_nD, v_toD, v_px, v_py, v_rg, v_kd, v_ft, v_on, v_bg, v_en, @nJ_ M0, @nW_ M0, @nD_ M0, @toD_ M0, @px_ M0, @py_ M0, @rg_ M0, @kd_ M0, @ft_ M0, @on_ M0, bt_, r11 h4, q]
theorem c_costFrom (hF : F = am_F T0 g) (hg : GG g) (hA : Ag M0 M) (h1 : I1 M0) (h2 : I2 M0) (h4 : I4 M0) {md : Int × Int × Int × Int} {by_ a b e : Int} (hb01 : by_ = 0 ∨ by_ = 1) (a0 : 0 ≤ a) (a1 : a < nD M0) (b0 : 0 ≤ b) (b1 : b < nD M0) (hs : fset M0 md M) (hw : wgh M0 by_ a b md.2.2.1 M) (e0 : 0 ≤ e) (e1 : e < 2 * nW M0) (hew : e / 2 = A M0 228 a) (hC : J M 40 e = FARC ∨ 0 ≤ J M 40 e ∧ J M 40 e < FARC) (hbd : ∀ e : Int, 0 ≤ e → e < 2 * nW M0 → J M 40 e ≠ FARC → J M 40 e ≤ 7000000000000000) :
    (mgo M0 md e → F 167 0 [.ref 32, .int (iI e), .int (iI a), .int (iI b)] [] M = some (some (.long (jI (if alone M0 by_ a b e < thru M0 by_ a b (J M 40) e then alone M0 by_ a b e else thru M0 by_ a b (J M 40) e))), M)) ∧
    (¬ mgo M0 md e → F 167 0 [.ref 32, .int (iI e), .int (iI a), .int (iI b)] [] M = some (some (.long (jI FARC)), M)) := by
  have hn := h2.1
  have hJ := h1.1
  have eF : FARC = 9223372036854775807 := rfl
  have u := hs.2.1 e e0 e1
  have hen := en_r h2 e0 e1
  have hst := strg_r h1 h2 h4 a0 a1 b0 b1 hen.1 hen.2
  have hfd := fdr_r h2 h4 (b := a) (f := e) a0 a1
  have ca := c_costAlone hF hg hA h2 h4 hw.1 hb01 a0 a1 b0 b1 e0 e1
  have fe := c_feetToEnd hF hg hA h2 h4 e0 e1 a0 a1 hew
  have e37 := hw.2.1 _ hen.1 hen.2
  have ra : 0 ≤ alone M0 by_ a b e ∧ alone M0 by_ a b e ≤ FARC := by
    have hr := ahd_r h2 h4 (e := e) a0 a1 b0 b1
    unfold alone
    split
    · have := key_b (b := by_) (t := 0) (m := ahd_ M0 a b e) (by omega) (by omega) (by omega) (by omega)
      omega
    · omega
  refine ⟨fun q => ?_, fun q => ?_⟩
  · rw [bI_t q] at u
    refine s_Finder_costFrom hF hg ?_
    unfold thru
    by_cases q1 : J M 40 e = FARC
    · rw [if_pos q1]
      have mn := c_minJ hF hg (M := M) (v := FARC) (w := alone M0 by_ a b e) (by omega) (by omega) (by omega) (by omega)
      have q1' : J M 40 e = 9223372036854775807 := q1
      rw [eF] at mn ⊢
      simp (disch := (first | omega | decide | assumption)) only [ltm_s, ok_n, rd_i, rd_j, fd_i, fd_j, wr_i, wr_j, fw_i, fw_j, ci_s, cj_s, cv_s, dv_n, dw_n, rt_1, rt_b, rt_20, rt_21, okb_0, okb_1, okb_b, nar_0, nar_1, nar_b, i_0, i_1, j_0, j_1, i_lit, j_lit, i_n, iI_add, iI_sub, iI_mul, iI_neg, jI_add, jI_sub, jI_mul, jI_neg, sh_1, an_1, xo_1, di_p, dj_p, i_64A, i_64, j_32, lq_ge, lq_lt, lq_le, lq_gt, lq_eq, i_lt, i_le, i_eq, j_eq, iI_A, jI_J, iI_b, iI_v, jI_v, ↓reduceIte, ite_true, ite_false, Int.reduceEq, Int.reduceLT, Int.reduceLE, Int.reduceAdd, Int.reduceSub, Int.reduceMul, Int.reduceNeg, not_true_eq_false, not_false_eq_true, agA hA, agJA hA, ag hA, v_nJ, v_nW, v_nD, v_toD, v_px, v_py, v_rg, v_kd, v_ft, v_on, v_bg, v_en, @nJ_ M0, @nW_ M0, @nD_ M0, @toD_ M0, @px_ M0, @py_ M0, @rg_ M0, @kd_ M0, @ft_ M0, @on_ M0, bt_, u, q1', ca, mn]
    · rw [if_neg q1]
      have q1' : ¬ J M 40 e = 9223372036854775807 := q1
      have hb := hbd e e0 e1 q1
      have hC := hC.resolve_left q1
      have kr := key_r (by_ := by_) (t := offs M0 a b e) (n := fdr M0 a e) hst.1 hst.2 (by omega) (by omega)
      have ck := c_key hF hg (M := M) hw.1 hb01 (t := strg M0 a b (en M0 e)) (n := fdr M0 a e) (by omega) (by omega) (by omega) (by omega)
      have eo : key by_ (strg M0 a b (en M0 e)) (fdr M0 a e) = key by_ (offs M0 a b e) (fdr M0 a e) := rfl
      rw [eo] at ck
      have mn := c_minJ hF hg (M := M) (v := J M 40 e + key by_ (offs M0 a b e) (fdr M0 a e)) (w := alone M0 by_ a b e) (by omega) (by omega) (by omega) (by omega)
      simp (disch := (first | omega | decide | assumption)) only [ltm_s, ok_n, rd_i, rd_j, fd_i, fd_j, wr_i, wr_j, fw_i, fw_j, ci_s, cj_s, cv_s, dv_n, dw_n, rt_1, rt_b, rt_20, rt_21, okb_0, okb_1, okb_b, nar_0, nar_1, nar_b, i_0, i_1, j_0, j_1, i_lit, j_lit, i_n, iI_add, iI_sub, iI_mul, iI_neg, jI_add, jI_sub, jI_mul, jI_neg, sh_1, an_1, xo_1, di_p, dj_p, i_64A, i_64, j_32, lq_ge, lq_lt, lq_le, lq_gt, lq_eq, i_lt, i_le, i_eq, j_eq, iI_A, jI_J, iI_b, iI_v, jI_v, ↓reduceIte, ite_true, ite_false, Int.reduceEq, Int.reduceLT, Int.reduceLE, Int.reduceAdd, Int.reduceSub, Int.reduceMul, Int.reduceNeg, not_true_eq_false, not_false_eq_true, agA hA, agJA hA, ag hA, v_nJ, v_nW, v_nD, v_toD, v_px, v_py, v_rg, v_kd, v_ft, v_on, v_bg, v_en, @nJ_ M0, @nW_ M0, @nD_ M0, @toD_ M0, @px_ M0, @py_ M0, @rg_ M0, @kd_ M0, @ft_ M0, @on_ M0, bt_, u, q1', ca, c_endOf hF hg hA h2, fe, e37, ck, mn]
  · rw [bI_f q] at u
    refine s_Finder_costFrom hF hg ?_
    simp (disch := (first | omega | decide | assumption)) only [ltm_s, ok_n, rd_i, rd_j, fd_i, fd_j, wr_i, wr_j, fw_i, fw_j, ci_s, cj_s, cv_s, dv_n, dw_n, rt_1, rt_b, rt_20, rt_21, okb_0, okb_1, okb_b, nar_0, nar_1, nar_b, i_0, i_1, j_0, j_1, i_lit, j_lit, i_n, iI_add, iI_sub, iI_mul, iI_neg, jI_add, jI_sub, jI_mul, jI_neg, sh_1, an_1, xo_1, di_p, dj_p, i_64A, i_64, j_32, lq_ge, lq_lt, lq_le, lq_gt, lq_eq, i_lt, i_le, i_eq, j_eq, iI_A, jI_J, iI_b, iI_v, jI_v, ↓reduceIte, ite_true, ite_false, Int.reduceEq, Int.reduceLT, Int.reduceLE, Int.reduceAdd, Int.reduceSub, Int.reduceMul, Int.reduceNeg, not_true_eq_false, not_false_eq_true, agA hA, agJA hA, ag hA, v_nJ, v_nW, v_nD, v_toD, v_px, v_py, v_rg, v_kd, v_ft, v_on, v_bg, v_en, @nJ_ M0, @nW_ M0, @nD_ M0, @toD_ M0, @px_ M0, @py_ M0, @rg_ M0, @kd_ M0, @ft_ M0, @on_ M0, bt_, u]
    rfl
end Nx
