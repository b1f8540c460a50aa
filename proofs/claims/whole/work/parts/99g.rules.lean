/-! RULES held against an exam, by both -/
section Ru
variable {M0 M M' : am_M} {g : am_G} {F : am_FT}
def Vf (L wr ov ft_ day f : Int) : Int := if f = 0 then (if 1 < L then 1 else L) else if f = 1 then wr else if f = 2 then ov else if f = 3 then (if L - 1 < 0 then 0 else L - 1) else if f = 4 then (if ft_ < 0 then 0 else ft_) else day
def tst (V : Int → Int) (t : Int) : Prop := (t / 10000 - t / 10000 / 10 * 10 = 0 → V (t / 100000) = t - t / 10000 * 10000) ∧ (t / 10000 - t / 10000 / 10 * 10 = 1 → V (t / 100000) < t - t / 10000 * 10000) ∧ (¬ t / 10000 - t / 10000 / 10 * 10 = 0 → ¬ t / 10000 - t / 10000 / 10 * 10 = 1 → t - t / 10000 * 10000 < V (t / 100000))
theorem ru_ok (hg : GG g) {r : Int} (r0 : 0 ≤ r) (r6 : r < 6) : isRu g (112 + 4 * r.toNat) := by
  have : r = 0 ∨ r = 1 ∨ r = 2 ∨ r = 3 ∨ r = 4 ∨ r = 5 := by omega
  rcases this with rfl | rfl | rfl | rfl | rfl | rfl
  · exact ⟨hg.1 112 _ (by decide +kernel), hg.2.1 112 2 _ (by decide +kernel), hg.1 113 _ (by decide +kernel), hg.2.1 112 3 _ (by decide +kernel), hg.1 114 _ (by decide +kernel), hg.2.1 112 4 _ (by decide +kernel), hg.1 115 _ (by decide +kernel)⟩
  · exact ⟨hg.1 116 _ (by decide +kernel), hg.2.1 116 2 _ (by decide +kernel), hg.1 117 _ (by decide +kernel), hg.2.1 116 3 _ (by decide +kernel), hg.1 118 _ (by decide +kernel), hg.2.1 116 4 _ (by decide +kernel), hg.1 119 _ (by decide +kernel)⟩
  · exact ⟨hg.1 120 _ (by decide +kernel), hg.2.1 120 2 _ (by decide +kernel), hg.1 121 _ (by decide +kernel), hg.2.1 120 3 _ (by decide +kernel), hg.1 122 _ (by decide +kernel), hg.2.1 120 4 _ (by decide +kernel), hg.1 123 _ (by decide +kernel)⟩
  · exact ⟨hg.1 124 _ (by decide +kernel), hg.2.1 124 2 _ (by decide +kernel), hg.1 125 _ (by decide +kernel), hg.2.1 124 3 _ (by decide +kernel), hg.1 126 _ (by decide +kernel), hg.2.1 124 4 _ (by decide +kernel), hg.1 127 _ (by decide +kernel)⟩
  · exact ⟨hg.1 128 _ (by decide +kernel), hg.2.1 128 2 _ (by decide +kernel), hg.1 129 _ (by decide +kernel), hg.2.1 128 3 _ (by decide +kernel), hg.1 130 _ (by decide +kernel), hg.2.1 128 4 _ (by decide +kernel), hg.1 131 _ (by decide +kernel)⟩
  · exact ⟨hg.1 132 _ (by decide +kernel), hg.2.1 132 2 _ (by decide +kernel), hg.1 133 _ (by decide +kernel), hg.2.1 132 3 _ (by decide +kernel), hg.1 134 _ (by decide +kernel), hg.2.1 132 4 _ (by decide +kernel), hg.1 135 _ (by decide +kernel)⟩
theorem ex_n (hg : GG g) : ∀ k : Nat, k < 24 → isEx g (137 + 3 * k) ∧ rok g (137 + 3 * k + 1) := by
  intro k hk
  have : ∀ k : Nat, k < 24 → al_kl kdl (137 + 3 * k) = some (0, 1) ∧ al_rl rdl (137 + 3 * k) 5 = some (137 + 3 * k + 1) ∧ al_kl kdl (137 + 3 * k + 1) = some (0, 6) ∧ al_rl rdl (137 + 3 * k + 1) 4 = some (137 + 3 * k + 1 + 1) ∧ al_kl kdl (137 + 3 * k + 1 + 1) = some (1, 81) ∧ 42 ≤ 137 + 3 * k + 1 ∧ stN (137 + 3 * k + 1) = true ∧ stN (137 + 3 * k + 1 + 1) = true := by decide +kernel
  obtain ⟨a, b, c, d, e, f, s1, s2⟩ := this k hk
  have hr : isRt g (137 + 3 * k + 1) := ⟨hg.1 _ _ c, hg.2.1 _ _ _ d, hg.1 _ _ e⟩
  exact ⟨⟨hg.1 _ _ a, hg.2.1 _ _ _ b, hr⟩, hr, f, s1, s2⟩
theorem c_valueOf (hF : F = am_F T0 g) (hg : GG g) {a : Nat} (ha : isEx g a) {L wr ov ft_ day f : Int} (h5 : A M (a + 1) 5 = L) (h3 : A M a 3 = wr) (h4 : A M a 4 = ov) (h7 : A M (a + 1) 7 = ft_) (h2 : A M (a + 1) 2 = day) (L0 : 0 ≤ L ∧ L ≤ 80) (t0 : -1 ≤ ft_ ∧ ft_ ≤ 4000000) (f0 : 0 ≤ f) (f5 : f ≤ 5) : F 91 0 [.ref a, .int (iI f)] [] M = some (some (.int (iI (Vf L wr ov ft_ day f))), M) := by
  refine s_Exam_valueOf hF hg ha ?_
  have hf : f = 0 ∨ f = 1 ∨ f = 2 ∨ f = 3 ∨ f = 4 ∨ f = 5 := by omega
  rcases hf with rfl | rfl | rfl | rfl | rfl | rfl
  · have hm := c_minI hF hg (M := M) (v := L) (w := 1) (by omega) (by omega) (by omega) (by omega)
    have e : Vf L wr ov ft_ day 0 = if 1 < L then 1 else L := rfl
    rw [e]
    simp (config := { maxSteps := 1000000 }) (disch := (first | omega | decide | assumption)) only [ltm_s, ok_n, rd_i, rd_j, fd_i, fd_j, wr_i, wr_j, fw_i, fw_j, ci_s, cj_s, cv_s, dv_n, dw_n, rt_1, rt_b, rt_20, rt_21, okb_0, okb_1, okb_b, nar_0, nar_1, nar_b, i_0, i_1, j_0, j_1, i_lit, j_lit, i_n, iI_add, iI_sub, iI_mul, iI_neg, jI_add, jI_sub, jI_mul, jI_neg, sh_1, an_1, xo_1, di_p, dj_p, i_64A, i_64, j_32, lq_ge, lq_lt, lq_le, lq_gt, lq_eq, i_lt, i_le, i_eq, j_eq, iI_A, jI_J, iI_b, iI_v, jI_v, ↓reduceIte, ite_true, ite_false, Int.reduceEq, Int.reduceLT, Int.reduceLE, Int.reduceAdd, Int.reduceSub, Int.reduceMul, Int.reduceNeg, not_true_eq_false, not_false_eq_true, h5, hm]
  · have e : Vf L wr ov ft_ day 1 = wr := rfl
    rw [e]
    simp (config := { maxSteps := 1000000 }) (disch := (first | omega | decide | assumption)) only [ltm_s, ok_n, rd_i, rd_j, fd_i, fd_j, wr_i, wr_j, fw_i, fw_j, ci_s, cj_s, cv_s, dv_n, dw_n, rt_1, rt_b, rt_20, rt_21, okb_0, okb_1, okb_b, nar_0, nar_1, nar_b, i_0, i_1, j_0, j_1, i_lit, j_lit, i_n, iI_add, iI_sub, iI_mul, iI_neg, jI_add, jI_sub, jI_mul, jI_neg, sh_1, an_1, xo_1, di_p, dj_p, i_64A, i_64, j_32, lq_ge, lq_lt, lq_le, lq_gt, lq_eq, i_lt, i_le, i_eq, j_eq, iI_A, jI_J, iI_b, iI_v, jI_v, ↓reduceIte, ite_true, ite_false, Int.reduceEq, Int.reduceLT, Int.reduceLE, Int.reduceAdd, Int.reduceSub, Int.reduceMul, Int.reduceNeg, not_true_eq_false, not_false_eq_true, h3]
  · have e : Vf L wr ov ft_ day 2 = ov := rfl
    rw [e]
    simp (config := { maxSteps := 1000000 }) (disch := (first | omega | decide | assumption)) only [ltm_s, ok_n, rd_i, rd_j, fd_i, fd_j, wr_i, wr_j, fw_i, fw_j, ci_s, cj_s, cv_s, dv_n, dw_n, rt_1, rt_b, rt_20, rt_21, okb_0, okb_1, okb_b, nar_0, nar_1, nar_b, i_0, i_1, j_0, j_1, i_lit, j_lit, i_n, iI_add, iI_sub, iI_mul, iI_neg, jI_add, jI_sub, jI_mul, jI_neg, sh_1, an_1, xo_1, di_p, dj_p, i_64A, i_64, j_32, lq_ge, lq_lt, lq_le, lq_gt, lq_eq, i_lt, i_le, i_eq, j_eq, iI_A, jI_J, iI_b, iI_v, jI_v, ↓reduceIte, ite_true, ite_false, Int.reduceEq, Int.reduceLT, Int.reduceLE, Int.reduceAdd, Int.reduceSub, Int.reduceMul, Int.reduceNeg, not_true_eq_false, not_false_eq_true, h4]
  · have hm := c_maxI hF hg (M := M) (v := L - 1) (w := 0) (by omega) (by omega) (by omega) (by omega)
    have e : Vf L wr ov ft_ day 3 = if L - 1 < 0 then 0 else L - 1 := rfl
    rw [e]
    simp (config := { maxSteps := 1000000 }) (disch := (first | omega | decide | assumption)) only [ltm_s, ok_n, rd_i, rd_j, fd_i, fd_j, wr_i, wr_j, fw_i, fw_j, ci_s, cj_s, cv_s, dv_n, dw_n, rt_1, rt_b, rt_20, rt_21, okb_0, okb_1, okb_b, nar_0, nar_1, nar_b, i_0, i_1, j_0, j_1, i_lit, j_lit, i_n, iI_add, iI_sub, iI_mul, iI_neg, jI_add, jI_sub, jI_mul, jI_neg, sh_1, an_1, xo_1, di_p, dj_p, i_64A, i_64, j_32, lq_ge, lq_lt, lq_le, lq_gt, lq_eq, i_lt, i_le, i_eq, j_eq, iI_A, jI_J, iI_b, iI_v, jI_v, ↓reduceIte, ite_true, ite_false, Int.reduceEq, Int.reduceLT, Int.reduceLE, Int.reduceAdd, Int.reduceSub, Int.reduceMul, Int.reduceNeg, not_true_eq_false, not_false_eq_true, h5, hm]
  · have hm := c_maxI hF hg (M := M) (v := ft_) (w := 0) (by omega) (by omega) (by omega) (by omega)
    have e : Vf L wr ov ft_ day 4 = if ft_ < 0 then 0 else ft_ := rfl
    rw [e]
    simp (config := { maxSteps := 1000000 }) (disch := (first | omega | decide | assumption)) only [ltm_s, ok_n, rd_i, rd_j, fd_i, fd_j, wr_i, wr_j, fw_i, fw_j, ci_s, cj_s, cv_s, dv_n, dw_n, rt_1, rt_b, rt_20, rt_21, okb_0, okb_1, okb_b, nar_0, nar_1, nar_b, i_0, i_1, j_0, j_1, i_lit, j_lit, i_n, iI_add, iI_sub, iI_mul, iI_neg, jI_add, jI_sub, jI_mul, jI_neg, sh_1, an_1, xo_1, di_p, dj_p, i_64A, i_64, j_32, lq_ge, lq_lt, lq_le, lq_gt, lq_eq, i_lt, i_le, i_eq, j_eq, iI_A, jI_J, iI_b, iI_v, jI_v, ↓reduceIte, ite_true, ite_false, Int.reduceEq, Int.reduceLT, Int.reduceLE, Int.reduceAdd, Int.reduceSub, Int.reduceMul, Int.reduceNeg, not_true_eq_false, not_false_eq_true, h7, hm]
  · have e : Vf L wr ov ft_ day 5 = day := rfl
    rw [e]
    simp (config := { maxSteps := 1000000 }) (disch := (first | omega | decide | assumption)) only [ltm_s, ok_n, rd_i, rd_j, fd_i, fd_j, wr_i, wr_j, fw_i, fw_j, ci_s, cj_s, cv_s, dv_n, dw_n, rt_1, rt_b, rt_20, rt_21, okb_0, okb_1, okb_b, nar_0, nar_1, nar_b, i_0, i_1, j_0, j_1, i_lit, j_lit, i_n, iI_add, iI_sub, iI_mul, iI_neg, jI_add, jI_sub, jI_mul, jI_neg, sh_1, an_1, xo_1, di_p, dj_p, i_64A, i_64, j_32, lq_ge, lq_lt, lq_le, lq_gt, lq_eq, i_lt, i_le, i_eq, j_eq, iI_A, jI_J, iI_b, iI_v, jI_v, ↓reduceIte, ite_true, ite_false, Int.reduceEq, Int.reduceLT, Int.reduceLE, Int.reduceAdd, Int.reduceSub, Int.reduceMul, Int.reduceNeg, not_true_eq_false, not_false_eq_true, h2]
theorem c_signOf (hF : F = am_F T0 g) (hg : GG g) {x : Int} (x1 : -2147483648 ≤ x) (x2 : x < 2147483648) : F 70 0 [.int (iI x)] [] M = some (some (.int (iI (if x = 0 then 0 else if x < 0 then -1 else 1))), M) := by
  refine s_Rule_signOf hF hg ?_
  by_cases q : x = 0
  · rw [if_pos q]
    simp (config := { maxSteps := 1000000 }) (disch := (first | omega | decide | assumption)) only [ltm_s, ok_n, rd_i, rd_j, fd_i, fd_j, wr_i, wr_j, fw_i, fw_j, ci_s, cj_s, cv_s, dv_n, dw_n, rt_1, rt_b, rt_20, rt_21, okb_0, okb_1, okb_b, nar_0, nar_1, nar_b, i_0, i_1, j_0, j_1, i_lit, j_lit, i_n, iI_add, iI_sub, iI_mul, iI_neg, jI_add, jI_sub, jI_mul, jI_neg, sh_1, an_1, xo_1, di_p, dj_p, i_64A, i_64, j_32, lq_ge, lq_lt, lq_le, lq_gt, lq_eq, i_lt, i_le, i_eq, j_eq, iI_A, jI_J, iI_b, iI_v, jI_v, ↓reduceIte, ite_true, ite_false, Int.reduceEq, Int.reduceLT, Int.reduceLE, Int.reduceAdd, Int.reduceSub, Int.reduceMul, Int.reduceNeg, not_true_eq_false, not_false_eq_true, eq_true q]
  · rw [if_neg q]
    by_cases q2 : x < 0
    · have q3 : ¬ 0 ≤ x := by omega
      rw [if_pos q2]
      simp (config := { maxSteps := 1000000 }) (disch := (first | omega | decide | assumption)) only [ltm_s, ok_n, rd_i, rd_j, fd_i, fd_j, wr_i, wr_j, fw_i, fw_j, ci_s, cj_s, cv_s, dv_n, dw_n, rt_1, rt_b, rt_20, rt_21, okb_0, okb_1, okb_b, nar_0, nar_1, nar_b, i_0, i_1, j_0, j_1, i_lit, j_lit, i_n, iI_add, iI_sub, iI_mul, iI_neg, jI_add, jI_sub, jI_mul, jI_neg, sh_1, an_1, xo_1, di_p, dj_p, i_64A, i_64, j_32, lq_ge, lq_lt, lq_le, lq_gt, lq_eq, i_lt, i_le, i_eq, j_eq, iI_A, jI_J, iI_b, iI_v, jI_v, ↓reduceIte, ite_true, ite_false, Int.reduceEq, Int.reduceLT, Int.reduceLE, Int.reduceAdd, Int.reduceSub, Int.reduceMul, Int.reduceNeg, not_true_eq_false, not_false_eq_true, q, q3]
    · have q3 : 0 ≤ x := by omega
      rw [if_neg q2]
      simp (config := { maxSteps := 1000000 }) (disch := (first | omega | decide | assumption)) only [ltm_s, ok_n, rd_i, rd_j, fd_i, fd_j, wr_i, wr_j, fw_i, fw_j, ci_s, cj_s, cv_s, dv_n, dw_n, rt_1, rt_b, rt_20, rt_21, okb_0, okb_1, okb_b, nar_0, nar_1, nar_b, i_0, i_1, j_0, j_1, i_lit, j_lit, i_n, iI_add, iI_sub, iI_mul, iI_neg, jI_add, jI_sub, jI_mul, jI_neg, sh_1, an_1, xo_1, di_p, dj_p, i_64A, i_64, j_32, lq_ge, lq_lt, lq_le, lq_gt, lq_eq, i_lt, i_le, i_eq, j_eq, iI_A, jI_J, iI_b, iI_v, jI_v, ↓reduceIte, ite_true, ite_false, Int.reduceEq, Int.reduceLT, Int.reduceLE, Int.reduceAdd, Int.reduceSub, Int.reduceMul, Int.reduceNeg, not_true_eq_false, not_false_eq_true, q, q3]
theorem c_applies_l (hF : F = am_F T0 g) (hg : GG g) {a : Nat} (ha : isEx g a) {r : Int} (r0 : 0 ≤ r) (r6 : r < 6) {V : Int → Int} (hV : ∀ f : Int, 0 ≤ f → f ≤ 5 → F 91 0 [.ref a, .int (iI f)] [] M = some (some (.int (iI (V f))), M)) (vb : ∀ f : Int, -1000000000 ≤ V f ∧ V f ≤ 1000000000) (hb : B16 M0 r) (e1 : ∀ z, A M (112 + 4 * r.toNat) z = A M0 (112 + 4 * r.toNat) z) (e2 : ∀ z, A M (112 + 4 * r.toNat + 1) z = A M0 (112 + 4 * r.toNat + 1) z) (e3 : ∀ z, A M (112 + 4 * r.toNat + 2) z = A M0 (112 + 4 * r.toNat + 2) z) (e4 : ∀ z, A M (112 + 4 * r.toNat + 3) z = A M0 (112 + 4 * r.toNat + 3) z) : ∀ n k : Nat, (k : Int) + n = A M0 254 r → F 196 2 [.ref (112 + 4 * r.toNat), .ref a, .int (iI k)] [] M = some (some (.int (iI (bI (∀ i : Int, (k : Int) ≤ i → i < A M0 254 r → tst V (A M0 255 (3 * r + i)))))), M) := by
  obtain ⟨b1, b2, b3, b4, b5⟩ := hb
  have b4' : A M (112 + 4 * r.toNat) 1 = A M0 254 r := by rw [e1]; exact b4
  intro n
  induction n with
  | zero =>
    intro k hk
    have u : A M0 254 r ≤ (k : Int) := by omega
    rw [bI_t (fun i i0 i1 => by omega)]
    refine s_Rule_appliesTo_2 hF hg (ru_ok hg r0 r6) ha ?_
    simp (config := { maxSteps := 1000000 }) (disch := (first | omega | decide | assumption)) only [ltm_s, ok_n, rd_i, rd_j, fd_i, fd_j, wr_i, wr_j, fw_i, fw_j, ci_s, cj_s, cv_s, dv_n, dw_n, rt_1, rt_b, rt_20, rt_21, okb_0, okb_1, okb_b, nar_0, nar_1, nar_b, i_0, i_1, j_0, j_1, i_lit, j_lit, i_n, iI_add, iI_sub, iI_mul, iI_neg, jI_add, jI_sub, jI_mul, jI_neg, sh_1, an_1, xo_1, di_p, dj_p, i_64A, i_64, j_32, lq_ge, lq_lt, lq_le, lq_gt, lq_eq, i_lt, i_le, i_eq, j_eq, iI_A, jI_J, iI_b, iI_v, jI_v, ↓reduceIte, ite_true, ite_false, Int.reduceEq, Int.reduceLT, Int.reduceLE, Int.reduceAdd, Int.reduceSub, Int.reduceMul, Int.reduceNeg, not_true_eq_false, not_false_eq_true, b4', u]
  | succ n ih =>
    intro k hk
    have u : ¬ A M0 254 r ≤ (k : Int) := by omega
    have hs : (k : Int) + 1 = ((k + 1 : Nat) : Int) := by omega
    obtain ⟨f, s, x, f1, s1, x1, t1, t2, t3, t4⟩ := b5 k (by omega) (by omega)
    rw [← e2] at t2
    rw [← e3] at t3
    rw [← e4] at t4
    have i1 := ih (k + 1) (by omega)
    have hv := hV f f1.1 f1.2
    have hvb := vb f
    have sg := c_signOf hF hg (M := M) (x := V f - x) (by omega) (by omega)
    have w1 : A M0 255 (3 * r + k) / 100000 = f := by omega
    have w2 : A M0 255 (3 * r + k) / 10000 - A M0 255 (3 * r + k) / 10000 / 10 * 10 = s := by omega
    have w3 : A M0 255 (3 * r + k) - A M0 255 (3 * r + k) / 10000 * 10000 = x := by omega
    have ht : tst V (A M0 255 (3 * r + k)) ↔ (if V f - x = 0 then (0 : Int) else if V f - x < 0 then -1 else 1) = (if s = 0 then 0 else if s = 1 then -1 else 1) := by
      unfold tst
      rw [w1, w2, w3]
      have hs3 : s = 0 ∨ s = 1 ∨ s = 2 := by omega
      rcases hs3 with q | q | q <;> rw [q] <;> (split <;> (try split) <;> omega)
    by_cases q : tst V (A M0 255 (3 * r + k))
    · have iff : (∀ i : Int, (k : Int) ≤ i → i < A M0 254 r → tst V (A M0 255 (3 * r + i))) ↔ (∀ i : Int, ((k + 1 : Nat) : Int) ≤ i → i < A M0 254 r → tst V (A M0 255 (3 * r + i))) := ⟨fun h i i0 i1 => h i (by omega) i1, fun h i i0 i1 => by
        by_cases z : i = k
        · rw [z]; exact q
        · exact h i (by omega) i1⟩
      rw [bI_cg iff]
      have hq := ht.mp q
      rw [hq] at sg
      refine s_Rule_appliesTo_2 hF hg (ru_ok hg r0 r6) ha ?_
      simp (config := { maxSteps := 1000000 }) (disch := (first | omega | decide | assumption)) only [ltm_s, ok_n, rd_i, rd_j, fd_i, fd_j, wr_i, wr_j, fw_i, fw_j, ci_s, cj_s, cv_s, dv_n, dw_n, rt_1, rt_b, rt_20, rt_21, okb_0, okb_1, okb_b, nar_0, nar_1, nar_b, i_0, i_1, j_0, j_1, i_lit, j_lit, i_n, iI_add, iI_sub, iI_mul, iI_neg, jI_add, jI_sub, jI_mul, jI_neg, sh_1, an_1, xo_1, di_p, dj_p, i_64A, i_64, j_32, lq_ge, lq_lt, lq_le, lq_gt, lq_eq, i_lt, i_le, i_eq, j_eq, iI_A, jI_J, iI_b, iI_v, jI_v, ↓reduceIte, ite_true, ite_false, Int.reduceEq, Int.reduceLT, Int.reduceLE, Int.reduceAdd, Int.reduceSub, Int.reduceMul, Int.reduceNeg, not_true_eq_false, not_false_eq_true, b4', u, t2, hv, t4, sg, t3, hs, i1]
    · rw [bI_f (fun h => q (h k (by omega) (by omega)))]
      have hq := fun z => q (ht.mpr z)
      have r1 : -1 ≤ (if V f - x = 0 then (0 : Int) else if V f - x < 0 then -1 else 1) ∧ (if V f - x = 0 then (0 : Int) else if V f - x < 0 then -1 else 1) ≤ 1 := by
        split <;> (try split) <;> omega
      have r2 : -1 ≤ (if s = 0 then (0 : Int) else if s = 1 then -1 else 1) ∧ (if s = 0 then (0 : Int) else if s = 1 then -1 else 1) ≤ 1 := by
        split <;> (try split) <;> omega
      obtain ⟨y, ey⟩ : ∃ y : Int, y = (if V f - x = 0 then (0 : Int) else if V f - x < 0 then -1 else 1) := ⟨_, rfl⟩
      obtain ⟨z, ez⟩ : ∃ z : Int, z = (if s = 0 then (0 : Int) else if s = 1 then -1 else 1) := ⟨_, rfl⟩
      rw [← ey] at sg hq r1
      rw [← ez] at t3 hq r2
      have hq2 : ¬ y = z := hq
      refine s_Rule_appliesTo_2 hF hg (ru_ok hg r0 r6) ha ?_
      simp (config := { maxSteps := 1000000 }) (disch := (first | omega | decide | assumption)) only [ltm_s, ok_n, rd_i, rd_j, fd_i, fd_j, wr_i, wr_j, fw_i, fw_j, ci_s, cj_s, cv_s, dv_n, dw_n, rt_1, rt_b, rt_20, rt_21, okb_0, okb_1, okb_b, nar_0, nar_1, nar_b, i_0, i_1, j_0, j_1, i_lit, j_lit, i_n, iI_add, iI_sub, iI_mul, iI_neg, jI_add, jI_sub, jI_mul, jI_neg, sh_1, an_1, xo_1, di_p, dj_p, i_64A, i_64, j_32, lq_ge, lq_lt, lq_le, lq_gt, lq_eq, i_lt, i_le, i_eq, j_eq, iI_A, jI_J, iI_b, iI_v, jI_v, ↓reduceIte, ite_true, ite_false, Int.reduceEq, Int.reduceLT, Int.reduceLE, Int.reduceAdd, Int.reduceSub, Int.reduceMul, Int.reduceNeg, not_true_eq_false, not_false_eq_true, b4', u, t2, hv, t4, sg, t3, hq2]
/-- what a rule takes -/
noncomputable def ddr (M0 : am_M) (V : Int → Int) (r : Int) : Int := bI (∀ i : Int, 0 ≤ i → i < A M0 254 r → tst V (A M0 255 (3 * r + i))) * A M0 253 r
noncomputable def tot (M0 : am_M) (V : Int → Int) : Nat → Int
  | 0 => 0
  | n + 1 => tot M0 V n + ddr M0 V n
theorem tot_r (h16 : I16 M0) {V : Int → Int} : ∀ n : Nat, (n : Int) ≤ A M0 219 45 → 0 ≤ tot M0 V n ∧ tot M0 V n ≤ 9999 * n
  | 0, _ => ⟨Int.le_refl _, Int.le_refl _⟩
  | n + 1, h => by
    have ih := tot_r h16 (V := V) n (by omega)
    have b := (h16.2.2 n (by omega) (by omega)).1
    have e : tot M0 V (n + 1) = tot M0 V n + ddr M0 V n := rfl
    have d : 0 ≤ ddr M0 V n ∧ ddr M0 V n ≤ 9999 := by
      unfold ddr
      rcases bI_01 (P := ∀ i : Int, 0 ≤ i → i < A M0 254 (n : Int) → tst V (A M0 255 (3 * (n : Int) + i))) with q | q <;> rw [q] <;> omega
    omega
/-- the mark that is left -/
noncomputable def mkx (M0 : am_M) (V : Int → Int) : Int := if 100 - tot M0 V (A M0 219 45).toNat < 0 then 0 else 100 - tot M0 V (A M0 219 45).toNat
/-- the rules' rows, as they were -/
def RuA (M0 M : am_M) : Prop := A M 0 13 = A M0 0 13 ∧ ∀ a : Nat, 112 ≤ a → a < 137 → ∀ z, A M a z = A M0 a z
theorem c_rules_l (hF : F = am_F T0 g) (hg : GG g) {a : Nat} (ha : isEx g a) (h16 : I16 M0) (hR : RuA M0 M) {V : Int → Int} {day : Int} (h18 : A M 18 0 = day) (hV : ∀ f : Int, 0 ≤ f → f ≤ 5 → F 91 0 [.ref a, .int (iI f)] [] M = some (some (.int (iI (V f))), M)) (vb : ∀ f : Int, -1000000000 ≤ V f ∧ V f ≤ 1000000000) (ha18 : ¬ 18 = a) : ∀ n k : Nat, (k : Int) + n = A M0 219 45 → F 243 86 [.ref 0, .ref a, .int (iI (100 - tot M0 V k)), .int (iI k)] [] M = some (none, W_ (W_ M a 1 (mkx M0 V)) a 2 day) := by
  have h6 := h16.1
  have e13 : A M 0 13 = A M0 219 45 := by rw [hR.1]; exact h16.2.1
  intro n
  induction n with
  | zero =>
    intro k hk
    have u : A M0 219 45 ≤ (k : Int) := by omega
    have ek : (A M0 219 45).toNat = k := by omega
    have tr := tot_r h16 (V := V) k (by omega)
    have hm := c_maxI hF hg (M := M) (v := 100 - tot M0 V k) (w := 0) (by omega) (by omega) (by omega) (by omega)
    have em : (if 100 - tot M0 V k < 0 then 0 else 100 - tot M0 V k) = mkx M0 V := by unfold mkx; rw [ek]
    rw [em] at hm
    have h18' : A (W_ M a 1 (mkx M0 V)) 18 0 = day := by rw [A_Wn ha18]; exact h18
    refine s_RunSayer_markExam_86 hF hg ha ?_
    simp (config := { maxSteps := 1000000 }) (disch := (first | omega | decide | assumption)) only [ltm_s, ok_n, rd_i, rd_j, fd_i, fd_j, wr_i, wr_j, fw_i, fw_j, ci_s, cj_s, cv_s, dv_n, dw_n, rt_1, rt_b, rt_20, rt_21, okb_0, okb_1, okb_b, nar_0, nar_1, nar_b, i_0, i_1, j_0, j_1, i_lit, j_lit, i_n, iI_add, iI_sub, iI_mul, iI_neg, jI_add, jI_sub, jI_mul, jI_neg, sh_1, an_1, xo_1, di_p, dj_p, i_64A, i_64, j_32, lq_ge, lq_lt, lq_le, lq_gt, lq_eq, i_lt, i_le, i_eq, j_eq, iI_A, jI_J, iI_b, iI_v, jI_v, ↓reduceIte, ite_true, ite_false, Int.reduceEq, Int.reduceLT, Int.reduceLE, Int.reduceAdd, Int.reduceSub, Int.reduceMul, Int.reduceNeg, not_true_eq_false, not_false_eq_true, e13, u, hm, h18']
  | succ n ih =>
    intro k hk
    have u : ¬ A M0 219 45 ≤ (k : Int) := by omega
    have hs : (k : Int) + 1 = ((k + 1 : Nat) : Int) := by omega
    have k6 : (k : Int) < 6 := by omega
    have hb := h16.2.2 k (by omega) (by omega)
    have ap := c_applies_l hF hg ha (r := k) (by omega) k6 hV vb hb (hR.2 _ (by omega) (by omega)) (hR.2 _ (by omega) (by omega)) (hR.2 _ (by omega) (by omega)) (hR.2 _ (by omega) (by omega)) (A M0 254 k).toNat 0 (by have := hb.2.2.1; omega)
    have ap2 : F 196 0 [.ref (112 + 4 * (k : Int).toNat), .ref a] [] M = some (some (.int (iI (bI (∀ i : Int, 0 ≤ i → i < A M0 254 (k : Int) → tst V (A M0 255 (3 * (k : Int) + i)))))), M) := by
      refine s_Rule_appliesTo hF hg (ru_ok hg (by omega) k6) ha ?_
      exact ap
    have i1 := ih (k + 1) (by omega)
    have et : tot M0 V (k + 1) = tot M0 V k + ddr M0 V k := rfl
    have tk : A M (112 + 4 * (k : Int).toNat) 0 = A M0 253 k := by rw [hR.2 _ (by omega) (by omega)]; exact hb.2.1
    refine s_RunSayer_markExam_86 hF hg ha ?_
    by_cases q : ∀ i : Int, 0 ≤ i → i < A M0 254 (k : Int) → tst V (A M0 255 (3 * (k : Int) + i))
    · rw [bI_t q] at ap2
      have ed : ddr M0 V k = A M0 253 k := by unfold ddr; rw [bI_t q]; omega
      rw [et, ed, show 100 - (tot M0 V k + A M0 253 k) = 100 - tot M0 V k - A M0 253 k by omega] at i1
      simp (config := { maxSteps := 1000000 }) (disch := (first | omega | decide | assumption)) only [ltm_s, ok_n, rd_i, rd_j, fd_i, fd_j, wr_i, wr_j, fw_i, fw_j, ci_s, cj_s, cv_s, dv_n, dw_n, rt_1, rt_b, rt_20, rt_21, okb_0, okb_1, okb_b, nar_0, nar_1, nar_b, i_0, i_1, j_0, j_1, i_lit, j_lit, i_n, iI_add, iI_sub, iI_mul, iI_neg, jI_add, jI_sub, jI_mul, jI_neg, sh_1, an_1, xo_1, di_p, dj_p, i_64A, i_64, j_32, lq_ge, lq_lt, lq_le, lq_gt, lq_eq, i_lt, i_le, i_eq, j_eq, iI_A, jI_J, iI_b, iI_v, jI_v, ↓reduceIte, ite_true, ite_false, Int.reduceEq, Int.reduceLT, Int.reduceLE, Int.reduceAdd, Int.reduceSub, Int.reduceMul, Int.reduceNeg, not_true_eq_false, not_false_eq_true, iI_n, rdn_i, rdn_j, wrn_i, wrn_j, e13, u, ap2, tk, hs, i1]
    · rw [bI_f q] at ap2
      have ed : ddr M0 V k = 0 := by unfold ddr; rw [bI_f q]; omega
      rw [et, ed, Int.add_zero] at i1
      simp (config := { maxSteps := 1000000 }) (disch := (first | omega | decide | assumption)) only [ltm_s, ok_n, rd_i, rd_j, fd_i, fd_j, wr_i, wr_j, fw_i, fw_j, ci_s, cj_s, cv_s, dv_n, dw_n, rt_1, rt_b, rt_20, rt_21, okb_0, okb_1, okb_b, nar_0, nar_1, nar_b, i_0, i_1, j_0, j_1, i_lit, j_lit, i_n, iI_add, iI_sub, iI_mul, iI_neg, jI_add, jI_sub, jI_mul, jI_neg, sh_1, an_1, xo_1, di_p, dj_p, i_64A, i_64, j_32, lq_ge, lq_lt, lq_le, lq_gt, lq_eq, i_lt, i_le, i_eq, j_eq, iI_A, jI_J, iI_b, iI_v, jI_v, ↓reduceIte, ite_true, ite_false, Int.reduceEq, Int.reduceLT, Int.reduceLE, Int.reduceAdd, Int.reduceSub, Int.reduceMul, Int.reduceNeg, not_true_eq_false, not_false_eq_true, iI_n, rdn_i, rdn_j, wrn_i, wrn_j, e13, u, ap2, hs, i1]
theorem m_rule_l (hF : F = am_F T0 g) (hg : GG g) (h16 : I16 M0) {V : Int → Int} {k r mark : Int} (r0 : 0 ≤ r) (r1 : r < A M0 219 45) (e254 : A M 254 r = A M0 254 r) (e253 : A M 253 r = A M0 253 r) (e255 : ∀ z, A M 255 z = A M0 255 z) (hV : ∀ f : Int, 0 ≤ f → f ≤ 5 → J M 276 f = V f) (vb : ∀ f : Int, -1000000000 ≤ V f ∧ V f ≤ 1000000000) {R : am_R} : ∀ (n i : Nat) (h : Int), (h = 0 ∨ h = 1) → (i : Int) + n = A M0 254 r → F 266 222 [.ref 219, .int (iI k), .int (iI (mark - bI (h = 1 ∧ ∀ j : Int, (i : Int) ≤ j → j < A M0 254 r → tst V (A M0 255 (3 * r + j))) * A M0 253 r)), .int (iI (r + 1))] [] M = some R → F 266 237 [.ref 219, .int (iI k), .int (iI mark), .int (iI r), .int (iI h), .int (iI i)] [] M = some R := by
  have h6 := h16.1
  obtain ⟨b1, b2, b3, b4, b5⟩ := h16.2.2 r r0 r1
  intro n
  induction n with
  | zero =>
    intro i h hh hi hR
    have u : A M0 254 r ≤ (i : Int) := by omega
    refine s_Model_marks_237 hF hg ?_
    rcases hh with q | q
    · rw [bI_f (fun z => by omega), Int.zero_mul] at hR
      simp (config := { maxSteps := 1000000 }) (disch := (first | omega | decide | assumption)) only [ltm_s, ok_n, rd_i, rd_j, fd_i, fd_j, wr_i, wr_j, fw_i, fw_j, ci_s, cj_s, cv_s, dv_n, dw_n, rt_1, rt_b, rt_20, rt_21, okb_0, okb_1, okb_b, nar_0, nar_1, nar_b, i_0, i_1, j_0, j_1, i_lit, j_lit, i_n, iI_add, iI_sub, iI_mul, iI_neg, jI_add, jI_sub, jI_mul, jI_neg, sh_1, an_1, xo_1, di_p, dj_p, i_64A, i_64, j_32, lq_ge, lq_lt, lq_le, lq_gt, lq_eq, i_lt, i_le, i_eq, j_eq, iI_A, jI_J, iI_b, iI_v, jI_v, ↓reduceIte, ite_true, ite_false, Int.reduceEq, Int.reduceLT, Int.reduceLE, Int.reduceAdd, Int.reduceSub, Int.reduceMul, Int.reduceNeg, not_true_eq_false, not_false_eq_true, e254, u, eq_true q]
      exact hR
    · rw [bI_t ⟨q, fun j j0 j1 => by omega⟩, Int.one_mul] at hR
      have q' : ¬ h = 0 := by omega
      simp (config := { maxSteps := 1000000 }) (disch := (first | omega | decide | assumption)) only [ltm_s, ok_n, rd_i, rd_j, fd_i, fd_j, wr_i, wr_j, fw_i, fw_j, ci_s, cj_s, cv_s, dv_n, dw_n, rt_1, rt_b, rt_20, rt_21, okb_0, okb_1, okb_b, nar_0, nar_1, nar_b, i_0, i_1, j_0, j_1, i_lit, j_lit, i_n, iI_add, iI_sub, iI_mul, iI_neg, jI_add, jI_sub, jI_mul, jI_neg, sh_1, an_1, xo_1, di_p, dj_p, i_64A, i_64, j_32, lq_ge, lq_lt, lq_le, lq_gt, lq_eq, i_lt, i_le, i_eq, j_eq, iI_A, jI_J, iI_b, iI_v, jI_v, ↓reduceIte, ite_true, ite_false, Int.reduceEq, Int.reduceLT, Int.reduceLE, Int.reduceAdd, Int.reduceSub, Int.reduceMul, Int.reduceNeg, not_true_eq_false, not_false_eq_true, e254, u, q', e253]
      exact hR
  | succ n ih =>
    intro i h hh hi hR
    have u : ¬ A M0 254 r ≤ (i : Int) := by omega
    have hs : (i : Int) + 1 = ((i + 1 : Nat) : Int) := by omega
    obtain ⟨f, s, x, f1, s1, x1, t1, -⟩ := b5 i (by omega) (by omega)
    have w0 : 0 ≤ A M0 255 (3 * r + i) ∧ A M0 255 (3 * r + i) < 1000000 := by omega
    have w1 : A M0 255 (3 * r + i) / 100000 = f := by omega
    have w2 : A M0 255 (3 * r + i) / 10000 - A M0 255 (3 * r + i) / 10000 / 10 * 10 = s := by omega
    have w3 : A M0 255 (3 * r + i) - A M0 255 (3 * r + i) / 10000 * 10000 = x := by omega
    have hv := hV f f1.1 f1.2
    have hvb := vb f
    have ht : tst V (A M0 255 (3 * r + i)) ↔ (s = 0 → V f = x) ∧ (s = 1 → V f < x) ∧ (¬ s = 0 → ¬ s = 1 → x < V f) := by
      unfold tst
      rw [w1, w2, w3]
    refine s_Model_marks_237 hF hg ?_
    have hok : -2147483648 ≤ f ∧ f < 2147483648 := by omega
    rcases hh with q | q
    · have hR' : F 266 222 [.ref 219, .int (iI k), .int (iI (mark - bI ((0 : Int) = 1 ∧ ∀ j : Int, ((i + 1 : Nat) : Int) ≤ j → j < A M0 254 r → tst V (A M0 255 (3 * r + j))) * A M0 253 r)), .int (iI (r + 1))] [] M = some R := by
        rw [bI_f (fun z => by omega)] at hR ⊢
        exact hR
      have i1 := ih (i + 1) 0 (Or.inl rfl) (by omega) hR'
      simp (config := { maxSteps := 1000000 }) (disch := (first | omega | decide | assumption)) only [ltm_s, ok_n, rd_i, rd_j, fd_i, fd_j, wr_i, wr_j, fw_i, fw_j, ci_s, cj_s, cv_s, dv_n, dw_n, rt_1, rt_b, rt_20, rt_21, okb_0, okb_1, okb_b, nar_0, nar_1, nar_b, i_0, i_1, j_0, j_1, i_lit, j_lit, i_n, iI_add, iI_sub, iI_mul, iI_neg, jI_add, jI_sub, jI_mul, jI_neg, sh_1, an_1, xo_1, di_p, dj_p, i_64A, i_64, j_32, lq_ge, lq_lt, lq_le, lq_gt, lq_eq, i_lt, i_le, i_eq, j_eq, iI_A, jI_J, iI_b, iI_v, jI_v, ↓reduceIte, ite_true, ite_false, Int.reduceEq, Int.reduceLT, Int.reduceLE, Int.reduceAdd, Int.reduceSub, Int.reduceMul, Int.reduceNeg, not_true_eq_false, not_false_eq_true, e254, u, e255, w1, eq_true q, hs]
      exact i1
    · have q' : ¬ h = 0 := by omega
      by_cases qt : tst V (A M0 255 (3 * r + i))
      · have hR' : F 266 222 [.ref 219, .int (iI k), .int (iI (mark - bI ((1 : Int) = 1 ∧ ∀ j : Int, ((i + 1 : Nat) : Int) ≤ j → j < A M0 254 r → tst V (A M0 255 (3 * r + j))) * A M0 253 r)), .int (iI (r + 1))] [] M = some R := by
          rw [bI_cg (show ((1 : Int) = 1 ∧ ∀ j : Int, ((i + 1 : Nat) : Int) ≤ j → j < A M0 254 r → tst V (A M0 255 (3 * r + j))) ↔ (h = 1 ∧ ∀ j : Int, (i : Int) ≤ j → j < A M0 254 r → tst V (A M0 255 (3 * r + j))) from ⟨fun ⟨_, z⟩ => ⟨q, fun j j0 j1 => by
            by_cases y : j = i
            · rw [y]; exact qt
            · exact z j (by omega) j1⟩, fun ⟨_, z⟩ => ⟨rfl, fun j j0 j1 => z j (by omega) j1⟩⟩)]
          exact hR
        have i1 := ih (i + 1) 1 (Or.inr rfl) (by omega) hR'
        have h3 := ht.mp qt
        by_cases z0 : s = 0
        · have y := h3.1 z0
          simp (config := { maxSteps := 1000000 }) (disch := (first | omega | decide | assumption)) only [ltm_s, ok_n, rd_i, rd_j, fd_i, fd_j, wr_i, wr_j, fw_i, fw_j, ci_s, cj_s, cv_s, dv_n, dw_n, rt_1, rt_b, rt_20, rt_21, okb_0, okb_1, okb_b, nar_0, nar_1, nar_b, i_0, i_1, j_0, j_1, i_lit, j_lit, i_n, iI_add, iI_sub, iI_mul, iI_neg, jI_add, jI_sub, jI_mul, jI_neg, sh_1, an_1, xo_1, di_p, dj_p, i_64A, i_64, j_32, lq_ge, lq_lt, lq_le, lq_gt, lq_eq, i_lt, i_le, i_eq, j_eq, iI_A, jI_J, iI_b, iI_v, jI_v, ↓reduceIte, ite_true, ite_false, Int.reduceEq, Int.reduceLT, Int.reduceLE, Int.reduceAdd, Int.reduceSub, Int.reduceMul, Int.reduceNeg, not_true_eq_false, not_false_eq_true, e254, u, e255, w1, q', w2, w3, eq_true z0, hv, eq_true y, hs]
          exact i1
        · by_cases z1 : s = 1
          · have y := h3.2.1 z1
            have y' : ¬ x ≤ V f := by omega
            simp (config := { maxSteps := 1000000 }) (disch := (first | omega | decide | assumption)) only [ltm_s, ok_n, rd_i, rd_j, fd_i, fd_j, wr_i, wr_j, fw_i, fw_j, ci_s, cj_s, cv_s, dv_n, dw_n, rt_1, rt_b, rt_20, rt_21, okb_0, okb_1, okb_b, nar_0, nar_1, nar_b, i_0, i_1, j_0, j_1, i_lit, j_lit, i_n, iI_add, iI_sub, iI_mul, iI_neg, jI_add, jI_sub, jI_mul, jI_neg, sh_1, an_1, xo_1, di_p, dj_p, i_64A, i_64, j_32, lq_ge, lq_lt, lq_le, lq_gt, lq_eq, i_lt, i_le, i_eq, j_eq, iI_A, jI_J, iI_b, iI_v, jI_v, ↓reduceIte, ite_true, ite_false, Int.reduceEq, Int.reduceLT, Int.reduceLE, Int.reduceAdd, Int.reduceSub, Int.reduceMul, Int.reduceNeg, not_true_eq_false, not_false_eq_true, e254, u, e255, w1, q', w2, w3, z0, eq_true z1, hv, y', hs]
            exact i1
          · have y := h3.2.2 z0 z1
            have y' : ¬ V f ≤ x := by omega
            simp (config := { maxSteps := 1000000 }) (disch := (first | omega | decide | assumption)) only [ltm_s, ok_n, rd_i, rd_j, fd_i, fd_j, wr_i, wr_j, fw_i, fw_j, ci_s, cj_s, cv_s, dv_n, dw_n, rt_1, rt_b, rt_20, rt_21, okb_0, okb_1, okb_b, nar_0, nar_1, nar_b, i_0, i_1, j_0, j_1, i_lit, j_lit, i_n, iI_add, iI_sub, iI_mul, iI_neg, jI_add, jI_sub, jI_mul, jI_neg, sh_1, an_1, xo_1, di_p, dj_p, i_64A, i_64, j_32, lq_ge, lq_lt, lq_le, lq_gt, lq_eq, i_lt, i_le, i_eq, j_eq, iI_A, jI_J, iI_b, iI_v, jI_v, ↓reduceIte, ite_true, ite_false, Int.reduceEq, Int.reduceLT, Int.reduceLE, Int.reduceAdd, Int.reduceSub, Int.reduceMul, Int.reduceNeg, not_true_eq_false, not_false_eq_true, e254, u, e255, w1, q', w2, w3, z0, z1, hv, y', hs]
            exact i1
      · have hR' : F 266 222 [.ref 219, .int (iI k), .int (iI (mark - bI ((0 : Int) = 1 ∧ ∀ j : Int, ((i + 1 : Nat) : Int) ≤ j → j < A M0 254 r → tst V (A M0 255 (3 * r + j))) * A M0 253 r)), .int (iI (r + 1))] [] M = some R := by
          rw [bI_f (fun z => by omega)]
          rw [bI_f (fun z => qt (z.2 i (by omega) (by omega)))] at hR
          exact hR
        have i1 := ih (i + 1) 0 (Or.inl rfl) (by omega) hR'
        by_cases z0 : s = 0
        · have y : ¬ V f = x := fun y => qt (ht.mpr ⟨fun _ => y, fun z => by omega, fun z => absurd z0 z⟩)
          simp (config := { maxSteps := 1000000 }) (disch := (first | omega | decide | assumption)) only [ltm_s, ok_n, rd_i, rd_j, fd_i, fd_j, wr_i, wr_j, fw_i, fw_j, ci_s, cj_s, cv_s, dv_n, dw_n, rt_1, rt_b, rt_20, rt_21, okb_0, okb_1, okb_b, nar_0, nar_1, nar_b, i_0, i_1, j_0, j_1, i_lit, j_lit, i_n, iI_add, iI_sub, iI_mul, iI_neg, jI_add, jI_sub, jI_mul, jI_neg, sh_1, an_1, xo_1, di_p, dj_p, i_64A, i_64, j_32, lq_ge, lq_lt, lq_le, lq_gt, lq_eq, i_lt, i_le, i_eq, j_eq, iI_A, jI_J, iI_b, iI_v, jI_v, ↓reduceIte, ite_true, ite_false, Int.reduceEq, Int.reduceLT, Int.reduceLE, Int.reduceAdd, Int.reduceSub, Int.reduceMul, Int.reduceNeg, not_true_eq_false, not_false_eq_true, e254, u, e255, w1, q', w2, w3, eq_true z0, hv, y, hs]
          exact i1
        · by_cases z1 : s = 1
          · have y : x ≤ V f := by
              by_cases y : V f < x
              · exact absurd (ht.mpr ⟨fun z => absurd z z0, fun _ => y, fun _ z => absurd z1 z⟩) qt
              · omega
            simp (config := { maxSteps := 1000000 }) (disch := (first | omega | decide | assumption)) only [ltm_s, ok_n, rd_i, rd_j, fd_i, fd_j, wr_i, wr_j, fw_i, fw_j, ci_s, cj_s, cv_s, dv_n, dw_n, rt_1, rt_b, rt_20, rt_21, okb_0, okb_1, okb_b, nar_0, nar_1, nar_b, i_0, i_1, j_0, j_1, i_lit, j_lit, i_n, iI_add, iI_sub, iI_mul, iI_neg, jI_add, jI_sub, jI_mul, jI_neg, sh_1, an_1, xo_1, di_p, dj_p, i_64A, i_64, j_32, lq_ge, lq_lt, lq_le, lq_gt, lq_eq, i_lt, i_le, i_eq, j_eq, iI_A, jI_J, iI_b, iI_v, jI_v, ↓reduceIte, ite_true, ite_false, Int.reduceEq, Int.reduceLT, Int.reduceLE, Int.reduceAdd, Int.reduceSub, Int.reduceMul, Int.reduceNeg, not_true_eq_false, not_false_eq_true, e254, u, e255, w1, q', w2, w3, z0, eq_true z1, hv, y, hs]
            exact i1
          · have y : V f ≤ x := by
              by_cases y : x < V f
              · exact absurd (ht.mpr ⟨fun z => absurd z z0, fun z => absurd z z1, fun _ _ => y⟩) qt
              · omega
            simp (config := { maxSteps := 1000000 }) (disch := (first | omega | decide | assumption)) only [ltm_s, ok_n, rd_i, rd_j, fd_i, fd_j, wr_i, wr_j, fw_i, fw_j, ci_s, cj_s, cv_s, dv_n, dw_n, rt_1, rt_b, rt_20, rt_21, okb_0, okb_1, okb_b, nar_0, nar_1, nar_b, i_0, i_1, j_0, j_1, i_lit, j_lit, i_n, iI_add, iI_sub, iI_mul, iI_neg, jI_add, jI_sub, jI_mul, jI_neg, sh_1, an_1, xo_1, di_p, dj_p, i_64A, i_64, j_32, lq_ge, lq_lt, lq_le, lq_gt, lq_eq, i_lt, i_le, i_eq, j_eq, iI_A, jI_J, iI_b, iI_v, jI_v, ↓reduceIte, ite_true, ite_false, Int.reduceEq, Int.reduceLT, Int.reduceLE, Int.reduceAdd, Int.reduceSub, Int.reduceMul, Int.reduceNeg, not_true_eq_false, not_false_eq_true, e254, u, e255, w1, q', w2, w3, z0, z1, hv, y, hs]
            exact i1
end Ru
