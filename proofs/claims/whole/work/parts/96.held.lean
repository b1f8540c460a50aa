/-! WHO HOLDS WHAT, by both -/
theorem cn_bij {P : Int → Prop} {o : Int → Int} {N : Nat} : ∀ n : Nat, (∀ l : Int, 0 ≤ l → l < (n : Int) → 0 ≤ o l ∧ o l < (N : Int)) → (∀ i j : Int, 0 ≤ i → i < j → j < (n : Int) → ¬ o i = o j) → cn (fun l => P (o l)) n = cn (fun t => (∃ l : Int, 0 ≤ l ∧ l < (n : Int) ∧ o l = t) ∧ P t) N := by
  intro n
  induction n with
  | zero =>
    intro _ _
    have h := cn_no (C := fun t => (∃ l : Int, 0 ≤ l ∧ l < ((0 : Nat) : Int) ∧ o l = t) ∧ P t) (m := 0) (n := N) (Nat.zero_le _) (fun k _ _ ⟨⟨l, h0, h1, _⟩, _⟩ => by omega)
    rw [h]; rfl
  | succ n ih =>
    intro hr hi
    have ih' := ih (fun l l0 l1 => hr l l0 (by omega)) (fun i j i0 ij j1 => hi i j i0 ij (by omega))
    have hn := hr n (by omega) (by omega)
    show cn (fun l => P (o l)) n + bI (P (o n)) = _
    rw [ih']
    by_cases q : P (o n)
    · rw [bI_t q]
      have hx : ¬ ((∃ l : Int, 0 ≤ l ∧ l < (n : Int) ∧ o l = o n) ∧ P (o n)) := fun ⟨⟨l, l0, l1, e⟩, _⟩ => hi l n l0 l1 (by omega) e
      rw [← cn_add (C := fun t => (∃ l : Int, 0 ≤ l ∧ l < (n : Int) ∧ o l = t) ∧ P t) hx (n := N) hn.1 hn.2]
      refine cn_cg fun k k0 k1 => ⟨?_, ?_⟩
      · rintro (⟨⟨l, l0, l1, e⟩, p⟩ | e)
        · exact ⟨⟨l, l0, by omega, e⟩, p⟩
        · rw [e]; exact ⟨⟨n, by omega, by omega, rfl⟩, q⟩
      · rintro ⟨⟨l, l0, l1, e⟩, p⟩
        by_cases p2 : l = n
        · exact Or.inr (by rw [← e, p2])
        · exact Or.inl ⟨⟨l, l0, by omega, e⟩, p⟩
    · rw [bI_f q, Int.add_zero]
      refine cn_cg fun k k0 k1 => ⟨?_, ?_⟩
      · rintro ⟨⟨l, l0, l1, e⟩, p⟩
        exact ⟨⟨l, l0, by omega, e⟩, p⟩
      · rintro ⟨⟨l, l0, l1, e⟩, p⟩
        by_cases p2 : l = n
        · exact absurd (by rw [p2] at e; rw [e]; exact p) q
        · exact ⟨⟨l, l0, by omega, e⟩, p⟩
/-- the link with the number t is held -/
def hl (M : am_M) (p t day : Int) : Prop := 0 < A M 251 (6400 * p + t) ∧ A M 252 (6400 * p + t) ≤ day ∧ day ≤ A M 252 (6400 * p + t) + sl (A M 250 p) (A M 251 (6400 * p + t) - 1)
section Hd
variable {M0 M M' : am_M} {g : am_G} {F : am_FT}
theorem hl_hld {p e f day : Int} : hl M p (80 * e + f) day ↔ hld M p e f day := by
  unfold hl hld
  rw [show 6400 * p + (80 * e + f) = 6400 * p + 80 * e + f by omega]
theorem pu_ok (hg : GG g) {p : Int} (p0 : 0 ≤ p) (p3 : p < 4) : isPu g (72 + 5 * p.toNat) := by
  have : p = 0 ∨ p = 1 ∨ p = 2 ∨ p = 3 := by omega
  rcases this with rfl | rfl | rfl | rfl
  · exact ⟨hg.1 72 _ (by decide +kernel), hg.2.1 72 1 _ (by decide +kernel), hg.1 73 _ (by decide +kernel), hg.2.1 72 2 _ (by decide +kernel), hg.1 74 _ (by decide +kernel)⟩
  · exact ⟨hg.1 77 _ (by decide +kernel), hg.2.1 77 1 _ (by decide +kernel), hg.1 78 _ (by decide +kernel), hg.2.1 77 2 _ (by decide +kernel), hg.1 79 _ (by decide +kernel)⟩
  · exact ⟨hg.1 82 _ (by decide +kernel), hg.2.1 82 1 _ (by decide +kernel), hg.1 83 _ (by decide +kernel), hg.2.1 82 2 _ (by decide +kernel), hg.1 84 _ (by decide +kernel)⟩
  · exact ⟨hg.1 87 _ (by decide +kernel), hg.2.1 87 1 _ (by decide +kernel), hg.1 88 _ (by decide +kernel), hg.2.1 87 2 _ (by decide +kernel), hg.1 89 _ (by decide +kernel)⟩
theorem pu_ag {p z : Int} (hA : Ag M0 M) (p0 : 0 ≤ p) (p3 : p < 4) : A M (72 + 5 * p.toNat) z = A M0 (72 + 5 * p.toNat) z ∧ A M (72 + 5 * p.toNat + 1) z = A M0 (72 + 5 * p.toNat + 1) z ∧ A M (72 + 5 * p.toNat + 2) z = A M0 (72 + 5 * p.toNat + 2) z := by
  have : p = 0 ∨ p = 1 ∨ p = 2 ∨ p = 3 := by omega
  rcases this with rfl | rfl | rfl | rfl
  · exact ⟨agA hA (a := 72) rfl, agA hA (a := 73) rfl, agA hA (a := 74) rfl⟩
  · exact ⟨agA hA (a := 77) rfl, agA hA (a := 78) rfl, agA hA (a := 79) rfl⟩
  · exact ⟨agA hA (a := 82) rfl, agA hA (a := 83) rfl, agA hA (a := 84) rfl⟩
  · exact ⟨agA hA (a := 87) rfl, agA hA (a := 88) rfl, agA hA (a := 89) rfl⟩
/-- the class's rows of a pupil and the number of links are those of M0 -/
def PuA (M0 M : am_M) (p : Int) : Prop := A M 42 2 = A M0 42 2 ∧ ∀ z : Int, A M (72 + 5 * p.toNat) z = A M0 (72 + 5 * p.toNat) z ∧ A M (72 + 5 * p.toNat + 1) z = A M0 (72 + 5 * p.toNat + 1) z ∧ A M (72 + 5 * p.toNat + 2) z = A M0 (72 + 5 * p.toNat + 2) z
theorem Ag.pu {p : Int} (hA : Ag M0 M) (p0 : 0 ≤ p) (p3 : p < 4) : PuA M0 M p := ⟨ag hA rfl, fun _ => pu_ag hA p0 p3⟩
theorem c_minI (hF : F = am_F T0 g) (hg : GG g) {v w : Int} (v1 : -2147483648 ≤ v) (v2 : v < 2147483648) (w1 : -2147483648 ≤ w) (w2 : w < 2147483648) : F 25 0 [.int (iI v), .int (iI w)] [] M = some (some (.int (iI (if w < v then w else v))), M) := by
  refine s_JMath_min_III hF hg ?_
  by_cases q : w < v
  · rw [if_pos q]
    simp (config := { maxSteps := 1000000 }) (disch := (first | omega | decide | assumption)) only [ltm_s, ok_n, rd_i, rd_j, fd_i, fd_j, wr_i, wr_j, fw_i, fw_j, ci_s, cj_s, cv_s, dv_n, dw_n, rt_1, rt_b, rt_20, rt_21, okb_0, okb_1, okb_b, nar_0, nar_1, nar_b, i_0, i_1, j_0, j_1, i_lit, j_lit, i_n, iI_add, iI_sub, iI_mul, iI_neg, jI_add, jI_sub, jI_mul, jI_neg, sh_1, an_1, xo_1, di_p, dj_p, i_64A, i_64, j_32, lq_ge, lq_lt, lq_le, lq_gt, lq_eq, i_lt, i_le, i_eq, j_eq, iI_A, jI_J, iI_b, iI_v, jI_v, ↓reduceIte, ite_true, ite_false, Int.reduceEq, Int.reduceLT, Int.reduceLE, Int.reduceAdd, Int.reduceSub, Int.reduceMul, Int.reduceNeg, not_true_eq_false, not_false_eq_true, q]
  · rw [if_neg q]
    simp (config := { maxSteps := 1000000 }) (disch := (first | omega | decide | assumption)) only [ltm_s, ok_n, rd_i, rd_j, fd_i, fd_j, wr_i, wr_j, fw_i, fw_j, ci_s, cj_s, cv_s, dv_n, dw_n, rt_1, rt_b, rt_20, rt_21, okb_0, okb_1, okb_b, nar_0, nar_1, nar_b, i_0, i_1, j_0, j_1, i_lit, j_lit, i_n, iI_add, iI_sub, iI_mul, iI_neg, jI_add, jI_sub, jI_mul, jI_neg, sh_1, an_1, xo_1, di_p, dj_p, i_64A, i_64, j_32, lq_ge, lq_lt, lq_le, lq_gt, lq_eq, i_lt, i_le, i_eq, j_eq, iI_A, jI_J, iI_b, iI_v, jI_v, ↓reduceIte, ite_true, ite_false, Int.reduceEq, Int.reduceLT, Int.reduceLE, Int.reduceAdd, Int.reduceSub, Int.reduceMul, Int.reduceNeg, not_true_eq_false, not_false_eq_true, q]
theorem c_maxI (hF : F = am_F T0 g) (hg : GG g) {v w : Int} (v1 : -2147483648 ≤ v) (v2 : v < 2147483648) (w1 : -2147483648 ≤ w) (w2 : w < 2147483648) : F 24 0 [.int (iI v), .int (iI w)] [] M = some (some (.int (iI (if v < w then w else v))), M) := by
  refine s_JMath_max hF hg ?_
  by_cases q : v < w
  · rw [if_pos q]
    simp (config := { maxSteps := 1000000 }) (disch := (first | omega | decide | assumption)) only [ltm_s, ok_n, rd_i, rd_j, fd_i, fd_j, wr_i, wr_j, fw_i, fw_j, ci_s, cj_s, cv_s, dv_n, dw_n, rt_1, rt_b, rt_20, rt_21, okb_0, okb_1, okb_b, nar_0, nar_1, nar_b, i_0, i_1, j_0, j_1, i_lit, j_lit, i_n, iI_add, iI_sub, iI_mul, iI_neg, jI_add, jI_sub, jI_mul, jI_neg, sh_1, an_1, xo_1, di_p, dj_p, i_64A, i_64, j_32, lq_ge, lq_lt, lq_le, lq_gt, lq_eq, i_lt, i_le, i_eq, j_eq, iI_A, jI_J, iI_b, iI_v, jI_v, ↓reduceIte, ite_true, ite_false, Int.reduceEq, Int.reduceLT, Int.reduceLE, Int.reduceAdd, Int.reduceSub, Int.reduceMul, Int.reduceNeg, not_true_eq_false, not_false_eq_true, q]
  · rw [if_neg q]
    simp (config := { maxSteps := 1000000 }) (disch := (first | omega | decide | assumption)) only [ltm_s, ok_n, rd_i, rd_j, fd_i, fd_j, wr_i, wr_j, fw_i, fw_j, ci_s, cj_s, cv_s, dv_n, dw_n, rt_1, rt_b, rt_20, rt_21, okb_0, okb_1, okb_b, nar_0, nar_1, nar_b, i_0, i_1, j_0, j_1, i_lit, j_lit, i_n, iI_add, iI_sub, iI_mul, iI_neg, jI_add, jI_sub, jI_mul, jI_neg, sh_1, an_1, xo_1, di_p, dj_p, i_64A, i_64, j_32, lq_ge, lq_lt, lq_le, lq_gt, lq_eq, i_lt, i_le, i_eq, j_eq, iI_A, jI_J, iI_b, iI_v, jI_v, ↓reduceIte, ite_true, ite_false, Int.reduceEq, Int.reduceLT, Int.reduceLE, Int.reduceAdd, Int.reduceSub, Int.reduceMul, Int.reduceNeg, not_true_eq_false, not_false_eq_true, q]
theorem c_wouldHold (hF : F = am_F T0 g) (hg : GG g) {a : Nat} (ha : isPu g a) {K T D day : Int} (hK : A M a 0 = K) (k0 : 0 ≤ K) (k1 : K ≤ 30) (t0 : 0 ≤ T) (t1 : T ≤ 100) (d0 : 0 ≤ D) (d1 : D ≤ 100000) (y0 : 0 ≤ day) (y1 : day ≤ 100000) : F 144 0 [.ref a, .int (iI T), .int (iI D), .int (iI day)] [] M = some (some (.int (iI (bI (0 < T ∧ D ≤ day ∧ day ≤ D + sl K ((if 6 < T then 6 else T) - 1))))), M) := by
  refine s_Pupil_wouldHold hF hg ha ?_
  by_cases q1 : T ≤ 0
  · rw [bI_f (by omega)]
    simp (config := { maxSteps := 1000000 }) (disch := (first | omega | decide | assumption)) only [ltm_s, ok_n, rd_i, rd_j, fd_i, fd_j, wr_i, wr_j, fw_i, fw_j, ci_s, cj_s, cv_s, dv_n, dw_n, rt_1, rt_b, rt_20, rt_21, okb_0, okb_1, okb_b, nar_0, nar_1, nar_b, i_0, i_1, j_0, j_1, i_lit, j_lit, i_n, iI_add, iI_sub, iI_mul, iI_neg, jI_add, jI_sub, jI_mul, jI_neg, sh_1, an_1, xo_1, di_p, dj_p, i_64A, i_64, j_32, lq_ge, lq_lt, lq_le, lq_gt, lq_eq, i_lt, i_le, i_eq, j_eq, iI_A, jI_J, iI_b, iI_v, jI_v, ↓reduceIte, ite_true, ite_false, Int.reduceEq, Int.reduceLT, Int.reduceLE, Int.reduceAdd, Int.reduceSub, Int.reduceMul, Int.reduceNeg, not_true_eq_false, not_false_eq_true, q1]
  by_cases q2 : D ≤ day
  · have hm := c_minI hF hg (M := M) (v := T) (w := 6) (by omega) (by omega) (by omega) (by omega)
    obtain ⟨m, hm2⟩ : ∃ m : Int, m = (if 6 < T then 6 else T) := ⟨_, rfl⟩
    rw [← hm2] at hm ⊢
    have hmr : 1 ≤ m ∧ m ≤ 6 := by rw [hm2]; split <;> omega
    have hs := sl_v k0 k1 (i := m - 1) (by omega) (by omega)
    by_cases q3 : sl K (m - 1) < day - D
    · rw [bI_f (by omega)]
      simp (config := { maxSteps := 1000000 }) (disch := (first | omega | decide | assumption)) only [ltm_s, ok_n, rd_i, rd_j, fd_i, fd_j, wr_i, wr_j, fw_i, fw_j, ci_s, cj_s, cv_s, dv_n, dw_n, rt_1, rt_b, rt_20, rt_21, okb_0, okb_1, okb_b, nar_0, nar_1, nar_b, i_0, i_1, j_0, j_1, i_lit, j_lit, i_n, iI_add, iI_sub, iI_mul, iI_neg, jI_add, jI_sub, jI_mul, jI_neg, sh_1, an_1, xo_1, di_p, dj_p, i_64A, i_64, j_32, lq_ge, lq_lt, lq_le, lq_gt, lq_eq, i_lt, i_le, i_eq, j_eq, iI_A, jI_J, iI_b, iI_v, jI_v, ↓reduceIte, ite_true, ite_false, Int.reduceEq, Int.reduceLT, Int.reduceLE, Int.reduceAdd, Int.reduceSub, Int.reduceMul, Int.reduceNeg, not_true_eq_false, not_false_eq_true, q1, q2, hm, hK, sl_i, q3]
    · rw [bI_t (by omega)]
      simp (config := { maxSteps := 1000000 }) (disch := (first | omega | decide | assumption)) only [ltm_s, ok_n, rd_i, rd_j, fd_i, fd_j, wr_i, wr_j, fw_i, fw_j, ci_s, cj_s, cv_s, dv_n, dw_n, rt_1, rt_b, rt_20, rt_21, okb_0, okb_1, okb_b, nar_0, nar_1, nar_b, i_0, i_1, j_0, j_1, i_lit, j_lit, i_n, iI_add, iI_sub, iI_mul, iI_neg, jI_add, jI_sub, jI_mul, jI_neg, sh_1, an_1, xo_1, di_p, dj_p, i_64A, i_64, j_32, lq_ge, lq_lt, lq_le, lq_gt, lq_eq, i_lt, i_le, i_eq, j_eq, iI_A, jI_J, iI_b, iI_v, jI_v, ↓reduceIte, ite_true, ite_false, Int.reduceEq, Int.reduceLT, Int.reduceLE, Int.reduceAdd, Int.reduceSub, Int.reduceMul, Int.reduceNeg, not_true_eq_false, not_false_eq_true, q1, q2, hm, hK, sl_i, q3]
  · rw [bI_f (by omega)]
    simp (config := { maxSteps := 1000000 }) (disch := (first | omega | decide | assumption)) only [ltm_s, ok_n, rd_i, rd_j, fd_i, fd_j, wr_i, wr_j, fw_i, fw_j, ci_s, cj_s, cv_s, dv_n, dw_n, rt_1, rt_b, rt_20, rt_21, okb_0, okb_1, okb_b, nar_0, nar_1, nar_b, i_0, i_1, j_0, j_1, i_lit, j_lit, i_n, iI_add, iI_sub, iI_mul, iI_neg, jI_add, jI_sub, jI_mul, jI_neg, sh_1, an_1, xo_1, di_p, dj_p, i_64A, i_64, j_32, lq_ge, lq_lt, lq_le, lq_gt, lq_eq, i_lt, i_le, i_eq, j_eq, iI_A, jI_J, iI_b, iI_v, jI_v, ↓reduceIte, ite_true, ite_false, Int.reduceEq, Int.reduceLT, Int.reduceLE, Int.reduceAdd, Int.reduceSub, Int.reduceMul, Int.reduceNeg, not_true_eq_false, not_false_eq_true, q1, q2]
/-- the number of a link of the one side -/
def lkt (M : am_M) (l : Int) : Int := 80 * A M 43 l + A M 44 l
theorem lkt_r (h : L14 M) {l : Int} (l0 : 0 ≤ l) (l1 : l < A M 42 2) : 0 ≤ lkt M l ∧ lkt M l < 6400 ∧ A M 45 (lkt M l) = l + 1 := by
  obtain ⟨a, b, c⟩ := h.1 l l0 l1
  unfold lkt
  exact ⟨by omega, by omega, c⟩
theorem lkt_i (h : L14 M) {t : Int} (t0 : 0 ≤ t) (t1 : t < 6400) (h0 : ¬ A M 45 t = 0) : 0 ≤ A M 45 t - 1 ∧ A M 45 t - 1 < A M 42 2 ∧ lkt M (A M 45 t - 1) = t := by
  obtain ⟨a, b⟩ := h.2 t t0 t1
  exact ⟨by omega, by omega, b h0⟩
theorem c_isHeldL (hF : F = am_F T0 g) (hg : GG g) (h9 : I9 M0) (h14 : I14 M0) (h15 : I15 M0) {p l day : Int} (hP : PuA M0 M p) (p0 : 0 ≤ p) (p1 : p < A M0 219 41) (l0 : 0 ≤ l) (l1 : l < A M0 42 2) (y0 : 0 ≤ day) (y1 : day ≤ 2000) : F 195 0 [.ref (72 + 5 * p.toNat), .int (iI l), .int (iI day)] [] M = some (some (.int (iI (bI (hl M0 p (lkt M0 l) day)))), M) := by
  have hp4 : p < 4 := by have := h15.1; omega
  obtain ⟨c1, c2, c3, c4⟩ := h14
  obtain ⟨x0, x1, x2⟩ := lkt_r c3 l0 l1
  have b := (h15.2.2.2 p p0 hp4).2 (lkt M0 l) x0 x1
  rw [x2] at b
  have b2 := b.2 (by omega)
  rw [show l + 1 - 1 = l by omega] at b2
  have e1 : A M (72 + 5 * p.toNat + 1) l = A M0 251 (6400 * p + lkt M0 l) := by rw [(hP.2 l).2.1]; exact b2.1
  have e2 : A M (72 + 5 * p.toNat + 2) l = A M0 252 (6400 * p + lkt M0 l) := by rw [(hP.2 l).2.2]; exact b2.2
  have e3 : A M (72 + 5 * p.toNat) 0 = A M0 250 p := by rw [(hP.2 0).1]; exact h15.2.2.1 p p0 p1
  have k9 := h9.1 p p0 hp4
  have t9 := h9.2 (6400 * p + lkt M0 l) (by omega) (by omega)
  have hw := c_wouldHold hF hg (pu_ok hg p0 hp4) e3 k9.1 k9.2 t9.1.1 (by omega) t9.2.1 (by omega) y0 (by omega) (day := day)
  rw [if_neg (by omega)] at hw
  refine s_Pupil_isHeld hF hg (pu_ok hg p0 hp4) ?_
  have hl' : l < 200 := by omega
  simp (config := { maxSteps := 1000000 }) (disch := (first | omega | decide | assumption)) only [ltm_s, ok_n, rd_i, rd_j, fd_i, fd_j, wr_i, wr_j, fw_i, fw_j, ci_s, cj_s, cv_s, dv_n, dw_n, rt_1, rt_b, rt_20, rt_21, okb_0, okb_1, okb_b, nar_0, nar_1, nar_b, i_0, i_1, j_0, j_1, i_lit, j_lit, i_n, iI_add, iI_sub, iI_mul, iI_neg, jI_add, jI_sub, jI_mul, jI_neg, sh_1, an_1, xo_1, di_p, dj_p, i_64A, i_64, j_32, lq_ge, lq_lt, lq_le, lq_gt, lq_eq, i_lt, i_le, i_eq, j_eq, iI_A, jI_J, iI_b, iI_v, jI_v, ↓reduceIte, ite_true, ite_false, Int.reduceEq, Int.reduceLT, Int.reduceLE, Int.reduceAdd, Int.reduceSub, Int.reduceMul, Int.reduceNeg, not_true_eq_false, not_false_eq_true, e1, e2, hw]
  rfl
theorem c_heldCount_l (hF : F = am_F T0 g) (hg : GG g) (h9 : I9 M0) (h14 : I14 M0) (h15 : I15 M0) {p day : Int} (hP : PuA M0 M p) (p0 : 0 ≤ p) (p1 : p < A M0 219 41) (y0 : 0 ≤ day) (y1 : day ≤ 2000) : ∀ n k : Nat, (k : Int) + n = A M0 42 2 → F 221 5 [.ref 42, .ref (72 + 5 * p.toNat), .int (iI day), .int (iI (cn (fun l => hl M0 p (lkt M0 l) day) k)), .int (iI k)] [] M = some (some (.int (iI (cn (fun l => hl M0 p (lkt M0 l) day) (A M0 42 2).toNat))), M) := by
  have hp4 : p < 4 := by have := h15.1; omega
  have hl200 : A M0 42 2 ≤ 200 := by
    have a := h14.1
    have b := h14.2.1
    omega
  have ec : A M 42 2 = A M0 42 2 := hP.1
  intro n
  induction n with
  | zero =>
    intro k hk
    have e : k = (A M0 42 2).toNat := by omega
    have q : A M0 42 2 ≤ (k : Int) := by omega
    rw [← e]
    have hb := cn_b (C := fun l => hl M0 p (lkt M0 l) day) k
    refine s_Links_heldCount_5 hF hg (pu_ok hg p0 hp4) ?_
    simp (config := { maxSteps := 1000000 }) (disch := (first | omega | decide | assumption)) only [ltm_s, ok_n, rd_i, rd_j, fd_i, fd_j, wr_i, wr_j, fw_i, fw_j, ci_s, cj_s, cv_s, dv_n, dw_n, rt_1, rt_b, rt_20, rt_21, okb_0, okb_1, okb_b, nar_0, nar_1, nar_b, i_0, i_1, j_0, j_1, i_lit, j_lit, i_n, iI_add, iI_sub, iI_mul, iI_neg, jI_add, jI_sub, jI_mul, jI_neg, sh_1, an_1, xo_1, di_p, dj_p, i_64A, i_64, j_32, lq_ge, lq_lt, lq_le, lq_gt, lq_eq, i_lt, i_le, i_eq, j_eq, iI_A, jI_J, iI_b, iI_v, jI_v, ↓reduceIte, ite_true, ite_false, Int.reduceEq, Int.reduceLT, Int.reduceLE, Int.reduceAdd, Int.reduceSub, Int.reduceMul, Int.reduceNeg, not_true_eq_false, not_false_eq_true, ec, q]
  | succ n ih =>
    intro k hk
    have q : ¬ A M0 42 2 ≤ (k : Int) := by omega
    have hs : (k : Int) + 1 = ((k + 1 : Nat) : Int) := by omega
    have hb := cn_b (C := fun l => hl M0 p (lkt M0 l) day) k
    have ih' := ih (k + 1) (by omega)
    have hh := c_isHeldL hF hg h9 h14 h15 hP p0 p1 (l := k) (day := day) (by omega) (by omega) y0 y1
    have e1 : cn (fun l => hl M0 p (lkt M0 l) day) (k + 1) = cn (fun l => hl M0 p (lkt M0 l) day) k + bI (hl M0 p (lkt M0 k) day) := rfl
    rw [e1] at ih'
    refine s_Links_heldCount_5 hF hg (pu_ok hg p0 hp4) ?_
    by_cases u : hl M0 p (lkt M0 k) day
    · rw [bI_t u] at hh ih'
      simp (config := { maxSteps := 1000000 }) (disch := (first | omega | decide | assumption)) only [ltm_s, ok_n, rd_i, rd_j, fd_i, fd_j, wr_i, wr_j, fw_i, fw_j, ci_s, cj_s, cv_s, dv_n, dw_n, rt_1, rt_b, rt_20, rt_21, okb_0, okb_1, okb_b, nar_0, nar_1, nar_b, i_0, i_1, j_0, j_1, i_lit, j_lit, i_n, iI_add, iI_sub, iI_mul, iI_neg, jI_add, jI_sub, jI_mul, jI_neg, sh_1, an_1, xo_1, di_p, dj_p, i_64A, i_64, j_32, lq_ge, lq_lt, lq_le, lq_gt, lq_eq, i_lt, i_le, i_eq, j_eq, iI_A, jI_J, iI_b, iI_v, jI_v, ↓reduceIte, ite_true, ite_false, Int.reduceEq, Int.reduceLT, Int.reduceLE, Int.reduceAdd, Int.reduceSub, Int.reduceMul, Int.reduceNeg, not_true_eq_false, not_false_eq_true, ec, q, hh, hs, ih']
    · rw [bI_f u] at hh ih'
      rw [Int.add_zero] at ih'
      simp (config := { maxSteps := 1000000 }) (disch := (first | omega | decide | assumption)) only [ltm_s, ok_n, rd_i, rd_j, fd_i, fd_j, wr_i, wr_j, fw_i, fw_j, ci_s, cj_s, cv_s, dv_n, dw_n, rt_1, rt_b, rt_20, rt_21, okb_0, okb_1, okb_b, nar_0, nar_1, nar_b, i_0, i_1, j_0, j_1, i_lit, j_lit, i_n, iI_add, iI_sub, iI_mul, iI_neg, jI_add, jI_sub, jI_mul, jI_neg, sh_1, an_1, xo_1, di_p, dj_p, i_64A, i_64, j_32, lq_ge, lq_lt, lq_le, lq_gt, lq_eq, i_lt, i_le, i_eq, j_eq, iI_A, jI_J, iI_b, iI_v, jI_v, ↓reduceIte, ite_true, ite_false, Int.reduceEq, Int.reduceLT, Int.reduceLE, Int.reduceAdd, Int.reduceSub, Int.reduceMul, Int.reduceNeg, not_true_eq_false, not_false_eq_true, ec, q, hh, hs, ih']
theorem c_heldCount (hF : F = am_F T0 g) (hg : GG g) (h9 : I9 M0) (h14 : I14 M0) (h15 : I15 M0) {p day : Int} (hP : PuA M0 M p) (p0 : 0 ≤ p) (p1 : p < A M0 219 41) (y0 : 0 ≤ day) (y1 : day ≤ 2000) : F 221 0 [.ref 42, .ref (72 + 5 * p.toNat), .int (iI day)] [] M = some (some (.int (iI (cn (fun l => hl M0 p (lkt M0 l) day) (A M0 42 2).toNat))), M) := by
  have hp4 : p < 4 := by have := h15.1; omega
  refine s_Links_heldCount hF hg (pu_ok hg p0 hp4) ?_
  exact c_heldCount_l hF hg h9 h14 h15 hP p0 p1 y0 y1 (A M0 42 2).toNat 0 (by have := h14.1; omega)
theorem m_isHeld2 (hF : F = am_F T0 g) (hg : GG g) (hA : Ag M0 M) (h9 : I9 M0) {p e f day : Int} (p0 : 0 ≤ p) (p1 : p < 4) (e0 : 0 ≤ e) (e1 : e < 80) (f0 : 0 ≤ f) (f1 : f < 80) (d0 : 0 ≤ day) (d1 : day ≤ 2000) : F 55 0 [.ref 219, .int (iI p), .int (iI e), .int (iI f), .int (iI day)] [] M = some (some (.int (iI (bI (hld M0 p e f day)))), M) := by
  have ht := h9.2 (6400 * p + 80 * e + f) (by omega) (by omega)
  have hk := h9.1 p p0 p1
  refine s_Model_isHeld hF hg ?_
  unfold hld
  by_cases q1 : 0 < A M0 251 (6400 * p + 80 * e + f)
  · have hs := sl_v hk.1 hk.2 (i := A M0 251 (6400 * p + 80 * e + f) - 1) (by omega) (by omega)
    have q1' : ¬ A M0 251 (6400 * p + 80 * e + f) ≤ 0 := by omega
    by_cases q2 : day < A M0 252 (6400 * p + 80 * e + f)
    · rw [bI_f (fun x => by omega)]
      simp (config := { maxSteps := 1000000 }) (disch := (first | omega | decide | assumption)) only [ltm_s, ok_n, rd_i, rd_j, fd_i, fd_j, wr_i, wr_j, fw_i, fw_j, ci_s, cj_s, cv_s, dv_n, dw_n, rt_1, rt_b, rt_20, rt_21, okb_0, okb_1, okb_b, nar_0, nar_1, nar_b, i_0, i_1, j_0, j_1, i_lit, j_lit, i_n, iI_add, iI_sub, iI_mul, iI_neg, jI_add, jI_sub, jI_mul, jI_neg, sh_1, an_1, xo_1, di_p, dj_p, i_64A, i_64, j_32, lq_ge, lq_lt, lq_le, lq_gt, lq_eq, i_lt, i_le, i_eq, j_eq, iI_A, jI_J, iI_b, iI_v, jI_v, ↓reduceIte, ite_true, ite_false, Int.reduceEq, Int.reduceLT, Int.reduceLE, Int.reduceAdd, Int.reduceSub, Int.reduceMul, Int.reduceNeg, not_true_eq_false, not_false_eq_true, agA hA, agJA hA, ag hA, v_nJ, v_nW, v_nD, v_toD, v_px, v_py, v_rg, v_kd, v_ft, v_on, v_bg, v_en, @nJ_ M0, @nW_ M0, @nD_ M0, @toD_ M0, @px_ M0, @py_ M0, @rg_ M0, @kd_ M0, @ft_ M0, @on_ M0, bt_, q1', q2, sl_i]
    · by_cases q3 : A M0 252 (6400 * p + 80 * e + f) + sl (A M0 250 p) (A M0 251 (6400 * p + 80 * e + f) - 1) < day
      · rw [bI_f (fun x => by omega)]
        simp (config := { maxSteps := 1000000 }) (disch := (first | omega | decide | assumption)) only [ltm_s, ok_n, rd_i, rd_j, fd_i, fd_j, wr_i, wr_j, fw_i, fw_j, ci_s, cj_s, cv_s, dv_n, dw_n, rt_1, rt_b, rt_20, rt_21, okb_0, okb_1, okb_b, nar_0, nar_1, nar_b, i_0, i_1, j_0, j_1, i_lit, j_lit, i_n, iI_add, iI_sub, iI_mul, iI_neg, jI_add, jI_sub, jI_mul, jI_neg, sh_1, an_1, xo_1, di_p, dj_p, i_64A, i_64, j_32, lq_ge, lq_lt, lq_le, lq_gt, lq_eq, i_lt, i_le, i_eq, j_eq, iI_A, jI_J, iI_b, iI_v, jI_v, ↓reduceIte, ite_true, ite_false, Int.reduceEq, Int.reduceLT, Int.reduceLE, Int.reduceAdd, Int.reduceSub, Int.reduceMul, Int.reduceNeg, not_true_eq_false, not_false_eq_true, agA hA, agJA hA, ag hA, v_nJ, v_nW, v_nD, v_toD, v_px, v_py, v_rg, v_kd, v_ft, v_on, v_bg, v_en, @nJ_ M0, @nW_ M0, @nD_ M0, @toD_ M0, @px_ M0, @py_ M0, @rg_ M0, @kd_ M0, @ft_ M0, @on_ M0, bt_, q1', q2, sl_i, q3]
      · rw [bI_t ⟨q1, by omega, by omega⟩]
        simp (config := { maxSteps := 1000000 }) (disch := (first | omega | decide | assumption)) only [ltm_s, ok_n, rd_i, rd_j, fd_i, fd_j, wr_i, wr_j, fw_i, fw_j, ci_s, cj_s, cv_s, dv_n, dw_n, rt_1, rt_b, rt_20, rt_21, okb_0, okb_1, okb_b, nar_0, nar_1, nar_b, i_0, i_1, j_0, j_1, i_lit, j_lit, i_n, iI_add, iI_sub, iI_mul, iI_neg, jI_add, jI_sub, jI_mul, jI_neg, sh_1, an_1, xo_1, di_p, dj_p, i_64A, i_64, j_32, lq_ge, lq_lt, lq_le, lq_gt, lq_eq, i_lt, i_le, i_eq, j_eq, iI_A, jI_J, iI_b, iI_v, jI_v, ↓reduceIte, ite_true, ite_false, Int.reduceEq, Int.reduceLT, Int.reduceLE, Int.reduceAdd, Int.reduceSub, Int.reduceMul, Int.reduceNeg, not_true_eq_false, not_false_eq_true, agA hA, agJA hA, ag hA, v_nJ, v_nW, v_nD, v_toD, v_px, v_py, v_rg, v_kd, v_ft, v_on, v_bg, v_en, @nJ_ M0, @nW_ M0, @nD_ M0, @toD_ M0, @px_ M0, @py_ M0, @rg_ M0, @kd_ M0, @ft_ M0, @on_ M0, bt_, q1', q2, sl_i, q3]
  · rw [bI_f (fun x => q1 x.1)]
    have q1' : A M0 251 (6400 * p + 80 * e + f) ≤ 0 := by omega
    simp (config := { maxSteps := 1000000 }) (disch := (first | omega | decide | assumption)) only [ltm_s, ok_n, rd_i, rd_j, fd_i, fd_j, wr_i, wr_j, fw_i, fw_j, ci_s, cj_s, cv_s, dv_n, dw_n, rt_1, rt_b, rt_20, rt_21, okb_0, okb_1, okb_b, nar_0, nar_1, nar_b, i_0, i_1, j_0, j_1, i_lit, j_lit, i_n, iI_add, iI_sub, iI_mul, iI_neg, jI_add, jI_sub, jI_mul, jI_neg, sh_1, an_1, xo_1, di_p, dj_p, i_64A, i_64, j_32, lq_ge, lq_lt, lq_le, lq_gt, lq_eq, i_lt, i_le, i_eq, j_eq, iI_A, jI_J, iI_b, iI_v, jI_v, ↓reduceIte, ite_true, ite_false, Int.reduceEq, Int.reduceLT, Int.reduceLE, Int.reduceAdd, Int.reduceSub, Int.reduceMul, Int.reduceNeg, not_true_eq_false, not_false_eq_true, agA hA, agJA hA, ag hA, v_nJ, v_nW, v_nD, v_toD, v_px, v_py, v_rg, v_kd, v_ft, v_on, v_bg, v_en, @nJ_ M0, @nW_ M0, @nD_ M0, @toD_ M0, @px_ M0, @py_ M0, @rg_ M0, @kd_ M0, @ft_ M0, @on_ M0, bt_, q1']
theorem m_heldOn_l (hF : F = am_F T0 g) (hg : GG g) (hA : Ag M0 M) (h9 : I9 M0) {p day : Int} (p0 : 0 ≤ p) (p1 : p < 4) (y0 : 0 ≤ day) (y1 : day ≤ 2000) : ∀ n k : Nat, k + n = 6400 → F 114 5 [.ref 219, .int (iI p), .int (iI day), .int (iI (cn (fun t => hl M0 p t day) k)), .int (iI k)] [] M = some (some (.int (iI (cn (fun t => hl M0 p t day) 6400))), M) := by
  intro n
  induction n with
  | zero =>
    intro k hk
    have e : k = 6400 := by omega
    have q : 6400 ≤ (k : Int) := by omega
    have hb := cn_b (C := fun t => hl M0 p t day) k
    refine s_Model_heldOn_5 hF hg ?_
    simp (config := { maxSteps := 1000000 }) (disch := (first | omega | decide | assumption)) only [ltm_s, ok_n, rd_i, rd_j, fd_i, fd_j, wr_i, wr_j, fw_i, fw_j, ci_s, cj_s, cv_s, dv_n, dw_n, rt_1, rt_b, rt_20, rt_21, okb_0, okb_1, okb_b, nar_0, nar_1, nar_b, i_0, i_1, j_0, j_1, i_lit, j_lit, i_n, iI_add, iI_sub, iI_mul, iI_neg, jI_add, jI_sub, jI_mul, jI_neg, sh_1, an_1, xo_1, di_p, dj_p, i_64A, i_64, j_32, lq_ge, lq_lt, lq_le, lq_gt, lq_eq, i_lt, i_le, i_eq, j_eq, iI_A, jI_J, iI_b, iI_v, jI_v, ↓reduceIte, ite_true, ite_false, Int.reduceEq, Int.reduceLT, Int.reduceLE, Int.reduceAdd, Int.reduceSub, Int.reduceMul, Int.reduceNeg, not_true_eq_false, not_false_eq_true, q]
    rw [e]
  | succ n ih =>
    intro k hk
    have q : ¬ 6400 ≤ (k : Int) := by omega
    have hs : (k : Int) + 1 = ((k + 1 : Nat) : Int) := by omega
    have hb := cn_b (C := fun t => hl M0 p t day) k
    have ih' := ih (k + 1) (by omega)
    have e1 : cn (fun t => hl M0 p t day) (k + 1) = cn (fun t => hl M0 p t day) k + bI (hl M0 p k day) := rfl
    rw [e1] at ih'
    have er : A M 251 (6400 * p + k) = A M0 251 (6400 * p + k) := agA hA rfl
    refine s_Model_heldOn_5 hF hg ?_
    by_cases u0 : A M0 251 (6400 * p + k) ≤ 0
    · rw [bI_f (fun x => by unfold hl at x; omega)] at ih'
      simp (config := { maxSteps := 1000000 }) (disch := (first | omega | decide | assumption)) only [ltm_s, ok_n, rd_i, rd_j, fd_i, fd_j, wr_i, wr_j, fw_i, fw_j, ci_s, cj_s, cv_s, dv_n, dw_n, rt_1, rt_b, rt_20, rt_21, okb_0, okb_1, okb_b, nar_0, nar_1, nar_b, i_0, i_1, j_0, j_1, i_lit, j_lit, i_n, iI_add, iI_sub, iI_mul, iI_neg, jI_add, jI_sub, jI_mul, jI_neg, sh_1, an_1, xo_1, di_p, dj_p, i_64A, i_64, j_32, lq_ge, lq_lt, lq_le, lq_gt, lq_eq, i_lt, i_le, i_eq, j_eq, iI_A, jI_J, iI_b, iI_v, jI_v, ↓reduceIte, ite_true, ite_false, Int.reduceEq, Int.reduceLT, Int.reduceLE, Int.reduceAdd, Int.reduceSub, Int.reduceMul, Int.reduceNeg, not_true_eq_false, not_false_eq_true, q, er, u0, hs, ih']
    · have hd : hl M0 p k day ↔ hld M0 p (k / 80) (k - k / 80 * 80) day := by
        rw [← hl_hld, show 80 * ((k : Int) / 80) + (k - k / 80 * 80) = k by omega]
      have hh := m_isHeld2 hF hg hA h9 p0 p1 (e := k / 80) (f := k - k / 80 * 80) (day := day) (by omega) (by omega) (by omega) (by omega) y0 y1
      rw [← bI_cg hd] at hh
      by_cases u : hl M0 p k day
      · rw [bI_t u] at hh ih'
        simp (config := { maxSteps := 1000000 }) (disch := (first | omega | decide | assumption)) only [ltm_s, ok_n, rd_i, rd_j, fd_i, fd_j, wr_i, wr_j, fw_i, fw_j, ci_s, cj_s, cv_s, dv_n, dw_n, rt_1, rt_b, rt_20, rt_21, okb_0, okb_1, okb_b, nar_0, nar_1, nar_b, i_0, i_1, j_0, j_1, i_lit, j_lit, i_n, iI_add, iI_sub, iI_mul, iI_neg, jI_add, jI_sub, jI_mul, jI_neg, sh_1, an_1, xo_1, di_p, dj_p, i_64A, i_64, j_32, lq_ge, lq_lt, lq_le, lq_gt, lq_eq, i_lt, i_le, i_eq, j_eq, iI_A, jI_J, iI_b, iI_v, jI_v, ↓reduceIte, ite_true, ite_false, Int.reduceEq, Int.reduceLT, Int.reduceLE, Int.reduceAdd, Int.reduceSub, Int.reduceMul, Int.reduceNeg, not_true_eq_false, not_false_eq_true, q, er, u0, hh, hs, ih']
      · rw [bI_f u] at hh ih'
        simp (config := { maxSteps := 1000000 }) (disch := (first | omega | decide | assumption)) only [ltm_s, ok_n, rd_i, rd_j, fd_i, fd_j, wr_i, wr_j, fw_i, fw_j, ci_s, cj_s, cv_s, dv_n, dw_n, rt_1, rt_b, rt_20, rt_21, okb_0, okb_1, okb_b, nar_0, nar_1, nar_b, i_0, i_1, j_0, j_1, i_lit, j_lit, i_n, iI_add, iI_sub, iI_mul, iI_neg, jI_add, jI_sub, jI_mul, jI_neg, sh_1, an_1, xo_1, di_p, dj_p, i_64A, i_64, j_32, lq_ge, lq_lt, lq_le, lq_gt, lq_eq, i_lt, i_le, i_eq, j_eq, iI_A, jI_J, iI_b, iI_v, jI_v, ↓reduceIte, ite_true, ite_false, Int.reduceEq, Int.reduceLT, Int.reduceLE, Int.reduceAdd, Int.reduceSub, Int.reduceMul, Int.reduceNeg, not_true_eq_false, not_false_eq_true, q, er, u0, hh, hs, ih']
theorem m_heldOn (hF : F = am_F T0 g) (hg : GG g) (hA : Ag M0 M) (h9 : I9 M0) {p day : Int} (p0 : 0 ≤ p) (p1 : p < 4) (y0 : 0 ≤ day) (y1 : day ≤ 2000) : F 114 0 [.ref 219, .int (iI p), .int (iI day)] [] M = some (some (.int (iI (cn (fun t => hl M0 p t day) 6400))), M) := by
  refine s_Model_heldOn hF hg ?_
  exact m_heldOn_l hF hg hA h9 p0 p1 y0 y1 6400 0 (by omega)
theorem held_eq (h14 : I14 M) (h15 : I15 M) {p day : Int} (p0 : 0 ≤ p) (p1 : p < 4) : cn (fun l => hl M p (lkt M l) day) (A M 42 2).toNat = cn (fun t => hl M p t day) 6400 := by
  obtain ⟨c1, c2, c3, c4⟩ := h14
  have hn : ((A M 42 2).toNat : Int) = A M 42 2 := by omega
  rw [cn_bij (P := fun t => hl M p t day) (o := lkt M) (N := 6400) (A M 42 2).toNat (fun l l0 l1 => by
    have := lkt_r c3 l0 (by omega)
    omega) (fun i j i0 ij j1 e => by
    have a := lkt_r c3 i0 (by omega)
    have b := lkt_r c3 (l := j) (by omega) (by omega)
    rw [e] at a
    omega)]
  refine cn_cg fun t t0 t1 => ⟨fun h => h.2, fun h => ⟨?_, h⟩⟩
  have b := (h15.2.2.2 p p0 p1).2 t t0 (by omega)
  have h0 : ¬ A M 45 t = 0 := fun e => by
    have := (b.1 e).1
    unfold hl at h
    omega
  obtain ⟨x1, x2, x3⟩ := lkt_i c3 t0 (by omega) h0
  exact ⟨A M 45 t - 1, x1, by omega, x3⟩
theorem b_holds (hF : F = am_F T0 g) (hg : GG g) (hI : Inv M) {p e f day : Int} (p1 : -2147483648 ≤ p) (p2 : p < 2147483648) (e1 : -2147483648 ≤ e) (e2 : e < 2147483648) (f1 : -2147483648 ≤ f) (f2 : f < 2147483648) (y1 : -2147483648 ≤ day) (y2 : day < 2147483648) :
    ∃ r : Int, F 229 0 [.ref 0, .int (iI p), .int (iI e), .int (iI f), .int (iI day)] [] M = some (some (.int (iI r)), M) ∧ F 182 0 [.ref 219, .int (iI p), .int (iI e), .int (iI f), .int (iI day)] [] M = some (some (.int (iI r)), M) := by
  obtain ⟨h1, h2, h3, h4, h5, h6, h7, h8, h9, h10, h11, h12, h13, h14, h15, h16, h17, h18, h19, hm, ht⟩ := hI
  have hn := h2.1
  have h81 := h8.1
  have h82 := h8.2
  have hp := h15.1
  have hA := Ag.refl M
  have e14 : A M 219 14 = toD M := rfl
  have cp := c_noPupil hF hg h15 p1 p2
  have mp := m_isPupil hF hg h15.1 p1 p2
  by_cases q1 : p < 0 ∨ A M 219 41 - 1 < p
  · rw [bI_t q1] at cp
    rw [bI_f (by omega)] at mp
    refine ⟨-1, ?_, ?_⟩
    · refine s_RunSayer_holds hF hg ?_
      simp (config := { maxSteps := 1000000 }) (disch := (first | omega | decide | assumption)) only [ltm_s, ok_n, rd_i, rd_j, fd_i, fd_j, wr_i, wr_j, fw_i, fw_j, ci_s, cj_s, cv_s, dv_n, dw_n, rt_1, rt_b, rt_20, rt_21, okb_0, okb_1, okb_b, nar_0, nar_1, nar_b, i_0, i_1, j_0, j_1, i_lit, j_lit, i_n, iI_add, iI_sub, iI_mul, iI_neg, jI_add, jI_sub, jI_mul, jI_neg, sh_1, an_1, xo_1, di_p, dj_p, i_64A, i_64, j_32, lq_ge, lq_lt, lq_le, lq_gt, lq_eq, i_lt, i_le, i_eq, j_eq, iI_A, jI_J, iI_b, iI_v, jI_v, ↓reduceIte, ite_true, ite_false, Int.reduceEq, Int.reduceLT, Int.reduceLE, Int.reduceAdd, Int.reduceSub, Int.reduceMul, Int.reduceNeg, not_true_eq_false, not_false_eq_true, cp]
    · refine s_Model_holds hF hg ?_
      simp (config := { maxSteps := 1000000 }) (disch := (first | omega | decide | assumption)) only [ltm_s, ok_n, rd_i, rd_j, fd_i, fd_j, wr_i, wr_j, fw_i, fw_j, ci_s, cj_s, cv_s, dv_n, dw_n, rt_1, rt_b, rt_20, rt_21, okb_0, okb_1, okb_b, nar_0, nar_1, nar_b, i_0, i_1, j_0, j_1, i_lit, j_lit, i_n, iI_add, iI_sub, iI_mul, iI_neg, jI_add, jI_sub, jI_mul, jI_neg, sh_1, an_1, xo_1, di_p, dj_p, i_64A, i_64, j_32, lq_ge, lq_lt, lq_le, lq_gt, lq_eq, i_lt, i_le, i_eq, j_eq, iI_A, jI_J, iI_b, iI_v, jI_v, ↓reduceIte, ite_true, ite_false, Int.reduceEq, Int.reduceLT, Int.reduceLE, Int.reduceAdd, Int.reduceSub, Int.reduceMul, Int.reduceNeg, not_true_eq_false, not_false_eq_true, mp]
  rw [bI_f q1] at cp
  rw [bI_t (by omega)] at mp
  have ce := c_noLeg hF hg hA h2 e1 e2
  have me := m_isLeg hF hg hA h2 e1 e2
  by_cases q2 : e < 0 ∨ 2 * nW M - 1 < e
  · rw [bI_t q2] at ce
    rw [bI_f (by omega)] at me
    refine ⟨-1, ?_, ?_⟩
    · refine s_RunSayer_holds hF hg ?_
      simp (config := { maxSteps := 1000000 }) (disch := (first | omega | decide | assumption)) only [ltm_s, ok_n, rd_i, rd_j, fd_i, fd_j, wr_i, wr_j, fw_i, fw_j, ci_s, cj_s, cv_s, dv_n, dw_n, rt_1, rt_b, rt_20, rt_21, okb_0, okb_1, okb_b, nar_0, nar_1, nar_b, i_0, i_1, j_0, j_1, i_lit, j_lit, i_n, iI_add, iI_sub, iI_mul, iI_neg, jI_add, jI_sub, jI_mul, jI_neg, sh_1, an_1, xo_1, di_p, dj_p, i_64A, i_64, j_32, lq_ge, lq_lt, lq_le, lq_gt, lq_eq, i_lt, i_le, i_eq, j_eq, iI_A, jI_J, iI_b, iI_v, jI_v, ↓reduceIte, ite_true, ite_false, Int.reduceEq, Int.reduceLT, Int.reduceLE, Int.reduceAdd, Int.reduceSub, Int.reduceMul, Int.reduceNeg, not_true_eq_false, not_false_eq_true, cp, ce]
    · refine s_Model_holds hF hg ?_
      simp (config := { maxSteps := 1000000 }) (disch := (first | omega | decide | assumption)) only [ltm_s, ok_n, rd_i, rd_j, fd_i, fd_j, wr_i, wr_j, fw_i, fw_j, ci_s, cj_s, cv_s, dv_n, dw_n, rt_1, rt_b, rt_20, rt_21, okb_0, okb_1, okb_b, nar_0, nar_1, nar_b, i_0, i_1, j_0, j_1, i_lit, j_lit, i_n, iI_add, iI_sub, iI_mul, iI_neg, jI_add, jI_sub, jI_mul, jI_neg, sh_1, an_1, xo_1, di_p, dj_p, i_64A, i_64, j_32, lq_ge, lq_lt, lq_le, lq_gt, lq_eq, i_lt, i_le, i_eq, j_eq, iI_A, jI_J, iI_b, iI_v, jI_v, ↓reduceIte, ite_true, ite_false, Int.reduceEq, Int.reduceLT, Int.reduceLE, Int.reduceAdd, Int.reduceSub, Int.reduceMul, Int.reduceNeg, not_true_eq_false, not_false_eq_true, mp, me]
  rw [bI_f q2] at ce
  rw [bI_t (by omega)] at me
  have cf := c_noLeg hF hg hA h2 f1 f2
  have mf := m_isLeg hF hg hA h2 f1 f2
  by_cases q3 : f < 0 ∨ 2 * nW M - 1 < f
  · rw [bI_t q3] at cf
    rw [bI_f (by omega)] at mf
    refine ⟨-1, ?_, ?_⟩
    · refine s_RunSayer_holds hF hg ?_
      simp (config := { maxSteps := 1000000 }) (disch := (first | omega | decide | assumption)) only [ltm_s, ok_n, rd_i, rd_j, fd_i, fd_j, wr_i, wr_j, fw_i, fw_j, ci_s, cj_s, cv_s, dv_n, dw_n, rt_1, rt_b, rt_20, rt_21, okb_0, okb_1, okb_b, nar_0, nar_1, nar_b, i_0, i_1, j_0, j_1, i_lit, j_lit, i_n, iI_add, iI_sub, iI_mul, iI_neg, jI_add, jI_sub, jI_mul, jI_neg, sh_1, an_1, xo_1, di_p, dj_p, i_64A, i_64, j_32, lq_ge, lq_lt, lq_le, lq_gt, lq_eq, i_lt, i_le, i_eq, j_eq, iI_A, jI_J, iI_b, iI_v, jI_v, ↓reduceIte, ite_true, ite_false, Int.reduceEq, Int.reduceLT, Int.reduceLE, Int.reduceAdd, Int.reduceSub, Int.reduceMul, Int.reduceNeg, not_true_eq_false, not_false_eq_true, cp, ce, cf]
    · refine s_Model_holds hF hg ?_
      simp (config := { maxSteps := 1000000 }) (disch := (first | omega | decide | assumption)) only [ltm_s, ok_n, rd_i, rd_j, fd_i, fd_j, wr_i, wr_j, fw_i, fw_j, ci_s, cj_s, cv_s, dv_n, dw_n, rt_1, rt_b, rt_20, rt_21, okb_0, okb_1, okb_b, nar_0, nar_1, nar_b, i_0, i_1, j_0, j_1, i_lit, j_lit, i_n, iI_add, iI_sub, iI_mul, iI_neg, jI_add, jI_sub, jI_mul, jI_neg, sh_1, an_1, xo_1, di_p, dj_p, i_64A, i_64, j_32, lq_ge, lq_lt, lq_le, lq_gt, lq_eq, i_lt, i_le, i_eq, j_eq, iI_A, jI_J, iI_b, iI_v, jI_v, ↓reduceIte, ite_true, ite_false, Int.reduceEq, Int.reduceLT, Int.reduceLE, Int.reduceAdd, Int.reduceSub, Int.reduceMul, Int.reduceNeg, not_true_eq_false, not_false_eq_true, mp, me, mf]
  rw [bI_f q3] at cf
  rw [bI_t (by omega)] at mf
  have cd := c_outside hF hg (M := M) (v := day) (l := toD M) (h := 2000) y1 y2 (by omega) (by omega) (by omega) (by omega)
  have md := m_inn hF hg (M := M) (v := day) (l := toD M) (h := 2000) y1 y2 (by omega) (by omega) (by omega) (by omega)
  by_cases q4 : day < toD M ∨ 2000 < day
  · rw [bI_t q4] at cd
    rw [bI_f (by omega)] at md
    refine ⟨-2, ?_, ?_⟩
    · refine s_RunSayer_holds hF hg ?_
      simp (config := { maxSteps := 1000000 }) (disch := (first | omega | decide | assumption)) only [ltm_s, ok_n, rd_i, rd_j, fd_i, fd_j, wr_i, wr_j, fw_i, fw_j, ci_s, cj_s, cv_s, dv_n, dw_n, rt_1, rt_b, rt_20, rt_21, okb_0, okb_1, okb_b, nar_0, nar_1, nar_b, i_0, i_1, j_0, j_1, i_lit, j_lit, i_n, iI_add, iI_sub, iI_mul, iI_neg, jI_add, jI_sub, jI_mul, jI_neg, sh_1, an_1, xo_1, di_p, dj_p, i_64A, i_64, j_32, lq_ge, lq_lt, lq_le, lq_gt, lq_eq, i_lt, i_le, i_eq, j_eq, iI_A, jI_J, iI_b, iI_v, jI_v, ↓reduceIte, ite_true, ite_false, Int.reduceEq, Int.reduceLT, Int.reduceLE, Int.reduceAdd, Int.reduceSub, Int.reduceMul, Int.reduceNeg, not_true_eq_false, not_false_eq_true, cp, ce, cf, h82, cd]
    · refine s_Model_holds hF hg ?_
      simp (config := { maxSteps := 1000000 }) (disch := (first | omega | decide | assumption)) only [ltm_s, ok_n, rd_i, rd_j, fd_i, fd_j, wr_i, wr_j, fw_i, fw_j, ci_s, cj_s, cv_s, dv_n, dw_n, rt_1, rt_b, rt_20, rt_21, okb_0, okb_1, okb_b, nar_0, nar_1, nar_b, i_0, i_1, j_0, j_1, i_lit, j_lit, i_n, iI_add, iI_sub, iI_mul, iI_neg, jI_add, jI_sub, jI_mul, jI_neg, sh_1, an_1, xo_1, di_p, dj_p, i_64A, i_64, j_32, lq_ge, lq_lt, lq_le, lq_gt, lq_eq, i_lt, i_le, i_eq, j_eq, iI_A, jI_J, iI_b, iI_v, jI_v, ↓reduceIte, ite_true, ite_false, Int.reduceEq, Int.reduceLT, Int.reduceLE, Int.reduceAdd, Int.reduceSub, Int.reduceMul, Int.reduceNeg, not_true_eq_false, not_false_eq_true, mp, me, mf, e14, md]
  rw [bI_f q4] at cd
  rw [bI_t (by omega)] at md
  have mh := m_isHeld2 hF hg hA h9 (p := p) (e := e) (f := f) (day := day) (by omega) (by omega) (by omega) (by omega) (by omega) (by omega) (by omega) (by omega)
  rw [← bI_cg hl_hld] at mh
  have nu : F 39 0 [.ref 42, .int (iI e), .int (iI f)] [] M = some (some (.int (iI (A M 45 (e * 80 + f) - 1))), M) := by
    refine s_Links_numberOf hF hg ?_
    simp (config := { maxSteps := 1000000 }) (disch := (first | omega | decide | assumption)) only [ltm_s, ok_n, rd_i, rd_j, fd_i, fd_j, wr_i, wr_j, fw_i, fw_j, ci_s, cj_s, cv_s, dv_n, dw_n, rt_1, rt_b, rt_20, rt_21, okb_0, okb_1, okb_b, nar_0, nar_1, nar_b, i_0, i_1, j_0, j_1, i_lit, j_lit, i_n, iI_add, iI_sub, iI_mul, iI_neg, jI_add, jI_sub, jI_mul, jI_neg, sh_1, an_1, xo_1, di_p, dj_p, i_64A, i_64, j_32, lq_ge, lq_lt, lq_le, lq_gt, lq_eq, i_lt, i_le, i_eq, j_eq, iI_A, jI_J, iI_b, iI_v, jI_v, ↓reduceIte, ite_true, ite_false, Int.reduceEq, Int.reduceLT, Int.reduceLE, Int.reduceAdd, Int.reduceSub, Int.reduceMul, Int.reduceNeg, not_true_eq_false, not_false_eq_true]
  have hh := h14
  obtain ⟨c1, c2, c3, c4⟩ := hh
  have ix : e * 80 + f = 80 * e + f := by omega
  rw [ix] at nu
  have hr := c3.2 (80 * e + f) (by omega) (by omega)
  have b := (h15.2.2.2 p (by omega) (by omega)).2 (80 * e + f) (by omega) (by omega)
  have hnp : (iI p).toNatClampNeg = p.toNat := iI_n (by omega) (by omega)
  by_cases q5 : A M 45 (80 * e + f) = 0
  · have z := (b.1 q5).1
    have q6 : A M 45 (80 * e + f) - 1 < 0 := by omega
    rw [bI_f (fun x => by unfold hl at x; omega)] at mh
    refine ⟨0, ?_, ?_⟩
    · refine s_RunSayer_holds hF hg ?_
      simp (config := { maxSteps := 1000000 }) (disch := (first | omega | decide | assumption)) only [ltm_s, ok_n, rd_i, rd_j, fd_i, fd_j, wr_i, wr_j, fw_i, fw_j, ci_s, cj_s, cv_s, dv_n, dw_n, rt_1, rt_b, rt_20, rt_21, okb_0, okb_1, okb_b, nar_0, nar_1, nar_b, i_0, i_1, j_0, j_1, i_lit, j_lit, i_n, iI_add, iI_sub, iI_mul, iI_neg, jI_add, jI_sub, jI_mul, jI_neg, sh_1, an_1, xo_1, di_p, dj_p, i_64A, i_64, j_32, lq_ge, lq_lt, lq_le, lq_gt, lq_eq, i_lt, i_le, i_eq, j_eq, iI_A, jI_J, iI_b, iI_v, jI_v, ↓reduceIte, ite_true, ite_false, Int.reduceEq, Int.reduceLT, Int.reduceLE, Int.reduceAdd, Int.reduceSub, Int.reduceMul, Int.reduceNeg, not_true_eq_false, not_false_eq_true, cp, ce, cf, h82, cd, nu, q6]
    · refine s_Model_holds hF hg ?_
      simp (config := { maxSteps := 1000000 }) (disch := (first | omega | decide | assumption)) only [ltm_s, ok_n, rd_i, rd_j, fd_i, fd_j, wr_i, wr_j, fw_i, fw_j, ci_s, cj_s, cv_s, dv_n, dw_n, rt_1, rt_b, rt_20, rt_21, okb_0, okb_1, okb_b, nar_0, nar_1, nar_b, i_0, i_1, j_0, j_1, i_lit, j_lit, i_n, iI_add, iI_sub, iI_mul, iI_neg, jI_add, jI_sub, jI_mul, jI_neg, sh_1, an_1, xo_1, di_p, dj_p, i_64A, i_64, j_32, lq_ge, lq_lt, lq_le, lq_gt, lq_eq, i_lt, i_le, i_eq, j_eq, iI_A, jI_J, iI_b, iI_v, jI_v, ↓reduceIte, ite_true, ite_false, Int.reduceEq, Int.reduceLT, Int.reduceLE, Int.reduceAdd, Int.reduceSub, Int.reduceMul, Int.reduceNeg, not_true_eq_false, not_false_eq_true, mp, me, mf, e14, md, mh]
  · have q6 : ¬ A M 45 (80 * e + f) - 1 < 0 := by omega
    obtain ⟨x1, x2, x3⟩ := lkt_i c3 (t := 80 * e + f) (by omega) (by omega) q5
    have ch := c_isHeldL hF hg h9 h14 h15 (hA.pu (by omega) (by omega)) (p := p) (l := A M 45 (80 * e + f) - 1) (day := day) (by omega) (by omega) x1 x2 (by omega) (by omega)
    rw [x3] at ch
    by_cases u : hl M p (80 * e + f) day
    · rw [bI_t u] at ch mh
      refine ⟨1, ?_, ?_⟩
      · refine s_RunSayer_holds hF hg ?_
        simp (config := { maxSteps := 1000000 }) (disch := (first | omega | decide | assumption)) only [ltm_s, ok_n, rd_i, rd_j, fd_i, fd_j, wr_i, wr_j, fw_i, fw_j, ci_s, cj_s, cv_s, dv_n, dw_n, rt_1, rt_b, rt_20, rt_21, okb_0, okb_1, okb_b, nar_0, nar_1, nar_b, i_0, i_1, j_0, j_1, i_lit, j_lit, i_n, iI_add, iI_sub, iI_mul, iI_neg, jI_add, jI_sub, jI_mul, jI_neg, sh_1, an_1, xo_1, di_p, dj_p, i_64A, i_64, j_32, lq_ge, lq_lt, lq_le, lq_gt, lq_eq, i_lt, i_le, i_eq, j_eq, iI_A, jI_J, iI_b, iI_v, jI_v, ↓reduceIte, ite_true, ite_false, Int.reduceEq, Int.reduceLT, Int.reduceLE, Int.reduceAdd, Int.reduceSub, Int.reduceMul, Int.reduceNeg, not_true_eq_false, not_false_eq_true, iI_n, rdn_i, rdn_j, wrn_i, wrn_j, cp, ce, cf, h82, cd, nu, q6, ch]
      · refine s_Model_holds hF hg ?_
        simp (config := { maxSteps := 1000000 }) (disch := (first | omega | decide | assumption)) only [ltm_s, ok_n, rd_i, rd_j, fd_i, fd_j, wr_i, wr_j, fw_i, fw_j, ci_s, cj_s, cv_s, dv_n, dw_n, rt_1, rt_b, rt_20, rt_21, okb_0, okb_1, okb_b, nar_0, nar_1, nar_b, i_0, i_1, j_0, j_1, i_lit, j_lit, i_n, iI_add, iI_sub, iI_mul, iI_neg, jI_add, jI_sub, jI_mul, jI_neg, sh_1, an_1, xo_1, di_p, dj_p, i_64A, i_64, j_32, lq_ge, lq_lt, lq_le, lq_gt, lq_eq, i_lt, i_le, i_eq, j_eq, iI_A, jI_J, iI_b, iI_v, jI_v, ↓reduceIte, ite_true, ite_false, Int.reduceEq, Int.reduceLT, Int.reduceLE, Int.reduceAdd, Int.reduceSub, Int.reduceMul, Int.reduceNeg, not_true_eq_false, not_false_eq_true, mp, me, mf, e14, md, mh]
    · rw [bI_f u] at ch mh
      refine ⟨0, ?_, ?_⟩
      · refine s_RunSayer_holds hF hg ?_
        simp (config := { maxSteps := 1000000 }) (disch := (first | omega | decide | assumption)) only [ltm_s, ok_n, rd_i, rd_j, fd_i, fd_j, wr_i, wr_j, fw_i, fw_j, ci_s, cj_s, cv_s, dv_n, dw_n, rt_1, rt_b, rt_20, rt_21, okb_0, okb_1, okb_b, nar_0, nar_1, nar_b, i_0, i_1, j_0, j_1, i_lit, j_lit, i_n, iI_add, iI_sub, iI_mul, iI_neg, jI_add, jI_sub, jI_mul, jI_neg, sh_1, an_1, xo_1, di_p, dj_p, i_64A, i_64, j_32, lq_ge, lq_lt, lq_le, lq_gt, lq_eq, i_lt, i_le, i_eq, j_eq, iI_A, jI_J, iI_b, iI_v, jI_v, ↓reduceIte, ite_true, ite_false, Int.reduceEq, Int.reduceLT, Int.reduceLE, Int.reduceAdd, Int.reduceSub, Int.reduceMul, Int.reduceNeg, not_true_eq_false, not_false_eq_true, iI_n, rdn_i, rdn_j, wrn_i, wrn_j, cp, ce, cf, h82, cd, nu, q6, ch]
      · refine s_Model_holds hF hg ?_
        simp (config := { maxSteps := 1000000 }) (disch := (first | omega | decide | assumption)) only [ltm_s, ok_n, rd_i, rd_j, fd_i, fd_j, wr_i, wr_j, fw_i, fw_j, ci_s, cj_s, cv_s, dv_n, dw_n, rt_1, rt_b, rt_20, rt_21, okb_0, okb_1, okb_b, nar_0, nar_1, nar_b, i_0, i_1, j_0, j_1, i_lit, j_lit, i_n, iI_add, iI_sub, iI_mul, iI_neg, jI_add, jI_sub, jI_mul, jI_neg, sh_1, an_1, xo_1, di_p, dj_p, i_64A, i_64, j_32, lq_ge, lq_lt, lq_le, lq_gt, lq_eq, i_lt, i_le, i_eq, j_eq, iI_A, jI_J, iI_b, iI_v, jI_v, ↓reduceIte, ite_true, ite_false, Int.reduceEq, Int.reduceLT, Int.reduceLE, Int.reduceAdd, Int.reduceSub, Int.reduceMul, Int.reduceNeg, not_true_eq_false, not_false_eq_true, mp, me, mf, e14, md, mh]
theorem b_knows (hF : F = am_F T0 g) (hg : GG g) (hI : Inv M) {p day : Int} (p1 : -2147483648 ≤ p) (p2 : p < 2147483648) (y1 : -2147483648 ≤ day) (y2 : day < 2147483648) :
    ∃ r : Int, F 242 0 [.ref 0, .int (iI p), .int (iI day)] [] M = some (some (.int (iI r)), M) ∧ F 187 0 [.ref 219, .int (iI p), .int (iI day)] [] M = some (some (.int (iI r)), M) := by
  obtain ⟨h1, h2, h3, h4, h5, h6, h7, h8, h9, h10, h11, h12, h13, h14, h15, h16, h17, h18, h19, hm, ht⟩ := hI
  have h81 := h8.1
  have h82 := h8.2
  have hp := h15.1
  have hA := Ag.refl M
  have e14 : A M 219 14 = toD M := rfl
  have cp := c_noPupil hF hg h15 p1 p2
  have mp := m_isPupil hF hg h15.1 p1 p2
  by_cases q1 : p < 0 ∨ A M 219 41 - 1 < p
  · rw [bI_t q1] at cp
    rw [bI_f (by omega)] at mp
    refine ⟨-1, ?_, ?_⟩
    · refine s_RunSayer_knows hF hg ?_
      simp (config := { maxSteps := 1000000 }) (disch := (first | omega | decide | assumption)) only [ltm_s, ok_n, rd_i, rd_j, fd_i, fd_j, wr_i, wr_j, fw_i, fw_j, ci_s, cj_s, cv_s, dv_n, dw_n, rt_1, rt_b, rt_20, rt_21, okb_0, okb_1, okb_b, nar_0, nar_1, nar_b, i_0, i_1, j_0, j_1, i_lit, j_lit, i_n, iI_add, iI_sub, iI_mul, iI_neg, jI_add, jI_sub, jI_mul, jI_neg, sh_1, an_1, xo_1, di_p, dj_p, i_64A, i_64, j_32, lq_ge, lq_lt, lq_le, lq_gt, lq_eq, i_lt, i_le, i_eq, j_eq, iI_A, jI_J, iI_b, iI_v, jI_v, ↓reduceIte, ite_true, ite_false, Int.reduceEq, Int.reduceLT, Int.reduceLE, Int.reduceAdd, Int.reduceSub, Int.reduceMul, Int.reduceNeg, not_true_eq_false, not_false_eq_true, cp]
    · refine s_Model_knows hF hg ?_
      simp (config := { maxSteps := 1000000 }) (disch := (first | omega | decide | assumption)) only [ltm_s, ok_n, rd_i, rd_j, fd_i, fd_j, wr_i, wr_j, fw_i, fw_j, ci_s, cj_s, cv_s, dv_n, dw_n, rt_1, rt_b, rt_20, rt_21, okb_0, okb_1, okb_b, nar_0, nar_1, nar_b, i_0, i_1, j_0, j_1, i_lit, j_lit, i_n, iI_add, iI_sub, iI_mul, iI_neg, jI_add, jI_sub, jI_mul, jI_neg, sh_1, an_1, xo_1, di_p, dj_p, i_64A, i_64, j_32, lq_ge, lq_lt, lq_le, lq_gt, lq_eq, i_lt, i_le, i_eq, j_eq, iI_A, jI_J, iI_b, iI_v, jI_v, ↓reduceIte, ite_true, ite_false, Int.reduceEq, Int.reduceLT, Int.reduceLE, Int.reduceAdd, Int.reduceSub, Int.reduceMul, Int.reduceNeg, not_true_eq_false, not_false_eq_true, mp]
  rw [bI_f q1] at cp
  rw [bI_t (by omega)] at mp
  have cd := c_outside hF hg (M := M) (v := day) (l := toD M) (h := 2000) y1 y2 (by omega) (by omega) (by omega) (by omega)
  have md := m_inn hF hg (M := M) (v := day) (l := toD M) (h := 2000) y1 y2 (by omega) (by omega) (by omega) (by omega)
  by_cases q4 : day < toD M ∨ 2000 < day
  · rw [bI_t q4] at cd
    rw [bI_f (by omega)] at md
    refine ⟨-2, ?_, ?_⟩
    · refine s_RunSayer_knows hF hg ?_
      simp (config := { maxSteps := 1000000 }) (disch := (first | omega | decide | assumption)) only [ltm_s, ok_n, rd_i, rd_j, fd_i, fd_j, wr_i, wr_j, fw_i, fw_j, ci_s, cj_s, cv_s, dv_n, dw_n, rt_1, rt_b, rt_20, rt_21, okb_0, okb_1, okb_b, nar_0, nar_1, nar_b, i_0, i_1, j_0, j_1, i_lit, j_lit, i_n, iI_add, iI_sub, iI_mul, iI_neg, jI_add, jI_sub, jI_mul, jI_neg, sh_1, an_1, xo_1, di_p, dj_p, i_64A, i_64, j_32, lq_ge, lq_lt, lq_le, lq_gt, lq_eq, i_lt, i_le, i_eq, j_eq, iI_A, jI_J, iI_b, iI_v, jI_v, ↓reduceIte, ite_true, ite_false, Int.reduceEq, Int.reduceLT, Int.reduceLE, Int.reduceAdd, Int.reduceSub, Int.reduceMul, Int.reduceNeg, not_true_eq_false, not_false_eq_true, cp, h82, cd]
    · refine s_Model_knows hF hg ?_
      simp (config := { maxSteps := 1000000 }) (disch := (first | omega | decide | assumption)) only [ltm_s, ok_n, rd_i, rd_j, fd_i, fd_j, wr_i, wr_j, fw_i, fw_j, ci_s, cj_s, cv_s, dv_n, dw_n, rt_1, rt_b, rt_20, rt_21, okb_0, okb_1, okb_b, nar_0, nar_1, nar_b, i_0, i_1, j_0, j_1, i_lit, j_lit, i_n, iI_add, iI_sub, iI_mul, iI_neg, jI_add, jI_sub, jI_mul, jI_neg, sh_1, an_1, xo_1, di_p, dj_p, i_64A, i_64, j_32, lq_ge, lq_lt, lq_le, lq_gt, lq_eq, i_lt, i_le, i_eq, j_eq, iI_A, jI_J, iI_b, iI_v, jI_v, ↓reduceIte, ite_true, ite_false, Int.reduceEq, Int.reduceLT, Int.reduceLE, Int.reduceAdd, Int.reduceSub, Int.reduceMul, Int.reduceNeg, not_true_eq_false, not_false_eq_true, mp, e14, md]
  rw [bI_f q4] at cd
  rw [bI_t (by omega)] at md
  have hnp : (iI p).toNatClampNeg = p.toNat := iI_n (by omega) (by omega)
  have ch := c_heldCount hF hg h9 h14 h15 (hA.pu (by omega) (by omega)) (p := p) (day := day) (by omega) (by omega) (by omega) (by omega)
  rw [held_eq h14 h15 (by omega) (by omega)] at ch
  have mh := m_heldOn hF hg hA h9 (p := p) (day := day) (by omega) (by omega) (by omega) (by omega)
  refine ⟨cn (fun t => hl M p t day) 6400, ?_, ?_⟩
  · refine s_RunSayer_knows hF hg ?_
    simp (config := { maxSteps := 1000000 }) (disch := (first | omega | decide | assumption)) only [ltm_s, ok_n, rd_i, rd_j, fd_i, fd_j, wr_i, wr_j, fw_i, fw_j, ci_s, cj_s, cv_s, dv_n, dw_n, rt_1, rt_b, rt_20, rt_21, okb_0, okb_1, okb_b, nar_0, nar_1, nar_b, i_0, i_1, j_0, j_1, i_lit, j_lit, i_n, iI_add, iI_sub, iI_mul, iI_neg, jI_add, jI_sub, jI_mul, jI_neg, sh_1, an_1, xo_1, di_p, dj_p, i_64A, i_64, j_32, lq_ge, lq_lt, lq_le, lq_gt, lq_eq, i_lt, i_le, i_eq, j_eq, iI_A, jI_J, iI_b, iI_v, jI_v, ↓reduceIte, ite_true, ite_false, Int.reduceEq, Int.reduceLT, Int.reduceLE, Int.reduceAdd, Int.reduceSub, Int.reduceMul, Int.reduceNeg, not_true_eq_false, not_false_eq_true, iI_n, rdn_i, rdn_j, wrn_i, wrn_j, cp, h82, cd, ch]
  · refine s_Model_knows hF hg ?_
    simp (config := { maxSteps := 1000000 }) (disch := (first | omega | decide | assumption)) only [ltm_s, ok_n, rd_i, rd_j, fd_i, fd_j, wr_i, wr_j, fw_i, fw_j, ci_s, cj_s, cv_s, dv_n, dw_n, rt_1, rt_b, rt_20, rt_21, okb_0, okb_1, okb_b, nar_0, nar_1, nar_b, i_0, i_1, j_0, j_1, i_lit, j_lit, i_n, iI_add, iI_sub, iI_mul, iI_neg, jI_add, jI_sub, jI_mul, jI_neg, sh_1, an_1, xo_1, di_p, dj_p, i_64A, i_64, j_32, lq_ge, lq_lt, lq_le, lq_gt, lq_eq, i_lt, i_le, i_eq, j_eq, iI_A, jI_J, iI_b, iI_v, jI_v, ↓reduceIte, ite_true, ite_false, Int.reduceEq, Int.reduceLT, Int.reduceLE, Int.reduceAdd, Int.reduceSub, Int.reduceMul, Int.reduceNeg, not_true_eq_false, not_false_eq_true, mp, e14, md, mh]
end Hd
