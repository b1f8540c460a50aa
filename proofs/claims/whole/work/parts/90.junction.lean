/-! JUNCTION: each side by itself -/
def jdu (c : Int) (X Y : Int → Int) (x y : Int) : Prop := ∃ i : Int, 0 ≤ i ∧ i < c ∧ X i = x ∧ Y i = y
def jok (x y o : Int) : Prop := (0 ≤ x ∧ x ≤ 99) ∧ (0 ≤ y ∧ y ≤ 99) ∧ 0 ≤ o ∧ o ≤ 1
def JS (c x y o : Int) (X Y : Int → Int) (r : Int) : Prop := (¬ jok x y o → r = -2) ∧ (jok x y o → (jdu c X Y x y → r = -3) ∧ (¬ jdu c X Y x y → (c = 24 → r = -4) ∧ (¬ c = 24 → r = c)))
def cJ (N : am_M) (x y o : Int) : am_M := W_ (W_ (W_ (W_ (W_ (W_ (W_ N 2 (A N 1 3) x) 3 (A N 1 3) y) 4 (A N 1 3) o) 1 3 (A N 1 3 + 1)) 14 (A N 1 17) 0) 15 (A N 1 17) (A N 1 3)) 1 17 (A N 1 17 + 1)
def mJ (N : am_M) (x y o : Int) : am_M := W_ (W_ (W_ (W_ (W_ (W_ (W_ N 220 (A N 219 0) x) 221 (A N 219 0) y) 222 (A N 219 0) o) 219 0 (A N 219 0 + 1)) 244 (A N 219 31) 0) 245 (A N 219 31) (A N 219 0)) 219 31 (A N 219 31 + 1)
section Jn
variable {N M M' : am_M} {g : am_G} {F : am_FT}
theorem cj_dup_l (hF : F = am_F T0 g) (hg : GG g) {x y o : Int} (x1 : -2147483648 ≤ x) (x2 : x < 2147483648) (y1 : -2147483648 ≤ y) (y2 : y < 2147483648) (hc : 0 ≤ A N 1 3 ∧ A N 1 3 ≤ 24) : ∀ n k : Nat, (k : Int) + n = A N 1 3 → (∃ i : Int, (k : Int) ≤ i ∧ i < A N 1 3 ∧ A N 2 i = x ∧ A N 3 i = y) → F 84 3 [.ref 1, .int (iI x), .int (iI y), .int (iI o), .int (iI k)] [] N = some (some (.int (iI (-3))), N) := by
  intro n
  induction n with
  | zero =>
    rintro k hk ⟨i, i0, i1, -⟩
    omega
  | succ n ih =>
    rintro k hk ⟨i, i0, i1, i2, i3⟩
    refine s_City_addJunction_3 hF hg ?_
    have q0 : ¬ A N 1 3 ≤ (k : Int) := by omega
    have hs : (k : Int) + 1 = ((k + 1 : Nat) : Int) := by omega
    by_cases q1 : A N 2 k = x
    · by_cases q2 : A N 3 k = y
      · simp (config := { maxSteps := 1000000 }) (disch := (first | omega | decide | assumption)) only [ltm_s, ok_n, rd_i, rd_j, fd_i, fd_j, wr_i, wr_j, fw_i, fw_j, ci_s, cj_s, cv_s, dv_n, dw_n, rt_1, rt_b, rt_20, rt_21, okb_0, okb_1, okb_b, nar_0, nar_1, nar_b, i_0, i_1, j_0, j_1, i_lit, j_lit, i_n, iI_add, iI_sub, iI_mul, iI_neg, jI_add, jI_sub, jI_mul, jI_neg, sh_1, an_1, xo_1, di_p, dj_p, i_64A, i_64, j_32, lq_ge, lq_lt, lq_le, lq_gt, lq_eq, i_lt, i_le, i_eq, j_eq, iI_A, jI_J, iI_b, iI_v, jI_v, ↓reduceIte, ite_true, ite_false, Int.reduceEq, Int.reduceLT, Int.reduceLE, Int.reduceAdd, Int.reduceSub, Int.reduceMul, Int.reduceNeg, not_true_eq_false, not_false_eq_true, q0, eq_true q1, eq_true q2]
      · have hi := ih (k + 1) (by omega) ⟨i, by (by_cases h : i = k; exact absurd (h ▸ i3) q2; omega), i1, i2, i3⟩
        simp (config := { maxSteps := 1000000 }) (disch := (first | omega | decide | assumption)) only [ltm_s, ok_n, rd_i, rd_j, fd_i, fd_j, wr_i, wr_j, fw_i, fw_j, ci_s, cj_s, cv_s, dv_n, dw_n, rt_1, rt_b, rt_20, rt_21, okb_0, okb_1, okb_b, nar_0, nar_1, nar_b, i_0, i_1, j_0, j_1, i_lit, j_lit, i_n, iI_add, iI_sub, iI_mul, iI_neg, jI_add, jI_sub, jI_mul, jI_neg, sh_1, an_1, xo_1, di_p, dj_p, i_64A, i_64, j_32, lq_ge, lq_lt, lq_le, lq_gt, lq_eq, i_lt, i_le, i_eq, j_eq, iI_A, jI_J, iI_b, iI_v, jI_v, ↓reduceIte, ite_true, ite_false, Int.reduceEq, Int.reduceLT, Int.reduceLE, Int.reduceAdd, Int.reduceSub, Int.reduceMul, Int.reduceNeg, not_true_eq_false, not_false_eq_true, q0, eq_true q1, q2, hs, hi]
    · have hi := ih (k + 1) (by omega) ⟨i, by (by_cases h : i = k; exact absurd (h ▸ i2) q1; omega), i1, i2, i3⟩
      simp (config := { maxSteps := 1000000 }) (disch := (first | omega | decide | assumption)) only [ltm_s, ok_n, rd_i, rd_j, fd_i, fd_j, wr_i, wr_j, fw_i, fw_j, ci_s, cj_s, cv_s, dv_n, dw_n, rt_1, rt_b, rt_20, rt_21, okb_0, okb_1, okb_b, nar_0, nar_1, nar_b, i_0, i_1, j_0, j_1, i_lit, j_lit, i_n, iI_add, iI_sub, iI_mul, iI_neg, jI_add, jI_sub, jI_mul, jI_neg, sh_1, an_1, xo_1, di_p, dj_p, i_64A, i_64, j_32, lq_ge, lq_lt, lq_le, lq_gt, lq_eq, i_lt, i_le, i_eq, j_eq, iI_A, jI_J, iI_b, iI_v, jI_v, ↓reduceIte, ite_true, ite_false, Int.reduceEq, Int.reduceLT, Int.reduceLE, Int.reduceAdd, Int.reduceSub, Int.reduceMul, Int.reduceNeg, not_true_eq_false, not_false_eq_true, q0, q1, hs, hi]
theorem cj_new_l (hF : F = am_F T0 g) (hg : GG g) {x y o : Int} (x1 : -2147483648 ≤ x) (x2 : x < 2147483648) (y1 : -2147483648 ≤ y) (y2 : y < 2147483648) (hc : 0 ≤ A N 1 3 ∧ A N 1 3 ≤ 24) {R : Option Value × am_M} (hR : F 84 3 [.ref 1, .int (iI x), .int (iI y), .int (iI o), .int (iI (A N 1 3))] [] N = some R) : ∀ n k : Nat, (k : Int) + n = A N 1 3 → (¬ ∃ i : Int, (k : Int) ≤ i ∧ i < A N 1 3 ∧ A N 2 i = x ∧ A N 3 i = y) → F 84 3 [.ref 1, .int (iI x), .int (iI y), .int (iI o), .int (iI k)] [] N = some R := by
  intro n
  induction n with
  | zero =>
    intro k hk _
    have e : (k : Int) = A N 1 3 := by omega
    rw [e]; exact hR
  | succ n ih =>
    intro k hk hno
    refine s_City_addJunction_3 hF hg ?_
    have q0 : ¬ A N 1 3 ≤ (k : Int) := by omega
    have hs : (k : Int) + 1 = ((k + 1 : Nat) : Int) := by omega
    have hi := ih (k + 1) (by omega) (fun ⟨i, i0, i1, i2, i3⟩ => hno ⟨i, by omega, i1, i2, i3⟩)
    by_cases q1 : A N 2 k = x
    · have q2 : ¬ A N 3 k = y := fun h => hno ⟨k, by omega, by omega, q1, h⟩
      simp (config := { maxSteps := 1000000 }) (disch := (first | omega | decide | assumption)) only [ltm_s, ok_n, rd_i, rd_j, fd_i, fd_j, wr_i, wr_j, fw_i, fw_j, ci_s, cj_s, cv_s, dv_n, dw_n, rt_1, rt_b, rt_20, rt_21, okb_0, okb_1, okb_b, nar_0, nar_1, nar_b, i_0, i_1, j_0, j_1, i_lit, j_lit, i_n, iI_add, iI_sub, iI_mul, iI_neg, jI_add, jI_sub, jI_mul, jI_neg, sh_1, an_1, xo_1, di_p, dj_p, i_64A, i_64, j_32, lq_ge, lq_lt, lq_le, lq_gt, lq_eq, i_lt, i_le, i_eq, j_eq, iI_A, jI_J, iI_b, iI_v, jI_v, ↓reduceIte, ite_true, ite_false, Int.reduceEq, Int.reduceLT, Int.reduceLE, Int.reduceAdd, Int.reduceSub, Int.reduceMul, Int.reduceNeg, not_true_eq_false, not_false_eq_true, q0, eq_true q1, q2, hs, hi]
    · simp (config := { maxSteps := 1000000 }) (disch := (first | omega | decide | assumption)) only [ltm_s, ok_n, rd_i, rd_j, fd_i, fd_j, wr_i, wr_j, fw_i, fw_j, ci_s, cj_s, cv_s, dv_n, dw_n, rt_1, rt_b, rt_20, rt_21, okb_0, okb_1, okb_b, nar_0, nar_1, nar_b, i_0, i_1, j_0, j_1, i_lit, j_lit, i_n, iI_add, iI_sub, iI_mul, iI_neg, jI_add, jI_sub, jI_mul, jI_neg, sh_1, an_1, xo_1, di_p, dj_p, i_64A, i_64, j_32, lq_ge, lq_lt, lq_le, lq_gt, lq_eq, i_lt, i_le, i_eq, j_eq, iI_A, jI_J, iI_b, iI_v, jI_v, ↓reduceIte, ite_true, ite_false, Int.reduceEq, Int.reduceLT, Int.reduceLE, Int.reduceAdd, Int.reduceSub, Int.reduceMul, Int.reduceNeg, not_true_eq_false, not_false_eq_true, q0, q1, hs, hi]
theorem mj_dup_l (hF : F = am_F T0 g) (hg : GG g) {x y o : Int} (x1 : -2147483648 ≤ x) (x2 : x < 2147483648) (y1 : -2147483648 ≤ y) (y2 : y < 2147483648) (hc : 0 ≤ A N 219 0 ∧ A N 219 0 ≤ 24) : ∀ n k : Nat, (k : Int) + n = A N 219 0 → (∃ i : Int, (k : Int) ≤ i ∧ i < A N 219 0 ∧ A N 220 i = x ∧ A N 221 i = y) → F 124 35 [.ref 219, .int (iI x), .int (iI y), .int (iI o), .int (iI k)] [] N = some (some (.int (iI (-3))), N) := by
  intro n
  induction n with
  | zero =>
    rintro k hk ⟨i, i0, i1, -⟩
    omega
  | succ n ih =>
    rintro k hk ⟨i, i0, i1, i2, i3⟩
    refine s_Model_junction_35 hF hg ?_
    have q0 : ¬ A N 219 0 ≤ (k : Int) := by omega
    have hs : (k : Int) + 1 = ((k + 1 : Nat) : Int) := by omega
    by_cases q1 : A N 220 k = x
    · by_cases q2 : A N 221 k = y
      · simp (config := { maxSteps := 1000000 }) (disch := (first | omega | decide | assumption)) only [ltm_s, ok_n, rd_i, rd_j, fd_i, fd_j, wr_i, wr_j, fw_i, fw_j, ci_s, cj_s, cv_s, dv_n, dw_n, rt_1, rt_b, rt_20, rt_21, okb_0, okb_1, okb_b, nar_0, nar_1, nar_b, i_0, i_1, j_0, j_1, i_lit, j_lit, i_n, iI_add, iI_sub, iI_mul, iI_neg, jI_add, jI_sub, jI_mul, jI_neg, sh_1, an_1, xo_1, di_p, dj_p, i_64A, i_64, j_32, lq_ge, lq_lt, lq_le, lq_gt, lq_eq, i_lt, i_le, i_eq, j_eq, iI_A, jI_J, iI_b, iI_v, jI_v, ↓reduceIte, ite_true, ite_false, Int.reduceEq, Int.reduceLT, Int.reduceLE, Int.reduceAdd, Int.reduceSub, Int.reduceMul, Int.reduceNeg, not_true_eq_false, not_false_eq_true, q0, eq_true q1, eq_true q2]
      · have hi := ih (k + 1) (by omega) ⟨i, by (by_cases h : i = k; exact absurd (h ▸ i3) q2; omega), i1, i2, i3⟩
        simp (config := { maxSteps := 1000000 }) (disch := (first | omega | decide | assumption)) only [ltm_s, ok_n, rd_i, rd_j, fd_i, fd_j, wr_i, wr_j, fw_i, fw_j, ci_s, cj_s, cv_s, dv_n, dw_n, rt_1, rt_b, rt_20, rt_21, okb_0, okb_1, okb_b, nar_0, nar_1, nar_b, i_0, i_1, j_0, j_1, i_lit, j_lit, i_n, iI_add, iI_sub, iI_mul, iI_neg, jI_add, jI_sub, jI_mul, jI_neg, sh_1, an_1, xo_1, di_p, dj_p, i_64A, i_64, j_32, lq_ge, lq_lt, lq_le, lq_gt, lq_eq, i_lt, i_le, i_eq, j_eq, iI_A, jI_J, iI_b, iI_v, jI_v, ↓reduceIte, ite_true, ite_false, Int.reduceEq, Int.reduceLT, Int.reduceLE, Int.reduceAdd, Int.reduceSub, Int.reduceMul, Int.reduceNeg, not_true_eq_false, not_false_eq_true, q0, eq_true q1, q2, hs, hi]
    · have hi := ih (k + 1) (by omega) ⟨i, by (by_cases h : i = k; exact absurd (h ▸ i2) q1; omega), i1, i2, i3⟩
      simp (config := { maxSteps := 1000000 }) (disch := (first | omega | decide | assumption)) only [ltm_s, ok_n, rd_i, rd_j, fd_i, fd_j, wr_i, wr_j, fw_i, fw_j, ci_s, cj_s, cv_s, dv_n, dw_n, rt_1, rt_b, rt_20, rt_21, okb_0, okb_1, okb_b, nar_0, nar_1, nar_b, i_0, i_1, j_0, j_1, i_lit, j_lit, i_n, iI_add, iI_sub, iI_mul, iI_neg, jI_add, jI_sub, jI_mul, jI_neg, sh_1, an_1, xo_1, di_p, dj_p, i_64A, i_64, j_32, lq_ge, lq_lt, lq_le, lq_gt, lq_eq, i_lt, i_le, i_eq, j_eq, iI_A, jI_J, iI_b, iI_v, jI_v, ↓reduceIte, ite_true, ite_false, Int.reduceEq, Int.reduceLT, Int.reduceLE, Int.reduceAdd, Int.reduceSub, Int.reduceMul, Int.reduceNeg, not_true_eq_false, not_false_eq_true, q0, q1, hs, hi]
theorem mj_new_l (hF : F = am_F T0 g) (hg : GG g) {x y o : Int} (x1 : -2147483648 ≤ x) (x2 : x < 2147483648) (y1 : -2147483648 ≤ y) (y2 : y < 2147483648) (hc : 0 ≤ A N 219 0 ∧ A N 219 0 ≤ 24) {R : Option Value × am_M} (hR : F 124 35 [.ref 219, .int (iI x), .int (iI y), .int (iI o), .int (iI (A N 219 0))] [] N = some R) : ∀ n k : Nat, (k : Int) + n = A N 219 0 → (¬ ∃ i : Int, (k : Int) ≤ i ∧ i < A N 219 0 ∧ A N 220 i = x ∧ A N 221 i = y) → F 124 35 [.ref 219, .int (iI x), .int (iI y), .int (iI o), .int (iI k)] [] N = some R := by
  intro n
  induction n with
  | zero =>
    intro k hk _
    have e : (k : Int) = A N 219 0 := by omega
    rw [e]; exact hR
  | succ n ih =>
    intro k hk hno
    refine s_Model_junction_35 hF hg ?_
    have q0 : ¬ A N 219 0 ≤ (k : Int) := by omega
    have hs : (k : Int) + 1 = ((k + 1 : Nat) : Int) := by omega
    have hi := ih (k + 1) (by omega) (fun ⟨i, i0, i1, i2, i3⟩ => hno ⟨i, by omega, i1, i2, i3⟩)
    by_cases q1 : A N 220 k = x
    · have q2 : ¬ A N 221 k = y := fun h => hno ⟨k, by omega, by omega, q1, h⟩
      simp (config := { maxSteps := 1000000 }) (disch := (first | omega | decide | assumption)) only [ltm_s, ok_n, rd_i, rd_j, fd_i, fd_j, wr_i, wr_j, fw_i, fw_j, ci_s, cj_s, cv_s, dv_n, dw_n, rt_1, rt_b, rt_20, rt_21, okb_0, okb_1, okb_b, nar_0, nar_1, nar_b, i_0, i_1, j_0, j_1, i_lit, j_lit, i_n, iI_add, iI_sub, iI_mul, iI_neg, jI_add, jI_sub, jI_mul, jI_neg, sh_1, an_1, xo_1, di_p, dj_p, i_64A, i_64, j_32, lq_ge, lq_lt, lq_le, lq_gt, lq_eq, i_lt, i_le, i_eq, j_eq, iI_A, jI_J, iI_b, iI_v, jI_v, ↓reduceIte, ite_true, ite_false, Int.reduceEq, Int.reduceLT, Int.reduceLE, Int.reduceAdd, Int.reduceSub, Int.reduceMul, Int.reduceNeg, not_true_eq_false, not_false_eq_true, q0, eq_true q1, q2, hs, hi]
    · simp (config := { maxSteps := 1000000 }) (disch := (first | omega | decide | assumption)) only [ltm_s, ok_n, rd_i, rd_j, fd_i, fd_j, wr_i, wr_j, fw_i, fw_j, ci_s, cj_s, cv_s, dv_n, dw_n, rt_1, rt_b, rt_20, rt_21, okb_0, okb_1, okb_b, nar_0, nar_1, nar_b, i_0, i_1, j_0, j_1, i_lit, j_lit, i_n, iI_add, iI_sub, iI_mul, iI_neg, jI_add, jI_sub, jI_mul, jI_neg, sh_1, an_1, xo_1, di_p, dj_p, i_64A, i_64, j_32, lq_ge, lq_lt, lq_le, lq_gt, lq_eq, i_lt, i_le, i_eq, j_eq, iI_A, jI_J, iI_b, iI_v, jI_v, ↓reduceIte, ite_true, ite_false, Int.reduceEq, Int.reduceLT, Int.reduceLE, Int.reduceAdd, Int.reduceSub, Int.reduceMul, Int.reduceNeg, not_true_eq_false, not_false_eq_true, q0, q1, hs, hi]
theorem c_junction (hF : F = am_F T0 g) (hg : GG g) {x y o : Int} (x1 : -2147483648 ≤ x) (x2 : x < 2147483648) (y1 : -2147483648 ≤ y) (y2 : y < 2147483648) (o1 : -2147483648 ≤ o) (o2 : o < 2147483648) (hc : 0 ≤ A N 1 3 ∧ A N 1 3 ≤ 24) (ht : 0 ≤ A N 1 17 ∧ (A N 1 3 < 24 → A N 1 17 < 72)) :
    ∃ (r : Int) (N' : am_M), F 205 0 [.ref 0, .int (iI x), .int (iI y), .int (iI o)] [] N = some (some (.int (iI r)), N') ∧ JS (A N 1 3) x y o (A N 2) (A N 3) r ∧ (r < 0 → N' = N) ∧ (0 ≤ r → N' = cJ N x y o) := by
  have cx := c_outside hF hg (M := N) (v := x) (l := 0) (h := 99) x1 x2 (by omega) (by omega) (by omega) (by omega)
  have cy := c_outside hF hg (M := N) (v := y) (l := 0) (h := 99) y1 y2 (by omega) (by omega) (by omega) (by omega)
  have co := c_noBit hF hg (M := N) o1 o2
  by_cases qx : x < 0 ∨ 99 < x
  · rw [bI_t qx] at cx
    refine ⟨-2, N, ?_, ⟨fun _ => rfl, fun h => ?_⟩, fun _ => rfl, fun h => by omega⟩
    · refine s_RunSayer_junction hF hg ?_
      simp (config := { maxSteps := 1000000 }) (disch := (first | omega | decide | assumption)) only [ltm_s, ok_n, rd_i, rd_j, fd_i, fd_j, wr_i, wr_j, fw_i, fw_j, ci_s, cj_s, cv_s, dv_n, dw_n, rt_1, rt_b, rt_20, rt_21, okb_0, okb_1, okb_b, nar_0, nar_1, nar_b, i_0, i_1, j_0, j_1, i_lit, j_lit, i_n, iI_add, iI_sub, iI_mul, iI_neg, jI_add, jI_sub, jI_mul, jI_neg, sh_1, an_1, xo_1, di_p, dj_p, i_64A, i_64, j_32, lq_ge, lq_lt, lq_le, lq_gt, lq_eq, i_lt, i_le, i_eq, j_eq, iI_A, jI_J, iI_b, iI_v, jI_v, ↓reduceIte, ite_true, ite_false, Int.reduceEq, Int.reduceLT, Int.reduceLE, Int.reduceAdd, Int.reduceSub, Int.reduceMul, Int.reduceNeg, not_true_eq_false, not_false_eq_true, cx]
    · unfold jok at h; omega
  rw [bI_f qx] at cx
  by_cases qy : y < 0 ∨ 99 < y
  · rw [bI_t qy] at cy
    refine ⟨-2, N, ?_, ⟨fun _ => rfl, fun h => ?_⟩, fun _ => rfl, fun h => by omega⟩
    · refine s_RunSayer_junction hF hg ?_
      simp (config := { maxSteps := 1000000 }) (disch := (first | omega | decide | assumption)) only [ltm_s, ok_n, rd_i, rd_j, fd_i, fd_j, wr_i, wr_j, fw_i, fw_j, ci_s, cj_s, cv_s, dv_n, dw_n, rt_1, rt_b, rt_20, rt_21, okb_0, okb_1, okb_b, nar_0, nar_1, nar_b, i_0, i_1, j_0, j_1, i_lit, j_lit, i_n, iI_add, iI_sub, iI_mul, iI_neg, jI_add, jI_sub, jI_mul, jI_neg, sh_1, an_1, xo_1, di_p, dj_p, i_64A, i_64, j_32, lq_ge, lq_lt, lq_le, lq_gt, lq_eq, i_lt, i_le, i_eq, j_eq, iI_A, jI_J, iI_b, iI_v, jI_v, ↓reduceIte, ite_true, ite_false, Int.reduceEq, Int.reduceLT, Int.reduceLE, Int.reduceAdd, Int.reduceSub, Int.reduceMul, Int.reduceNeg, not_true_eq_false, not_false_eq_true, cx, cy]
    · unfold jok at h; omega
  rw [bI_f qy] at cy
  by_cases qo : o < 0 ∨ 1 < o
  · rw [bI_t qo] at co
    refine ⟨-2, N, ?_, ⟨fun _ => rfl, fun h => ?_⟩, fun _ => rfl, fun h => by omega⟩
    · refine s_RunSayer_junction hF hg ?_
      simp (config := { maxSteps := 1000000 }) (disch := (first | omega | decide | assumption)) only [ltm_s, ok_n, rd_i, rd_j, fd_i, fd_j, wr_i, wr_j, fw_i, fw_j, ci_s, cj_s, cv_s, dv_n, dw_n, rt_1, rt_b, rt_20, rt_21, okb_0, okb_1, okb_b, nar_0, nar_1, nar_b, i_0, i_1, j_0, j_1, i_lit, j_lit, i_n, iI_add, iI_sub, iI_mul, iI_neg, jI_add, jI_sub, jI_mul, jI_neg, sh_1, an_1, xo_1, di_p, dj_p, i_64A, i_64, j_32, lq_ge, lq_lt, lq_le, lq_gt, lq_eq, i_lt, i_le, i_eq, j_eq, iI_A, jI_J, iI_b, iI_v, jI_v, ↓reduceIte, ite_true, ite_false, Int.reduceEq, Int.reduceLT, Int.reduceLE, Int.reduceAdd, Int.reduceSub, Int.reduceMul, Int.reduceNeg, not_true_eq_false, not_false_eq_true, cx, cy, co]
    · unfold jok at h; omega
  rw [bI_f qo] at co
  have hok : jok x y o := ⟨by omega, by omega, by omega⟩
  have up : ∀ (r : Int) (N' : am_M), F 84 3 [.ref 1, .int (iI x), .int (iI y), .int (iI o), .int (iI ((0 : Nat) : Int))] [] N = some (some (.int (iI r)), N') → F 205 0 [.ref 0, .int (iI x), .int (iI y), .int (iI o)] [] N = some (some (.int (iI r)), N') := fun r N' h => by
    have ha : F 84 0 [.ref 1, .int (iI x), .int (iI y), .int (iI o)] [] N = some (some (.int (iI r)), N') := by
      refine s_City_addJunction hF hg ?_
      exact h
    refine s_RunSayer_junction hF hg ?_
    simp (config := { maxSteps := 1000000 }) (disch := (first | omega | decide | assumption)) only [ltm_s, ok_n, rd_i, rd_j, fd_i, fd_j, wr_i, wr_j, fw_i, fw_j, ci_s, cj_s, cv_s, dv_n, dw_n, rt_1, rt_b, rt_20, rt_21, okb_0, okb_1, okb_b, nar_0, nar_1, nar_b, i_0, i_1, j_0, j_1, i_lit, j_lit, i_n, iI_add, iI_sub, iI_mul, iI_neg, jI_add, jI_sub, jI_mul, jI_neg, sh_1, an_1, xo_1, di_p, dj_p, i_64A, i_64, j_32, lq_ge, lq_lt, lq_le, lq_gt, lq_eq, i_lt, i_le, i_eq, j_eq, iI_A, jI_J, iI_b, iI_v, jI_v, ↓reduceIte, ite_true, ite_false, Int.reduceEq, Int.reduceLT, Int.reduceLE, Int.reduceAdd, Int.reduceSub, Int.reduceMul, Int.reduceNeg, not_true_eq_false, not_false_eq_true, cx, cy, co, ha]
  by_cases qd : jdu (A N 1 3) (A N 2) (A N 3) x y
  · obtain ⟨i, i0, i1, i2, i3⟩ := qd
    have hd := cj_dup_l hF hg (o := o) x1 x2 y1 y2 hc (A N 1 3).toNat 0 (by omega) ⟨i, by omega, i1, i2, i3⟩
    exact ⟨-3, N, up _ _ hd, ⟨fun h => absurd hok h, fun _ => ⟨fun _ => rfl, fun h => absurd ⟨i, i0, i1, i2, i3⟩ h⟩⟩, fun _ => rfl, fun h => by omega⟩
  have hno : ¬ ∃ i : Int, ((0 : Nat) : Int) ≤ i ∧ i < A N 1 3 ∧ A N 2 i = x ∧ A N 3 i = y := fun ⟨i, i0, i1, i2, i3⟩ => qd ⟨i, by omega, i1, i2, i3⟩
  by_cases qf : A N 1 3 = 24
  · have he : F 84 3 [.ref 1, .int (iI x), .int (iI y), .int (iI o), .int (iI (A N 1 3))] [] N = some (some (.int (iI (-4))), N) := by
      refine s_City_addJunction_3 hF hg ?_
      simp (config := { maxSteps := 1000000 }) (disch := (first | omega | decide | assumption)) only [ltm_s, ok_n, rd_i, rd_j, fd_i, fd_j, wr_i, wr_j, fw_i, fw_j, ci_s, cj_s, cv_s, dv_n, dw_n, rt_1, rt_b, rt_20, rt_21, okb_0, okb_1, okb_b, nar_0, nar_1, nar_b, i_0, i_1, j_0, j_1, i_lit, j_lit, i_n, iI_add, iI_sub, iI_mul, iI_neg, jI_add, jI_sub, jI_mul, jI_neg, sh_1, an_1, xo_1, di_p, dj_p, i_64A, i_64, j_32, lq_ge, lq_lt, lq_le, lq_gt, lq_eq, i_lt, i_le, i_eq, j_eq, iI_A, jI_J, iI_b, iI_v, jI_v, ↓reduceIte, ite_true, ite_false, Int.reduceEq, Int.reduceLT, Int.reduceLE, Int.reduceAdd, Int.reduceSub, Int.reduceMul, Int.reduceNeg, not_true_eq_false, not_false_eq_true, qf]
    have hd := cj_new_l hF hg (o := o) x1 x2 y1 y2 hc he (A N 1 3).toNat 0 (by omega) hno
    exact ⟨-4, N, up _ _ hd, ⟨fun h => absurd hok h, fun _ => ⟨fun h => absurd h qd, fun _ => ⟨fun _ => rfl, fun h => absurd qf h⟩⟩⟩, fun _ => rfl, fun h => by omega⟩
  · have q24 : A N 1 3 < 24 := by omega
    have qt := ht.2 q24
    have qr : A N 1 3 ≤ A N 1 3 := Int.le_refl _
    obtain ⟨C1, g1⟩ : ∃ z : am_M, z = W_ (W_ (W_ (W_ N 2 (A N 1 3) x) 3 (A N 1 3) y) 4 (A N 1 3) o) 1 3 (A N 1 3 + 1) := ⟨_, rfl⟩
    have t17 : A C1 1 17 = A N 1 17 := by
      rw [g1]; simp (config := { maxSteps := 1000000 }) (disch := (first | omega | decide | assumption)) only [ltm_s, ok_n, rd_i, rd_j, fd_i, fd_j, wr_i, wr_j, fw_i, fw_j, ci_s, cj_s, cv_s, dv_n, dw_n, rt_1, rt_b, rt_20, rt_21, okb_0, okb_1, okb_b, nar_0, nar_1, nar_b, i_0, i_1, j_0, j_1, i_lit, j_lit, i_n, iI_add, iI_sub, iI_mul, iI_neg, jI_add, jI_sub, jI_mul, jI_neg, sh_1, an_1, xo_1, di_p, dj_p, i_64A, i_64, j_32, lq_ge, lq_lt, lq_le, lq_gt, lq_eq, i_lt, i_le, i_eq, j_eq, iI_A, jI_J, iI_b, iI_v, jI_v, ↓reduceIte, ite_true, ite_false, Int.reduceEq, Int.reduceLT, Int.reduceLE, Int.reduceAdd, Int.reduceSub, Int.reduceMul, Int.reduceNeg, not_true_eq_false, not_false_eq_true, A_Wn, A_WA, A_Wb, A_Ws, A_Wo, A_X, J_W, J_Xn, J_XJ, J_Xs, J_Xo]
    have at1 := c_addThing hF hg (s := 0) (k := A N 1 3) t17 (by omega) (by omega)
    have ec : W_ (W_ (W_ C1 14 (A N 1 17) 0) 15 (A N 1 17) (A N 1 3)) 1 17 (A N 1 17 + 1) = cJ N x y o := by
      rw [g1]; rfl
    rw [ec] at at1
    have he : F 84 3 [.ref 1, .int (iI x), .int (iI y), .int (iI o), .int (iI (A N 1 3))] [] N = some (some (.int (iI (A N 1 3))), cJ N x y o) := by
      refine s_City_addJunction_3 hF hg ?_
      simp (config := { maxSteps := 1000000 }) (disch := (first | omega | decide | assumption)) only [ltm_s, ok_n, rd_i, rd_j, fd_i, fd_j, wr_i, wr_j, fw_i, fw_j, ci_s, cj_s, cv_s, dv_n, dw_n, rt_1, rt_b, rt_20, rt_21, okb_0, okb_1, okb_b, nar_0, nar_1, nar_b, i_0, i_1, j_0, j_1, i_lit, j_lit, i_n, iI_add, iI_sub, iI_mul, iI_neg, jI_add, jI_sub, jI_mul, jI_neg, sh_1, an_1, xo_1, di_p, dj_p, i_64A, i_64, j_32, lq_ge, lq_lt, lq_le, lq_gt, lq_eq, i_lt, i_le, i_eq, j_eq, iI_A, jI_J, iI_b, iI_v, jI_v, ↓reduceIte, ite_true, ite_false, Int.reduceEq, Int.reduceLT, Int.reduceLE, Int.reduceAdd, Int.reduceSub, Int.reduceMul, Int.reduceNeg, not_true_eq_false, not_false_eq_true, A_Wn, A_WA, A_Wb, A_Ws, A_Wo, A_X, J_W, J_Xn, J_XJ, J_Xs, J_Xo, qr, q24, g1.symm, at1]
    have hd := cj_new_l hF hg (o := o) x1 x2 y1 y2 hc he (A N 1 3).toNat 0 (by omega) hno
    exact ⟨A N 1 3, cJ N x y o, up _ _ hd, ⟨fun h => absurd hok h, fun _ => ⟨fun h => absurd h qd, fun _ => ⟨fun h => absurd h qf, fun _ => rfl⟩⟩⟩, fun h => by omega, fun _ => rfl⟩
theorem m_junction (hF : F = am_F T0 g) (hg : GG g) {x y o : Int} (x1 : -2147483648 ≤ x) (x2 : x < 2147483648) (y1 : -2147483648 ≤ y) (y2 : y < 2147483648) (o1 : -2147483648 ≤ o) (o2 : o < 2147483648) (hc : 0 ≤ A N 219 0 ∧ A N 219 0 ≤ 24) (ht : 0 ≤ A N 219 31 ∧ (A N 219 0 < 24 → A N 219 31 < 72)) :
    ∃ (r : Int) (N' : am_M), F 124 0 [.ref 219, .int (iI x), .int (iI y), .int (iI o)] [] N = some (some (.int (iI r)), N') ∧ JS (A N 219 0) x y o (A N 220) (A N 221) r ∧ (r < 0 → N' = N) ∧ (0 ≤ r → N' = mJ N x y o) := by
  have cx := m_inn hF hg (M := N) (v := x) (l := 0) (h := 99) x1 x2 (by omega) (by omega) (by omega) (by omega)
  have cy := m_inn hF hg (M := N) (v := y) (l := 0) (h := 99) y1 y2 (by omega) (by omega) (by omega) (by omega)
  have co := m_inn hF hg (M := N) (v := o) (l := 0) (h := 1) o1 o2 (by omega) (by omega) (by omega) (by omega)
  by_cases qx : 0 ≤ x ∧ x ≤ 99
  · rw [bI_t qx] at cx
    by_cases qy : 0 ≤ y ∧ y ≤ 99
    · rw [bI_t qy] at cy
      by_cases qo : 0 ≤ o ∧ o ≤ 1
      · rw [bI_t qo] at co
        have hok : jok x y o := ⟨by omega, by omega, by omega⟩
        have up : ∀ (r : Int) (N' : am_M), F 124 35 [.ref 219, .int (iI x), .int (iI y), .int (iI o), .int (iI ((0 : Nat) : Int))] [] N = some (some (.int (iI r)), N') → F 124 0 [.ref 219, .int (iI x), .int (iI y), .int (iI o)] [] N = some (some (.int (iI r)), N') := fun r N' h => by
          refine s_Model_junction hF hg ?_
          refine ci_in cx ?_
          rw [if_neg (show ¬ iI 1 = 0 by decide)]
          refine ci_in cy ?_
          rw [if_neg (show ¬ iI 1 = 0 by decide)]
          refine ci_in co ?_
          rw [if_neg (show ¬ iI 1 = 0 by decide)]
          exact h
        by_cases qd : jdu (A N 219 0) (A N 220) (A N 221) x y
        · obtain ⟨i, i0, i1, i2, i3⟩ := qd
          have hd := mj_dup_l hF hg (o := o) x1 x2 y1 y2 hc (A N 219 0).toNat 0 (by omega) ⟨i, by omega, i1, i2, i3⟩
          exact ⟨-3, N, up _ _ hd, ⟨fun h => absurd hok h, fun _ => ⟨fun _ => rfl, fun h => absurd ⟨i, i0, i1, i2, i3⟩ h⟩⟩, fun _ => rfl, fun h => by omega⟩
        have hno : ¬ ∃ i : Int, ((0 : Nat) : Int) ≤ i ∧ i < A N 219 0 ∧ A N 220 i = x ∧ A N 221 i = y := fun ⟨i, i0, i1, i2, i3⟩ => qd ⟨i, by omega, i1, i2, i3⟩
        by_cases qf : A N 219 0 = 24
        · have he : F 124 35 [.ref 219, .int (iI x), .int (iI y), .int (iI o), .int (iI (A N 219 0))] [] N = some (some (.int (iI (-4))), N) := by
            refine s_Model_junction_35 hF hg ?_
            simp (config := { maxSteps := 1000000 }) (disch := (first | omega | decide | assumption)) only [ltm_s, ok_n, rd_i, rd_j, fd_i, fd_j, wr_i, wr_j, fw_i, fw_j, ci_s, cj_s, cv_s, dv_n, dw_n, rt_1, rt_b, rt_20, rt_21, okb_0, okb_1, okb_b, nar_0, nar_1, nar_b, i_0, i_1, j_0, j_1, i_lit, j_lit, i_n, iI_add, iI_sub, iI_mul, iI_neg, jI_add, jI_sub, jI_mul, jI_neg, sh_1, an_1, xo_1, di_p, dj_p, i_64A, i_64, j_32, lq_ge, lq_lt, lq_le, lq_gt, lq_eq, i_lt, i_le, i_eq, j_eq, iI_A, jI_J, iI_b, iI_v, jI_v, ↓reduceIte, ite_true, ite_false, Int.reduceEq, Int.reduceLT, Int.reduceLE, Int.reduceAdd, Int.reduceSub, Int.reduceMul, Int.reduceNeg, not_true_eq_false, not_false_eq_true, qf]
          have hd := mj_new_l hF hg (o := o) x1 x2 y1 y2 hc he (A N 219 0).toNat 0 (by omega) hno
          exact ⟨-4, N, up _ _ hd, ⟨fun h => absurd hok h, fun _ => ⟨fun h => absurd h qd, fun _ => ⟨fun _ => rfl, fun h => absurd qf h⟩⟩⟩, fun _ => rfl, fun h => by omega⟩
        · have q24 : A N 219 0 < 24 := by omega
          have qt := ht.2 q24
          have qr : A N 219 0 ≤ A N 219 0 := Int.le_refl _
          obtain ⟨C1, g1⟩ : ∃ z : am_M, z = W_ (W_ (W_ (W_ N 220 (A N 219 0) x) 221 (A N 219 0) y) 222 (A N 219 0) o) 219 0 (A N 219 0 + 1) := ⟨_, rfl⟩
          have t17 : A C1 219 31 = A N 219 31 := by
            rw [g1]; simp (config := { maxSteps := 1000000 }) (disch := (first | omega | decide | assumption)) only [ltm_s, ok_n, rd_i, rd_j, fd_i, fd_j, wr_i, wr_j, fw_i, fw_j, ci_s, cj_s, cv_s, dv_n, dw_n, rt_1, rt_b, rt_20, rt_21, okb_0, okb_1, okb_b, nar_0, nar_1, nar_b, i_0, i_1, j_0, j_1, i_lit, j_lit, i_n, iI_add, iI_sub, iI_mul, iI_neg, jI_add, jI_sub, jI_mul, jI_neg, sh_1, an_1, xo_1, di_p, dj_p, i_64A, i_64, j_32, lq_ge, lq_lt, lq_le, lq_gt, lq_eq, i_lt, i_le, i_eq, j_eq, iI_A, jI_J, iI_b, iI_v, jI_v, ↓reduceIte, ite_true, ite_false, Int.reduceEq, Int.reduceLT, Int.reduceLE, Int.reduceAdd, Int.reduceSub, Int.reduceMul, Int.reduceNeg, not_true_eq_false, not_false_eq_true, A_Wn, A_WA, A_Wb, A_Ws, A_Wo, A_X, J_W, J_Xn, J_XJ, J_Xs, J_Xo]
          have c10 : A C1 219 0 = A N 219 0 + 1 := by
            rw [g1]; simp (config := { maxSteps := 1000000 }) (disch := (first | omega | decide | assumption)) only [ltm_s, ok_n, rd_i, rd_j, fd_i, fd_j, wr_i, wr_j, fw_i, fw_j, ci_s, cj_s, cv_s, dv_n, dw_n, rt_1, rt_b, rt_20, rt_21, okb_0, okb_1, okb_b, nar_0, nar_1, nar_b, i_0, i_1, j_0, j_1, i_lit, j_lit, i_n, iI_add, iI_sub, iI_mul, iI_neg, jI_add, jI_sub, jI_mul, jI_neg, sh_1, an_1, xo_1, di_p, dj_p, i_64A, i_64, j_32, lq_ge, lq_lt, lq_le, lq_gt, lq_eq, i_lt, i_le, i_eq, j_eq, iI_A, jI_J, iI_b, iI_v, jI_v, ↓reduceIte, ite_true, ite_false, Int.reduceEq, Int.reduceLT, Int.reduceLE, Int.reduceAdd, Int.reduceSub, Int.reduceMul, Int.reduceNeg, not_true_eq_false, not_false_eq_true, A_Wn, A_WA, A_Wb, A_Ws, A_Wo, A_X, J_W, J_Xn, J_XJ, J_Xs, J_Xo]
          have at1 := m_comes hF hg (s := 0) (k := A N 219 0) t17 (by omega) (by omega)
          have ec : W_ (W_ (W_ C1 244 (A N 219 31) 0) 245 (A N 219 31) (A N 219 0)) 219 31 (A N 219 31 + 1) = mJ N x y o := by
            rw [g1]; rfl
          rw [ec] at at1
          have he : F 124 35 [.ref 219, .int (iI x), .int (iI y), .int (iI o), .int (iI (A N 219 0))] [] N = some (some (.int (iI (A N 219 0))), mJ N x y o) := by
            refine s_Model_junction_35 hF hg ?_
            have ho : o = 0 ∨ o = 1 := by omega
            clear cx cy co qo hok up
            rcases ho with rfl | rfl
            · simp (config := { maxSteps := 1000000 }) (disch := (first | omega | decide | assumption)) only [ltm_s, ok_n, rd_i, rd_j, fd_i, fd_j, wr_i, wr_j, fw_i, fw_j, ci_s, cj_s, cv_s, dv_n, dw_n, rt_1, rt_b, rt_20, rt_21, okb_0, okb_1, okb_b, nar_0, nar_1, nar_b, i_0, i_1, j_0, j_1, i_lit, j_lit, i_n, iI_add, iI_sub, iI_mul, iI_neg, jI_add, jI_sub, jI_mul, jI_neg, sh_1, an_1, xo_1, di_p, dj_p, i_64A, i_64, j_32, lq_ge, lq_lt, lq_le, lq_gt, lq_eq, i_lt, i_le, i_eq, j_eq, iI_A, jI_J, iI_b, iI_v, jI_v, ↓reduceIte, ite_true, ite_false, Int.reduceEq, Int.reduceLT, Int.reduceLE, Int.reduceAdd, Int.reduceSub, Int.reduceMul, Int.reduceNeg, not_true_eq_false, not_false_eq_true, A_Wn, A_WA, A_Wb, A_Ws, A_Wo, A_X, J_W, J_Xn, J_XJ, J_Xs, J_Xo, qr, qf, nar_0, g1.symm, c10, Int.add_sub_cancel, at1]
            · simp (config := { maxSteps := 1000000 }) (disch := (first | omega | decide | assumption)) only [ltm_s, ok_n, rd_i, rd_j, fd_i, fd_j, wr_i, wr_j, fw_i, fw_j, ci_s, cj_s, cv_s, dv_n, dw_n, rt_1, rt_b, rt_20, rt_21, okb_0, okb_1, okb_b, nar_0, nar_1, nar_b, i_0, i_1, j_0, j_1, i_lit, j_lit, i_n, iI_add, iI_sub, iI_mul, iI_neg, jI_add, jI_sub, jI_mul, jI_neg, sh_1, an_1, xo_1, di_p, dj_p, i_64A, i_64, j_32, lq_ge, lq_lt, lq_le, lq_gt, lq_eq, i_lt, i_le, i_eq, j_eq, iI_A, jI_J, iI_b, iI_v, jI_v, ↓reduceIte, ite_true, ite_false, Int.reduceEq, Int.reduceLT, Int.reduceLE, Int.reduceAdd, Int.reduceSub, Int.reduceMul, Int.reduceNeg, not_true_eq_false, not_false_eq_true, A_Wn, A_WA, A_Wb, A_Ws, A_Wo, A_X, J_W, J_Xn, J_XJ, J_Xs, J_Xo, qr, qf, nar_1, g1.symm, c10, Int.add_sub_cancel, at1]
          have hd := mj_new_l hF hg (o := o) x1 x2 y1 y2 hc he (A N 219 0).toNat 0 (by omega) hno
          exact ⟨A N 219 0, mJ N x y o, up _ _ hd, ⟨fun h => absurd hok h, fun _ => ⟨fun h => absurd h qd, fun _ => ⟨fun h => absurd h qf, fun _ => rfl⟩⟩⟩, fun h => by omega, fun _ => rfl⟩
      · rw [bI_f qo] at co
        refine ⟨-2, N, ?_, ⟨fun _ => rfl, fun h => ?_⟩, fun _ => rfl, fun h => by omega⟩
        · refine s_Model_junction hF hg ?_
          simp (config := { maxSteps := 1000000 }) (disch := (first | omega | decide | assumption)) only [ltm_s, ok_n, rd_i, rd_j, fd_i, fd_j, wr_i, wr_j, fw_i, fw_j, ci_s, cj_s, cv_s, dv_n, dw_n, rt_1, rt_b, rt_20, rt_21, okb_0, okb_1, okb_b, nar_0, nar_1, nar_b, i_0, i_1, j_0, j_1, i_lit, j_lit, i_n, iI_add, iI_sub, iI_mul, iI_neg, jI_add, jI_sub, jI_mul, jI_neg, sh_1, an_1, xo_1, di_p, dj_p, i_64A, i_64, j_32, lq_ge, lq_lt, lq_le, lq_gt, lq_eq, i_lt, i_le, i_eq, j_eq, iI_A, jI_J, iI_b, iI_v, jI_v, ↓reduceIte, ite_true, ite_false, Int.reduceEq, Int.reduceLT, Int.reduceLE, Int.reduceAdd, Int.reduceSub, Int.reduceMul, Int.reduceNeg, not_true_eq_false, not_false_eq_true, cx, cy, co]
        · unfold jok at h; omega
    · rw [bI_f qy] at cy
      refine ⟨-2, N, ?_, ⟨fun _ => rfl, fun h => ?_⟩, fun _ => rfl, fun h => by omega⟩
      · refine s_Model_junction hF hg ?_
        simp (config := { maxSteps := 1000000 }) (disch := (first | omega | decide | assumption)) only [ltm_s, ok_n, rd_i, rd_j, fd_i, fd_j, wr_i, wr_j, fw_i, fw_j, ci_s, cj_s, cv_s, dv_n, dw_n, rt_1, rt_b, rt_20, rt_21, okb_0, okb_1, okb_b, nar_0, nar_1, nar_b, i_0, i_1, j_0, j_1, i_lit, j_lit, i_n, iI_add, iI_sub, iI_mul, iI_neg, jI_add, jI_sub, jI_mul, jI_neg, sh_1, an_1, xo_1, di_p, dj_p, i_64A, i_64, j_32, lq_ge, lq_lt, lq_le, lq_gt, lq_eq, i_lt, i_le, i_eq, j_eq, iI_A, jI_J, iI_b, iI_v, jI_v, ↓reduceIte, ite_true, ite_false, Int.reduceEq, Int.reduceLT, Int.reduceLE, Int.reduceAdd, Int.reduceSub, Int.reduceMul, Int.reduceNeg, not_true_eq_false, not_false_eq_true, cx, cy]
      · unfold jok at h; omega
  · rw [bI_f qx] at cx
    refine ⟨-2, N, ?_, ⟨fun _ => rfl, fun h => ?_⟩, fun _ => rfl, fun h => by omega⟩
    · refine s_Model_junction hF hg ?_
      simp (config := { maxSteps := 1000000 }) (disch := (first | omega | decide | assumption)) only [ltm_s, ok_n, rd_i, rd_j, fd_i, fd_j, wr_i, wr_j, fw_i, fw_j, ci_s, cj_s, cv_s, dv_n, dw_n, rt_1, rt_b, rt_20, rt_21, okb_0, okb_1, okb_b, nar_0, nar_1, nar_b, i_0, i_1, j_0, j_1, i_lit, j_lit, i_n, iI_add, iI_sub, iI_mul, iI_neg, jI_add, jI_sub, jI_mul, jI_neg, sh_1, an_1, xo_1, di_p, dj_p, i_64A, i_64, j_32, lq_ge, lq_lt, lq_le, lq_gt, lq_eq, i_lt, i_le, i_eq, j_eq, iI_A, jI_J, iI_b, iI_v, jI_v, ↓reduceIte, ite_true, ite_false, Int.reduceEq, Int.reduceLT, Int.reduceLE, Int.reduceAdd, Int.reduceSub, Int.reduceMul, Int.reduceNeg, not_true_eq_false, not_false_eq_true, cx]
    · unfold jok at h; omega
end Jn
