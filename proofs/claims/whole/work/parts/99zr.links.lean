/-! LINKS NUMBERED -/
section Lk
variable {M N : am_M} {g : am_G} {F : am_FT} {rt : Nat}
def Lks (M N : am_M) (R : Int) (w : Nat) (lg : Int → Int) (s : Int) : Prop :=
  (A M 42 2 ≤ A N 42 2 ∧ A N 42 2 ≤ 20 * R + s) ∧ L14 N ∧ (∀ r : Int, 0 ≤ r → ¬ r = R → A N 57 r = A M 57 r) ∧ (0 ≤ A N 57 R ∧ A N 57 R ≤ s) ∧
  (∀ j : Int, 0 ≤ j → j < A N 57 R → (0 ≤ A N w j ∧ A N w j < A N 42 2) ∧ ∃ i : Int, 0 ≤ i ∧ i < s ∧ A N 45 (80 * lg i + lg (i + 1)) = A N w j + 1) ∧
  (∀ j l : Int, 0 ≤ j → j < l → l < A N 57 R → ¬ A N w j = A N w l) ∧
  (∀ i : Int, 0 ≤ i → i < s → ∃ j : Int, 0 ≤ j ∧ j < A N 57 R ∧ A N w j + 1 = A N 45 (80 * lg i + lg (i + 1))) ∧
  ∀ t : Int, 0 ≤ t → (¬ A M 45 t = 0 → A N 45 t = A M 45 t) ∧ (A M 45 t = 0 → A N 45 t = 0 ∨ A M 42 2 < A N 45 t)
theorem c_isInRun_l (hF : F = am_F T0 g) (hg : GG g) {R x n : Int} (R0 : 0 ≤ R) (R1 : R < 10) (x0 : -2147483648 ≤ x) (x1 : x < 2147483648) (hn : A M 57 R = n) (n1 : n ≤ 20) : ∀ (m k : Nat), (k : Int) + m = n → F 38 2 [.ref 42, .int (iI R), .int (iI x), .int (iI (k : Int))] [] M = some (some (.int (iI (bI (∃ j : Int, (k : Int) ≤ j ∧ j < n ∧ A M (47 + 1 * R.toNat) j = x)))), M) := by
  have hR : (iI R).toNatClampNeg = R.toNat := iI_n (by omega) (by omega)
  intro m
  induction m with
  | zero =>
    intro k hk
    rw [bI_f (fun ⟨j, j0, j1, _⟩ => by omega)]
    have u : n ≤ (k : Int) := by omega
    refine s_Links_isInRun_2 hF hg ?_
    simp (config := { maxSteps := 1000000 }) (disch := (first | omega | decide | assumption)) only [ltm_s, ok_n, rd_i, rd_j, fd_i, fd_j, wr_i, wr_j, fw_i, fw_j, ci_s, cj_s, cv_s, dv_n, dw_n, rt_1, rt_b, rt_20, rt_21, okb_0, okb_1, okb_b, nar_0, nar_1, nar_b, i_0, i_1, j_0, j_1, i_lit, j_lit, i_n, iI_add, iI_sub, iI_mul, iI_neg, jI_add, jI_sub, jI_mul, jI_neg, sh_1, an_1, xo_1, di_p, dj_p, i_64A, i_64, j_32, lq_ge, lq_lt, lq_le, lq_gt, lq_eq, i_lt, i_le, i_eq, j_eq, iI_A, jI_J, iI_b, iI_v, jI_v, ↓reduceIte, ite_true, ite_false, Int.reduceEq, Int.reduceLT, Int.reduceLE, Int.reduceAdd, Int.reduceSub, Int.reduceMul, Int.reduceNeg, not_true_eq_false, not_false_eq_true, iI_n, rdn_i, rdn_j, wrn_i, wrn_j, hn, u]
  | succ m ih =>
    intro k hk
    have hs : ((k + 1 : Nat) : Int) = (k : Int) + 1 := by omega
    have u : ¬ n ≤ (k : Int) := by omega
    have r := ih (k + 1) (by omega)
    rw [hs] at r
    refine s_Links_isInRun_2 hF hg ?_
    by_cases q : A M (47 + 1 * R.toNat) k = x
    · rw [bI_t ⟨k, Int.le_refl _, by omega, q⟩]
      have q := eq_true q
      simp (config := { maxSteps := 1000000 }) (disch := (first | omega | decide | assumption)) only [ltm_s, ok_n, rd_i, rd_j, fd_i, fd_j, wr_i, wr_j, fw_i, fw_j, ci_s, cj_s, cv_s, dv_n, dw_n, rt_1, rt_b, rt_20, rt_21, okb_0, okb_1, okb_b, nar_0, nar_1, nar_b, i_0, i_1, j_0, j_1, i_lit, j_lit, i_n, iI_add, iI_sub, iI_mul, iI_neg, jI_add, jI_sub, jI_mul, jI_neg, sh_1, an_1, xo_1, di_p, dj_p, i_64A, i_64, j_32, lq_ge, lq_lt, lq_le, lq_gt, lq_eq, i_lt, i_le, i_eq, j_eq, iI_A, jI_J, iI_b, iI_v, jI_v, ↓reduceIte, ite_true, ite_false, Int.reduceEq, Int.reduceLT, Int.reduceLE, Int.reduceAdd, Int.reduceSub, Int.reduceMul, Int.reduceNeg, not_true_eq_false, not_false_eq_true, iI_n, rdn_i, rdn_j, wrn_i, wrn_j, hn, u, q]
    · have e : bI (∃ j : Int, (k : Int) ≤ j ∧ j < n ∧ A M (47 + 1 * R.toNat) j = x) = bI (∃ j : Int, (k : Int) + 1 ≤ j ∧ j < n ∧ A M (47 + 1 * R.toNat) j = x) := by
        by_cases z : ∃ j : Int, (k : Int) + 1 ≤ j ∧ j < n ∧ A M (47 + 1 * R.toNat) j = x
        · rw [bI_t z]
          obtain ⟨j, j0, j1, j2⟩ := z
          rw [bI_t ⟨j, by omega, j1, j2⟩]
        · rw [bI_f z, bI_f (fun ⟨j, j0, j1, j2⟩ => by
            by_cases ej : j = k
            · rw [ej] at j2; exact q j2
            · exact z ⟨j, by omega, j1, j2⟩)]
      rw [e]
      simp (config := { maxSteps := 1000000 }) (disch := (first | omega | decide | assumption)) only [ltm_s, ok_n, rd_i, rd_j, fd_i, fd_j, wr_i, wr_j, fw_i, fw_j, ci_s, cj_s, cv_s, dv_n, dw_n, rt_1, rt_b, rt_20, rt_21, okb_0, okb_1, okb_b, nar_0, nar_1, nar_b, i_0, i_1, j_0, j_1, i_lit, j_lit, i_n, iI_add, iI_sub, iI_mul, iI_neg, jI_add, jI_sub, jI_mul, jI_neg, sh_1, an_1, xo_1, di_p, dj_p, i_64A, i_64, j_32, lq_ge, lq_lt, lq_le, lq_gt, lq_eq, i_lt, i_le, i_eq, j_eq, iI_A, jI_J, iI_b, iI_v, jI_v, ↓reduceIte, ite_true, ite_false, Int.reduceEq, Int.reduceLT, Int.reduceLE, Int.reduceAdd, Int.reduceSub, Int.reduceMul, Int.reduceNeg, not_true_eq_false, not_false_eq_true, iI_n, rdn_i, rdn_j, wrn_i, wrn_j, hn, u, q, r]
theorem c_isInRun (hF : F = am_F T0 g) (hg : GG g) {R x n : Int} (R0 : 0 ≤ R) (R1 : R < 10) (x0 : -2147483648 ≤ x) (x1 : x < 2147483648) (hn : A M 57 R = n) (n0 : 0 ≤ n) (n1 : n ≤ 20) : F 38 0 [.ref 42, .int (iI R), .int (iI x)] [] M = some (some (.int (iI (bI (∃ j : Int, 0 ≤ j ∧ j < n ∧ A M (47 + 1 * R.toNat) j = x)))), M) := by
  have r := c_isInRun_l hF hg R0 R1 x0 x1 hn n1 n.toNat 0 (by omega)
  have z0 : ((0 : Nat) : Int) = 0 := rfl
  rw [z0] at r
  exact s_Links_isInRun hF hg r
theorem c_numberOf (hF : F = am_F T0 g) (hg : GG g) {e f t v : Int} (e0 : 0 ≤ e) (e1 : e < 80) (f0 : 0 ≤ f) (f1 : f < 80) (ht : t = 80 * e + f) (hv : A M 45 t = v) (v0 : 0 ≤ v) : F 39 0 [.ref 42, .int (iI e), .int (iI f)] [] M = some (some (.int (iI (v - 1))), M) := by
  have et : e * 80 + f = t := by omega
  have t0 : 0 ≤ t := by omega
  have t1 : t < 6400 := by omega
  refine s_Links_numberOf hF hg ?_
  simp (config := { maxSteps := 1000000 }) (disch := (first | omega | decide | assumption)) only [ltm_s, ok_n, rd_i, rd_j, fd_i, fd_j, wr_i, wr_j, fw_i, fw_j, ci_s, cj_s, cv_s, dv_n, dw_n, rt_1, rt_b, rt_20, rt_21, okb_0, okb_1, okb_b, nar_0, nar_1, nar_b, i_0, i_1, j_0, j_1, i_lit, j_lit, i_n, iI_add, iI_sub, iI_mul, iI_neg, jI_add, jI_sub, jI_mul, jI_neg, sh_1, an_1, xo_1, di_p, dj_p, i_64A, i_64, j_32, lq_ge, lq_lt, lq_le, lq_gt, lq_eq, i_lt, i_le, i_eq, j_eq, iI_A, jI_J, iI_b, iI_v, jI_v, ↓reduceIte, ite_true, ite_false, Int.reduceEq, Int.reduceLT, Int.reduceLE, Int.reduceAdd, Int.reduceSub, Int.reduceMul, Int.reduceNeg, not_true_eq_false, not_false_eq_true, et, hv]
-- one link
theorem c_numbered (hF : F = am_F T0 g) (hg : GG g) {e f t c : Int} (e0 : 0 ≤ e) (e1 : e < 80) (f0 : 0 ≤ f) (f1 : f < 80) (ht : t = 80 * e + f) (hL : L14 M) (hc : A M 42 2 = c) (c0 : 0 ≤ c) (c1 : c < 200) :
    ∃ (x c' : Int) (N : am_M), F 105 0 [.ref 42, .int (iI e), .int (iI f)] [] M = some (some (.int (iI x)), N) ∧ Ch [43, 44, 45] [(42, 2)] M N ∧ L14 N ∧ A N 42 2 = c' ∧ (c ≤ c' ∧ c' ≤ c + 1) ∧ (0 ≤ x ∧ x < c') ∧ A N 45 t = x + 1 ∧ ∀ u : Int, 0 ≤ u → (¬ A M 45 u = 0 → A N 45 u = A M 45 u) ∧ (A M 45 u = 0 → A N 45 u = 0 ∨ c < A N 45 u) := by
  have t0 : 0 ≤ t := by omega
  have t1 : t < 6400 := by omega
  obtain ⟨L1, L2⟩ := hL
  obtain ⟨⟨v0, v1⟩, v2⟩ := L2 t t0 t1
  have no := c_numberOf hF hg e0 e1 f0 f1 ht rfl v0
  by_cases q : A M 45 t = 0
  · have c45 := q
    obtain ⟨N1, g1⟩ : ∃ y : am_M, y = W_ M 43 c e := ⟨_, rfl⟩
    obtain ⟨N2, g2⟩ : ∃ y : am_M, y = W_ N1 44 c f := ⟨_, rfl⟩
    obtain ⟨N3, g3⟩ : ∃ y : am_M, y = W_ N2 42 2 (c + 1) := ⟨_, rfl⟩
    obtain ⟨N4, g4⟩ : ∃ y : am_M, y = W_ N3 45 t (c + 1) := ⟨_, rfl⟩
    have c4 : Ch [43, 44, 45] [(42, 2)] M N4 := by
      rw [g4, g3, g2, g1]
      exact (((Ch.refl.wm (Or.inl (by decide))).wm (Or.inl (by decide))).wm (Or.inr (by decide))).wm (Or.inl (by decide))
    have a42 : A N4 42 2 = c + 1 := by rw [g4, A_Wn (by decide), g3]; exact A_Ws (by omega) (by omega)
    have a43 : ∀ z : Int, 0 ≤ z → A N4 43 z = if z = c then e else A M 43 z := fun z z0 => by
      rw [g4, A_Wn (by decide), g3, A_Wn (by decide), g2, A_Wn (by decide), g1]
      by_cases h : z = c
      · rw [if_pos h, h]; exact A_Ws (by omega) (by omega)
      · rw [if_neg h, A_Wo (by omega) z0 h]
    have a44 : ∀ z : Int, 0 ≤ z → A N4 44 z = if z = c then f else A M 44 z := fun z z0 => by
      rw [g4, A_Wn (by decide), g3, A_Wn (by decide), g2]
      by_cases h : z = c
      · rw [if_pos h, h]; exact A_Ws (by omega) (by omega)
      · rw [if_neg h, A_Wo (by omega) z0 h, g1, A_Wn (by decide)]
    have a45 : ∀ z : Int, 0 ≤ z → A N4 45 z = if z = t then c + 1 else A M 45 z := fun z z0 => by
      rw [g4]
      by_cases h : z = t
      · rw [if_pos h, h]; exact A_Ws (by omega) (by omega)
      · rw [if_neg h, A_Wo (by omega) z0 h, g3, A_Wn (by decide), g2, A_Wn (by decide), g1, A_Wn (by decide)]
    have at_ : A N4 45 t = c + 1 := by rw [a45 t t0, if_pos rfl]
    have no4 := c_numberOf hF hg e0 e1 f0 f1 ht at_ (by omega)
    refine ⟨c, c + 1, N4, ?_, c4, ⟨fun l l0 l1 => ?_, fun u u0 u1 => ?_⟩, a42, by omega, by omega, at_, fun u u0 => ⟨fun h => ?_, fun h => ?_⟩⟩
    · have et : e * 80 + f = t := by omega
      have h1 : A N1 42 2 = c := by rw [g1, A_Wn (by decide)]; exact hc
      have h2 : A N2 42 2 = c := by rw [g2, A_Wn (by decide)]; exact h1
      have h3 : A N3 42 2 = c + 1 := by rw [g3]; exact A_Ws (by omega) (by omega)
      have e1' : c + 1 - 1 = c := by omega
      have u2 : ¬ 200 ≤ c := by omega
      have m1 : ¬ (0 : Int) ≤ 0 - 1 := by omega
      rw [q] at no
      rw [e1'] at no4
      refine s_Links_numberedLink hF hg ?_
      simp (config := { maxSteps := 1000000 }) (disch := (first | omega | decide | assumption)) only [ltm_s, ok_n, rd_i, rd_j, fd_i, fd_j, wr_i, wr_j, fw_i, fw_j, ci_s, cj_s, cv_s, dv_n, dw_n, rt_1, rt_b, rt_20, rt_21, okb_0, okb_1, okb_b, nar_0, nar_1, nar_b, i_0, i_1, j_0, j_1, i_lit, j_lit, i_n, iI_add, iI_sub, iI_mul, iI_neg, jI_add, jI_sub, jI_mul, jI_neg, sh_1, an_1, xo_1, di_p, dj_p, i_64A, i_64, j_32, lq_ge, lq_lt, lq_le, lq_gt, lq_eq, i_lt, i_le, i_eq, j_eq, iI_A, jI_J, iI_b, iI_v, jI_v, ↓reduceIte, ite_true, ite_false, Int.reduceEq, Int.reduceLT, Int.reduceLE, Int.reduceAdd, Int.reduceSub, Int.reduceMul, Int.reduceNeg, not_true_eq_false, not_false_eq_true, no, m1, hc, u2, g1.symm, h1, g2.symm, h2, g3.symm, et, h3, g4.symm, no4]
    · rw [a42] at l1
      rw [a43 l l0, a44 l l0]
      by_cases h : l = c
      · rw [if_pos h, if_pos h, ← ht, at_]
        exact ⟨⟨e0, e1⟩, ⟨f0, f1⟩, by omega⟩
      · rw [if_neg h, if_neg h]
        obtain ⟨w1, w2, w3⟩ := L1 l l0 (by omega)
        refine ⟨w1, w2, ?_⟩
        rw [a45 _ (by omega)]
        by_cases h2 : 80 * A M 43 l + A M 44 l = t
        · rw [h2, q] at w3; omega
        · rw [if_neg h2]; exact w3
    · rw [a42, a45 u u0]
      obtain ⟨⟨w0, w1⟩, w2⟩ := L2 u u0 u1
      by_cases h : u = t
      · rw [if_pos h, a43 _ (by omega), a44 _ (by omega), if_pos (by omega), if_pos (by omega)]
        exact ⟨by omega, fun _ => by omega⟩
      · rw [if_neg h]
        refine ⟨by omega, fun h3 => ?_⟩
        rw [a43 _ (by omega), a44 _ (by omega), if_neg (by omega), if_neg (by omega)]
        exact w2 h3
    · have : ¬ u = t := fun h2 => h (by rw [h2]; exact q)
      rw [a45 u u0, if_neg this]
    · rw [a45 u u0]
      by_cases h2 : u = t
      · rw [if_pos h2]; exact Or.inr (by omega)
      · rw [if_neg h2]; exact Or.inl h
  · refine ⟨A M 45 t - 1, c, M, ?_, Ch.refl, ⟨L1, L2⟩, hc, by omega, by omega, by omega, fun u u0 => ⟨fun _ => rfl, fun h => Or.inl h⟩⟩
    have p : 0 ≤ A M 45 t - 1 := by omega
    have pr := A_hi M 45 t
    refine s_Links_numberedLink hF hg ?_
    simp (config := { maxSteps := 1000000 }) (disch := (first | omega | decide | assumption)) only [ltm_s, ok_n, rd_i, rd_j, fd_i, fd_j, wr_i, wr_j, fw_i, fw_j, ci_s, cj_s, cv_s, dv_n, dw_n, rt_1, rt_b, rt_20, rt_21, okb_0, okb_1, okb_b, nar_0, nar_1, nar_b, i_0, i_1, j_0, j_1, i_lit, j_lit, i_n, iI_add, iI_sub, iI_mul, iI_neg, jI_add, jI_sub, jI_mul, jI_neg, sh_1, an_1, xo_1, di_p, dj_p, i_64A, i_64, j_32, lq_ge, lq_lt, lq_le, lq_gt, lq_eq, i_lt, i_le, i_eq, j_eq, iI_A, jI_J, iI_b, iI_v, jI_v, ↓reduceIte, ite_true, ite_false, Int.reduceEq, Int.reduceLT, Int.reduceLE, Int.reduceAdd, Int.reduceSub, Int.reduceMul, Int.reduceNeg, not_true_eq_false, not_false_eq_true, no, p]
theorem c_addRun_l (hF : F = am_F T0 g) (hg : GG g) (hr : isRt g rt) {R m : Int} {w : Nat} {lg : Int → Int} (hw : w = 47 + 1 * R.toNat) (R0 : 0 ≤ R) (R1 : R < 10) (m0 : 0 ≤ m) (m1 : m ≤ 20) (rt9 : 91 ≤ rt) (hl : ∀ j : Int, 0 ≤ j → j ≤ m → 0 ≤ lg j ∧ lg j < 80) (hL : A M rt 5 = m + 1) (hg2 : ∀ j : Int, 0 ≤ j → j ≤ m → A M (rt + 1) j = lg j) : ∀ (n s : Nat) (N : am_M), (s : Int) + n = m → Ch [w, 43, 44, 45, 57] [(42, 2)] M N → (0 ≤ A M 42 2) → Lks M N R w lg s →
    ∃ N' : am_M, F 174 9 [.ref 42, .int (iI R), .ref rt, .int (iI ((s : Int) + 1))] [] N = some (none, N') ∧ Ch [w, 43, 44, 45, 57] [(42, 2)] M N' ∧ Lks M N' R w lg m := by
  have hR : (iI R).toNatClampNeg = R.toNat := iI_n (by omega) (by omega)
  have w1 : 47 ≤ w ∧ w ≤ 56 := by omega
  intro n
  induction n with
  | zero =>
    intro s N h c h0 hk
    have e : (s : Int) = m := by omega
    rw [e] at hk ⊢
    refine ⟨N, ?_, c, hk⟩
    have l5 : A N rt 5 = m + 1 := (congrArg Int32.toInt (c rt 5 (by simp only [List.mem_cons, List.not_mem_nil, or_false]; omega) (by simp only [List.mem_singleton, Prod.mk.injEq]; omega)).1).trans hL
    have u : m + 1 ≤ m + 1 := Int.le_refl _
    refine s_Links_addRun_9 hF hg hr ?_
    simp (config := { maxSteps := 1000000 }) (disch := (first | omega | decide | assumption)) only [ltm_s, ok_n, rd_i, rd_j, fd_i, fd_j, wr_i, wr_j, fw_i, fw_j, ci_s, cj_s, cv_s, dv_n, dw_n, rt_1, rt_b, rt_20, rt_21, okb_0, okb_1, okb_b, nar_0, nar_1, nar_b, i_0, i_1, j_0, j_1, i_lit, j_lit, i_n, iI_add, iI_sub, iI_mul, iI_neg, jI_add, jI_sub, jI_mul, jI_neg, sh_1, an_1, xo_1, di_p, dj_p, i_64A, i_64, j_32, lq_ge, lq_lt, lq_le, lq_gt, lq_eq, i_lt, i_le, i_eq, j_eq, iI_A, jI_J, iI_b, iI_v, jI_v, ↓reduceIte, ite_true, ite_false, Int.reduceEq, Int.reduceLT, Int.reduceLE, Int.reduceAdd, Int.reduceSub, Int.reduceMul, Int.reduceNeg, not_true_eq_false, not_false_eq_true, l5, u]
  | succ n ih =>
    intro s N h c h0 hk
    have hs1 : ((s + 1 : Nat) : Int) = (s : Int) + 1 := by omega
    have rd : ∀ (b : Nat) (z : Int), 91 ≤ b → A N b z = A M b z := fun b z hb => congrArg Int32.toInt (c b z.toNat (by simp only [List.mem_cons, List.not_mem_nil, or_false]; omega) (by simp only [List.mem_singleton, Prod.mk.injEq]; omega)).1
    have l5 : A N rt 5 = m + 1 := (rd rt 5 rt9).trans hL
    have la : A N (rt + 1) s = lg s := (rd (rt + 1) s (by omega)).trans (hg2 s (by omega) (by omega))
    have lb : A N (rt + 1) ((s : Int) + 1) = lg ((s : Int) + 1) := (rd (rt + 1) ((s : Int) + 1) (by omega)).trans (hg2 _ (by omega) (by omega))
    obtain ⟨x0, x1⟩ := hl s (by omega) (by omega)
    obtain ⟨y0, y1⟩ := hl ((s : Int) + 1) (by omega) (by omega)
    obtain ⟨⟨k1, k2⟩, k3, k4, ⟨k5, k6⟩, k7, k8, k9, k10⟩ := hk
    obtain ⟨t, et⟩ : ∃ t : Int, t = 80 * lg s + lg ((s : Int) + 1) := ⟨_, rfl⟩
    have t0 : 0 ≤ t := by omega
    obtain ⟨x, c', N1, n1, n2, n3, n4, n5, n6, n7, n8⟩ := c_numbered hF hg x0 x1 y0 y1 et k3 rfl (by omega) (by omega)
    have cw : Ch [w, 43, 44, 45, 57] [(42, 2)] M N1 := c.trans (n2.sub (fun b hb => by
      simp only [List.mem_cons, List.not_mem_nil, or_false] at hb ⊢
      omega))
    have o57 : ∀ z : Int, A N1 57 z = A N 57 z := fun z => n2.a rfl
    have ow : ∀ z : Int, A N1 w z = A N w z := fun z => congrArg Int32.toInt (n2 w z.toNat (by simp only [List.mem_cons, List.not_mem_nil, or_false]; omega) (by simp only [List.mem_singleton, Prod.mk.injEq]; omega)).1
    have k5' : 0 ≤ A N1 57 R := by rw [o57]; exact k5
    have u : ¬ m + 1 ≤ (s : Int) + 1 := by omega
    have es : (s : Int) + 1 - 1 = s := by omega
    have xn : ¬ x < 0 := by omega
    have ir := c_isInRun hF hg (M := N1) (x := x) R0 R1 (by omega) (by omega) rfl k5' (by rw [o57]; omega)
    rw [← hw] at ir
    -- what is known of the new memory's old links
    have lk : ∀ i : Int, 0 ≤ i → i < (s : Int) → A N1 45 (80 * lg i + lg (i + 1)) = A N 45 (80 * lg i + lg (i + 1)) := fun i i0 i1 => by
      obtain ⟨j, j0, j1, j2⟩ := k9 i i0 i1
      have r := (k7 j j0 j1).1
      have a := hl i i0 (by omega)
      have b := hl (i + 1) (by omega) (by omega)
      exact (n8 _ (by omega)).1 (by omega)
    have old : ∀ t : Int, 0 ≤ t → (¬ A M 45 t = 0 → A N1 45 t = A M 45 t) ∧ (A M 45 t = 0 → A N1 45 t = 0 ∨ A M 42 2 < A N1 45 t) := fun t t0 => by
      obtain ⟨a1, a2⟩ := k10 t t0
      obtain ⟨b1, b2⟩ := n8 t t0
      refine ⟨fun h => ?_, fun h => ?_⟩
      · have := a1 h
        rw [b1 (by omega)]; exact this
      · by_cases z : A N 45 t = 0
        · rcases b2 z with y | y
          · exact Or.inl y
          · exact Or.inr (by omega)
        · rw [b1 z]
          rcases a2 h with y | y
          · exact absurd y z
          · exact Or.inr y
    by_cases q : ∃ j : Int, 0 ≤ j ∧ j < A N1 57 R ∧ A N1 w j = x
    · rw [bI_t q] at ir
      obtain ⟨N', p1, p2, p3⟩ := ih (s + 1) N1 (by omega) cw h0 (by
        rw [hs1]
        refine ⟨by rw [n4]; omega, n3, fun r r0 r1 => (o57 r).trans (k4 r r0 r1), by rw [o57]; omega, fun j j0 j1 => ?_, fun j l j0 j1 j2 => ?_, fun i i0 i1 => ?_, old⟩
        · rw [o57] at j1
          obtain ⟨a, i, i0, i1, i2⟩ := k7 j j0 j1
          rw [ow, n4]
          exact ⟨by omega, i, i0, by omega, by rw [lk i i0 i1]; exact i2⟩
        · rw [o57] at j2
          rw [ow, ow]; exact k8 j l j0 j1 j2
        · by_cases z : i = s
          · obtain ⟨j, j0, j1, j2⟩ := q
            rw [z, ← et]
            exact ⟨j, j0, j1, by rw [j2]; exact n7.symm⟩
          · obtain ⟨j, j0, j1, j2⟩ := k9 i i0 (by omega)
            exact ⟨j, j0, by rw [o57]; exact j1, by rw [ow, lk i i0 (by omega)]; exact j2⟩)
      rw [hs1] at p1
      refine ⟨N', ?_, p2, p3⟩
      refine s_Links_addRun_9 hF hg hr ?_
      simp (config := { maxSteps := 1000000 }) (disch := (first | omega | decide | assumption)) only [ltm_s, ok_n, rd_i, rd_j, fd_i, fd_j, wr_i, wr_j, fw_i, fw_j, ci_s, cj_s, cv_s, dv_n, dw_n, rt_1, rt_b, rt_20, rt_21, okb_0, okb_1, okb_b, nar_0, nar_1, nar_b, i_0, i_1, j_0, j_1, i_lit, j_lit, i_n, iI_add, iI_sub, iI_mul, iI_neg, jI_add, jI_sub, jI_mul, jI_neg, sh_1, an_1, xo_1, di_p, dj_p, i_64A, i_64, j_32, lq_ge, lq_lt, lq_le, lq_gt, lq_eq, i_lt, i_le, i_eq, j_eq, iI_A, jI_J, iI_b, iI_v, jI_v, ↓reduceIte, ite_true, ite_false, Int.reduceEq, Int.reduceLT, Int.reduceLE, Int.reduceAdd, Int.reduceSub, Int.reduceMul, Int.reduceNeg, not_true_eq_false, not_false_eq_true, iI_n, rdn_i, rdn_j, wrn_i, wrn_j, l5, u, es, la, lb, n1, xn, ir, p1]
    · rw [bI_f q] at ir
      obtain ⟨N2, g2⟩ : ∃ y : am_M, y = W_ N1 w (A N 57 R) x := ⟨_, rfl⟩
      obtain ⟨N3, g3⟩ : ∃ y : am_M, y = W_ N2 57 R (A N 57 R + 1) := ⟨_, rfl⟩
      have a57 : A N3 57 R = A N 57 R + 1 := by rw [g3]; exact A_Ws (by omega) (by omega)
      have b57 : ∀ r : Int, 0 ≤ r → ¬ r = R → A N3 57 r = A M 57 r := fun r r0 r1 => by
        rw [g3, A_Wo (by omega) r0 r1, g2, A_Wn (by omega), o57]; exact k4 r r0 r1
      have aw : ∀ z : Int, 0 ≤ z → A N3 w z = if z = A N 57 R then x else A N w z := fun z z0 => by
        rw [g3, A_Wn (by omega), g2]
        by_cases h : z = A N 57 R
        · rw [if_pos h, h]; exact A_Ws (by omega) (by omega)
        · rw [if_neg h, A_Wo (by omega) z0 h, ow]
      have ot : ∀ (b : Nat) (z : Int), b ≠ 57 → b ≠ w → A N3 b z = A N1 b z := fun b z h1 h2 => by
        rw [g3, A_Wn h1, g2, A_Wn h2]
      have o45 : ∀ z : Int, A N3 45 z = A N1 45 z := fun z => ot 45 z (by decide) (by omega)
      have o42 : A N3 42 2 = c' := by rw [ot 42 2 (by decide) (by omega)]; exact n4
      have cw3 : Ch [w, 43, 44, 45, 57] [(42, 2)] M N3 := by
        rw [g3, g2]
        exact (cw.wm (Or.inl (List.mem_cons_self ..))).wm (Or.inl (by simp only [List.mem_cons, true_or, or_true]))
      obtain ⟨N', p1, p2, p3⟩ := ih (s + 1) N3 (by omega) cw3 h0 (by
        rw [hs1]
        refine ⟨by rw [o42]; omega, ?_, b57, by rw [a57]; omega, fun j j0 j1 => ?_, fun j l j0 j1 j2 => ?_, fun i i0 i1 => ?_, fun t t0 => by rw [o45]; exact old t t0⟩
        · obtain ⟨z1, z2⟩ := n3
          rw [n4] at z1 z2
          have o43 : ∀ z : Int, A N3 43 z = A N1 43 z := fun z => ot 43 z (by decide) (by omega)
          have o44 : ∀ z : Int, A N3 44 z = A N1 44 z := fun z => ot 44 z (by decide) (by omega)
          unfold L14
          simp only [o42, o43, o44, o45]
          exact ⟨z1, z2⟩
        · rw [a57] at j1
          rw [aw j j0, o42]
          by_cases z : j = A N 57 R
          · rw [if_pos z]
            exact ⟨n6, s, by omega, by omega, by rw [o45, ← et]; exact n7⟩
          · rw [if_neg z]
            obtain ⟨a, i, i0, i1, i2⟩ := k7 j j0 (by omega)
            exact ⟨by omega, i, i0, by omega, by rw [o45, lk i i0 i1]; exact i2⟩
        · rw [a57] at j2
          rw [aw j j0, aw l (by omega), if_neg (by omega)]
          by_cases z : l = A N 57 R
          · rw [if_pos z]
            exact fun h => q ⟨j, j0, by rw [o57]; omega, by rw [ow]; exact h⟩
          · rw [if_neg z]; exact k8 j l j0 j1 (by omega)
        · rw [a57]
          by_cases z : i = s
          · rw [z]
            refine ⟨A N 57 R, k5, by omega, ?_⟩
            rw [aw _ k5, if_pos rfl, o45, ← et]; exact n7.symm
          · obtain ⟨j, j0, j1, j2⟩ := k9 i i0 (by omega)
            refine ⟨j, j0, by omega, ?_⟩
            rw [aw j j0, if_neg (by omega), o45, lk i i0 (by omega)]; exact j2)
      rw [hs1] at p1
      refine ⟨N', ?_, p2, p3⟩
      have v57 : A N1 57 R = A N 57 R := o57 R
      have v572 : A N2 57 R = A N 57 R := by rw [g2, A_Wn (by omega)]; exact v57
      have u20 : ¬ 20 ≤ A N 57 R := by omega
      have hwn : 47 + 1 * R.toNat = w := hw.symm
      refine s_Links_addRun_9 hF hg hr ?_
      simp (config := { maxSteps := 1000000 }) (disch := (first | omega | decide | assumption)) only [ltm_s, ok_n, rd_i, rd_j, fd_i, fd_j, wr_i, wr_j, fw_i, fw_j, ci_s, cj_s, cv_s, dv_n, dw_n, rt_1, rt_b, rt_20, rt_21, okb_0, okb_1, okb_b, nar_0, nar_1, nar_b, i_0, i_1, j_0, j_1, i_lit, j_lit, i_n, iI_add, iI_sub, iI_mul, iI_neg, jI_add, jI_sub, jI_mul, jI_neg, sh_1, an_1, xo_1, di_p, dj_p, i_64A, i_64, j_32, lq_ge, lq_lt, lq_le, lq_gt, lq_eq, i_lt, i_le, i_eq, j_eq, iI_A, jI_J, iI_b, iI_v, jI_v, ↓reduceIte, ite_true, ite_false, Int.reduceEq, Int.reduceLT, Int.reduceLE, Int.reduceAdd, Int.reduceSub, Int.reduceMul, Int.reduceNeg, not_true_eq_false, not_false_eq_true, iI_n, rdn_i, rdn_j, wrn_i, wrn_j, l5, u, es, la, lb, n1, xn, ir, v57, u20, hwn, g2.symm, v572, g3.symm, p1]
theorem c_addRun (hF : F = am_F T0 g) (hg : GG g) (hr : isRt g rt) {R m : Int} {w : Nat} {lg : Int → Int} (hw : w = 47 + 1 * R.toNat) (R0 : 0 ≤ R) (R1 : R < 10) (m0 : 0 ≤ m) (m1 : m ≤ 20) (rt9 : 91 ≤ rt) (hl : ∀ j : Int, 0 ≤ j → j ≤ m → 0 ≤ lg j ∧ lg j < 80) (hL : A M rt 5 = m + 1) (hg2 : ∀ j : Int, 0 ≤ j → j ≤ m → A M (rt + 1) j = lg j) (h14 : L14 M) (hc : 0 ≤ A M 42 2 ∧ A M 42 2 ≤ 20 * R) :
    ∃ N' : am_M, F 174 0 [.ref 42, .int (iI R), .ref rt] [] M = some (none, N') ∧ Ch [w, 43, 44, 45, 57] [(42, 2)] M N' ∧ Lks M N' R w lg m := by
  obtain ⟨N1, g1⟩ : ∃ y : am_M, y = W_ M 57 R 0 := ⟨_, rfl⟩
  have a57 : A N1 57 R = 0 := by rw [g1]; exact A_Ws (by omega) (by omega)
  have ot : ∀ (b : Nat) (z : Int), b ≠ 57 → A N1 b z = A M b z := fun b z h => by rw [g1, A_Wn h]
  have o43 : ∀ z : Int, A N1 43 z = A M 43 z := fun z => ot 43 z (by decide)
  have o44 : ∀ z : Int, A N1 44 z = A M 44 z := fun z => ot 44 z (by decide)
  have o45 : ∀ z : Int, A N1 45 z = A M 45 z := fun z => ot 45 z (by decide)
  have o42 : A N1 42 2 = A M 42 2 := ot 42 2 (by decide)
  obtain ⟨N', p1, p2, p3⟩ := c_addRun_l hF hg hr hw R0 R1 m0 m1 rt9 hl hL hg2 m.toNat 0 N1 (by omega) (by rw [g1]; exact Ch.refl.wm (Or.inl (by simp only [List.mem_cons, true_or, or_true]))) hc.1 (by
    refine ⟨by rw [o42]; omega, ?_, fun r r0 r1 => by rw [g1, A_Wo (by omega) r0 r1], by rw [a57]; omega, fun j j0 j1 => by rw [a57] at j1; omega, fun j l j0 j1 j2 => by rw [a57] at j2; omega, fun i i0 i1 => by omega, fun t t0 => by rw [o45]; exact ⟨fun _ => rfl, fun h => Or.inl h⟩⟩
    unfold L14
    simp only [o42, o43, o44, o45]
    exact h14)
  have z0 : ((0 : Nat) : Int) + 1 = 1 := rfl
  rw [z0] at p1
  refine ⟨N', ?_, p2, p3⟩
  refine s_Links_addRun hF hg hr ?_
  simp (config := { maxSteps := 1000000 }) (disch := (first | omega | decide | assumption)) only [ltm_s, ok_n, rd_i, rd_j, fd_i, fd_j, wr_i, wr_j, fw_i, fw_j, ci_s, cj_s, cv_s, dv_n, dw_n, rt_1, rt_b, rt_20, rt_21, okb_0, okb_1, okb_b, nar_0, nar_1, nar_b, i_0, i_1, j_0, j_1, i_lit, j_lit, i_n, iI_add, iI_sub, iI_mul, iI_neg, jI_add, jI_sub, jI_mul, jI_neg, sh_1, an_1, xo_1, di_p, dj_p, i_64A, i_64, j_32, lq_ge, lq_lt, lq_le, lq_gt, lq_eq, i_lt, i_le, i_eq, j_eq, iI_A, jI_J, iI_b, iI_v, jI_v, ↓reduceIte, ite_true, ite_false, Int.reduceEq, Int.reduceLT, Int.reduceLE, Int.reduceAdd, Int.reduceSub, Int.reduceMul, Int.reduceNeg, not_true_eq_false, not_false_eq_true, iI_n, rdn_i, rdn_j, wrn_i, wrn_j, g1.symm, p1]
end Lk
