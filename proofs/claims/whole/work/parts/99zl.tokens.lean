/-! WORDS on the tape, read by both -/
def Skp (x : Int → Int) (p q : Int) : Prop := p ≤ q ∧ (∀ j : Int, p ≤ j → j < q → x j = 32) ∧ ¬ x q = 32
def sg8 (W b : Int) : Int := (((jI W) <<< (jI 8 &&& jI 63)) ||| jI b).toInt
theorem sg8_ {W b : Int} : ((jI W) <<< (jI 8 &&& jI 63)) ||| jI b = jI (sg8 W b) := (jI_of _).symm
def j64 (W : Int) : Prop := -9223372036854775808 ≤ W ∧ W < 9223372036854775808
theorem sg8_r {W b : Int} : j64 (sg8 W b) := ⟨Int64.le_toInt _, Int64.toInt_lt _⟩
def wdv (x : Int → Int) : Nat → Int → Int → Int
  | 0, _, W => W
  | r + 1, p, W => wdv x r (p + 1) (sg8 W (x p))
theorem wdv_r {x : Int → Int} : ∀ {r : Nat} {p W : Int}, j64 W → j64 (wdv x r p W)
  | 0, _, _, h => h
  | r + 1, p, W, _ => wdv_r (r := r) (p := p + 1) sg8_r
def Wrd (x : Int → Int) (p q W : Int) : Prop := p ≤ q ∧ (∀ j : Int, p ≤ j → j < q → 97 ≤ x j ∧ x j ≤ 122) ∧ ¬ (97 ≤ x q ∧ x q ≤ 122) ∧ W = (if q - p ≤ 8 then wdv x (q - p).toNat p 0 else 0)
theorem j64_0 : j64 0 := by unfold j64; omega
theorem Wrd.r {x : Int → Int} {p q W : Int} (h : Wrd x p q W) : j64 W := by
  rw [h.2.2.2]
  split
  · exact wdv_r j64_0
  · exact j64_0
theorem Skp.ex {x : Int → Int} {n : Int} (ht : Tp x n) : ∀ (m : Nat) (p : Int), n - p = m → 0 ≤ p → ∃ q : Int, Skp x p q ∧ q ≤ n
  | m, p, hm, p0 => by
    by_cases y : x p = 32
    · have hp : p < n := by
        by_cases z : p < n
        · exact z
        · have := ht.2.2 p (Or.inr (by omega)); omega
      match m, hm with
      | 0, hm => omega
      | m + 1, hm =>
        obtain ⟨q, ⟨h1, h2, h3⟩, h4⟩ := Skp.ex ht m (p + 1) (by omega) (by omega)
        refine ⟨q, ⟨by omega, fun j j0 j1 => ?_, h3⟩, h4⟩
        by_cases e : j = p
        · rw [e]; exact y
        · exact h2 j (by omega) j1
    · exact ⟨p, ⟨Int.le_refl _, fun j j0 j1 => by omega, y⟩, by omega⟩
theorem Wrd.ex {x : Int → Int} {n : Int} (ht : Tp x n) {p : Int} (p0 : 0 ≤ p) (p1 : p ≤ n) : ∃ q W : Int, Wrd x p q W ∧ q ≤ n := by
  have h : ∀ (m : Nat) (p : Int), n - p = m → 0 ≤ p → ∃ q : Int, p ≤ q ∧ (∀ j : Int, p ≤ j → j < q → 97 ≤ x j ∧ x j ≤ 122) ∧ ¬ (97 ≤ x q ∧ x q ≤ 122) ∧ q ≤ n := by
    intro m
    induction m with
    | zero =>
      intro p hm p0
      have := ht.2.2 p (Or.inr (by omega))
      exact ⟨p, Int.le_refl _, fun j j0 j1 => by omega, by omega, by omega⟩
    | succ m ih =>
      intro p hm p0
      by_cases y : 97 ≤ x p ∧ x p ≤ 122
      · obtain ⟨q, h1, h2, h3, h4⟩ := ih (p + 1) (by omega) (by omega)
        refine ⟨q, by omega, fun j j0 j1 => ?_, h3, h4⟩
        by_cases e : j = p
        · rw [e]; exact y
        · exact h2 j (by omega) j1
      · exact ⟨p, Int.le_refl _, fun j j0 j1 => by omega, y, by omega⟩
  obtain ⟨q, h1, h2, h3, h4⟩ := h (n - p).toNat p (by omega) p0
  exact ⟨q, _, ⟨h1, h2, h3, rfl⟩, h4⟩
section Tk
variable {M N : am_M} {g : am_G} {F : am_FT} {x : Int → Int} {n : Int}
theorem c_skp_l (hF : F = am_F T0 g) (hg : GG g) (ht : Tp x n) {q : Int} (q1 : q ≤ n) : ∀ (m : Nat) (p : Int) (N : am_M), q - p = m → Ct x n N → A N 61 2 = p → 0 ≤ p → Skp x p q → ∃ N' : am_M, F 162 0 [.ref 61] [] N = some (none, N') ∧ Ch [] [(61, 2)] N N' ∧ A N' 61 2 = q := by
  have hn := ht.1
  intro m
  induction m with
  | zero =>
    intro p N hm hc hp p0 h
    have e : q = p := by omega
    subst e
    refine ⟨N, ?_, Ch.refl, hp⟩
    have sg := c_signAt hF hg ht hc (p := q) (by omega) (by omega)
    have xr := ht.r q
    have u := h.2.2
    refine s_Tape_skipBlanks hF hg ?_
    by_cases y : n ≤ q
    · simp (config := { maxSteps := 1000000 }) (disch := (first | omega | decide | assumption)) only [ltm_s, ok_n, rd_i, rd_j, fd_i, fd_j, wr_i, wr_j, fw_i, fw_j, ci_s, cj_s, cv_s, dv_n, dw_n, rt_1, rt_b, rt_20, rt_21, okb_0, okb_1, okb_b, nar_0, nar_1, nar_b, i_0, i_1, j_0, j_1, i_lit, j_lit, i_n, iI_add, iI_sub, iI_mul, iI_neg, jI_add, jI_sub, jI_mul, jI_neg, sh_1, an_1, xo_1, di_p, dj_p, i_64A, i_64, j_32, lq_ge, lq_lt, lq_le, lq_gt, lq_eq, i_lt, i_le, i_eq, j_eq, iI_A, jI_J, iI_b, iI_v, jI_v, ↓reduceIte, ite_true, ite_false, Int.reduceEq, Int.reduceLT, Int.reduceLE, Int.reduceAdd, Int.reduceSub, Int.reduceMul, Int.reduceNeg, not_true_eq_false, not_false_eq_true, hc.1, hp, y]
    · simp (config := { maxSteps := 1000000 }) (disch := (first | omega | decide | assumption)) only [ltm_s, ok_n, rd_i, rd_j, fd_i, fd_j, wr_i, wr_j, fw_i, fw_j, ci_s, cj_s, cv_s, dv_n, dw_n, rt_1, rt_b, rt_20, rt_21, okb_0, okb_1, okb_b, nar_0, nar_1, nar_b, i_0, i_1, j_0, j_1, i_lit, j_lit, i_n, iI_add, iI_sub, iI_mul, iI_neg, jI_add, jI_sub, jI_mul, jI_neg, sh_1, an_1, xo_1, di_p, dj_p, i_64A, i_64, j_32, lq_ge, lq_lt, lq_le, lq_gt, lq_eq, i_lt, i_le, i_eq, j_eq, iI_A, jI_J, iI_b, iI_v, jI_v, ↓reduceIte, ite_true, ite_false, Int.reduceEq, Int.reduceLT, Int.reduceLE, Int.reduceAdd, Int.reduceSub, Int.reduceMul, Int.reduceNeg, not_true_eq_false, not_false_eq_true, hc.1, hp, y, sg, u]
  | succ m ih =>
    intro p N hm hc hp p0 h
    have u := h.2.1 p (by omega) (by omega)
    have y : ¬ n ≤ p := by omega
    have sg := c_signAt hF hg ht hc (p := p) (by omega) (by omega)
    have cW : Ch [] [(61, 2)] N (W_ N 61 2 (p + 1)) := Ch.refl.wm (Or.inr (by decide))
    obtain ⟨N', r1, r2, r3⟩ := ih (p + 1) (W_ N 61 2 (p + 1)) (by omega) (hc.ch (cW.mono rfl)) (A_Ws (by omega) (by omega)) (by omega) ⟨by omega, fun j j0 j1 => h.2.1 j (by omega) j1, h.2.2⟩
    refine ⟨N', ?_, cW.trans r2, r3⟩
    refine s_Tape_skipBlanks hF hg ?_
    simp (config := { maxSteps := 1000000 }) (disch := (first | omega | decide | assumption)) only [ltm_s, ok_n, rd_i, rd_j, fd_i, fd_j, wr_i, wr_j, fw_i, fw_j, ci_s, cj_s, cv_s, dv_n, dw_n, rt_1, rt_b, rt_20, rt_21, okb_0, okb_1, okb_b, nar_0, nar_1, nar_b, i_0, i_1, j_0, j_1, i_lit, j_lit, i_n, iI_add, iI_sub, iI_mul, iI_neg, jI_add, jI_sub, jI_mul, jI_neg, sh_1, an_1, xo_1, di_p, dj_p, i_64A, i_64, j_32, lq_ge, lq_lt, lq_le, lq_gt, lq_eq, i_lt, i_le, i_eq, j_eq, iI_A, jI_J, iI_b, iI_v, jI_v, ↓reduceIte, ite_true, ite_false, Int.reduceEq, Int.reduceLT, Int.reduceLE, Int.reduceAdd, Int.reduceSub, Int.reduceMul, Int.reduceNeg, not_true_eq_false, not_false_eq_true, hc.1, hp, y, sg, u, r1]
theorem c_skp (hF : F = am_F T0 g) (hg : GG g) (ht : Tp x n) (hc : Ct x n N) {p q : Int} (hp : A N 61 2 = p) (p0 : 0 ≤ p) (h : Skp x p q) (q1 : q ≤ n) : ∃ N' : am_M, F 162 0 [.ref 61] [] N = some (none, N') ∧ Ch [] [(61, 2)] N N' ∧ A N' 61 2 = q :=
  c_skp_l hF hg ht q1 (q - p).toNat p N (by have := h.1; omega) hc hp p0 h
theorem c_isLet (hF : F = am_F T0 g) (hg : GG g) {v : Int} (v1 : -2147483648 ≤ v) (v2 : v < 2147483648) : F 81 0 [.int (iI v)] [] N = some (some (.int (iI (bI (97 ≤ v ∧ v ≤ 122)))), N) := by
  refine s_Tape_isLetter hF hg ?_
  by_cases a : v < 97
  · rw [bI_f (by omega)]
    simp (config := { maxSteps := 1000000 }) (disch := (first | omega | decide | assumption)) only [ltm_s, ok_n, rd_i, rd_j, fd_i, fd_j, wr_i, wr_j, fw_i, fw_j, ci_s, cj_s, cv_s, dv_n, dw_n, rt_1, rt_b, rt_20, rt_21, okb_0, okb_1, okb_b, nar_0, nar_1, nar_b, i_0, i_1, j_0, j_1, i_lit, j_lit, i_n, iI_add, iI_sub, iI_mul, iI_neg, jI_add, jI_sub, jI_mul, jI_neg, sh_1, an_1, xo_1, di_p, dj_p, i_64A, i_64, j_32, lq_ge, lq_lt, lq_le, lq_gt, lq_eq, i_lt, i_le, i_eq, j_eq, iI_A, jI_J, iI_b, iI_v, jI_v, ↓reduceIte, ite_true, ite_false, Int.reduceEq, Int.reduceLT, Int.reduceLE, Int.reduceAdd, Int.reduceSub, Int.reduceMul, Int.reduceNeg, not_true_eq_false, not_false_eq_true, a]
  · by_cases b : 122 < v
    · rw [bI_f (by omega)]
      simp (config := { maxSteps := 1000000 }) (disch := (first | omega | decide | assumption)) only [ltm_s, ok_n, rd_i, rd_j, fd_i, fd_j, wr_i, wr_j, fw_i, fw_j, ci_s, cj_s, cv_s, dv_n, dw_n, rt_1, rt_b, rt_20, rt_21, okb_0, okb_1, okb_b, nar_0, nar_1, nar_b, i_0, i_1, j_0, j_1, i_lit, j_lit, i_n, iI_add, iI_sub, iI_mul, iI_neg, jI_add, jI_sub, jI_mul, jI_neg, sh_1, an_1, xo_1, di_p, dj_p, i_64A, i_64, j_32, lq_ge, lq_lt, lq_le, lq_gt, lq_eq, i_lt, i_le, i_eq, j_eq, iI_A, jI_J, iI_b, iI_v, jI_v, ↓reduceIte, ite_true, ite_false, Int.reduceEq, Int.reduceLT, Int.reduceLE, Int.reduceAdd, Int.reduceSub, Int.reduceMul, Int.reduceNeg, not_true_eq_false, not_false_eq_true, a, b]
    · rw [bI_t (by omega)]
      simp (config := { maxSteps := 1000000 }) (disch := (first | omega | decide | assumption)) only [ltm_s, ok_n, rd_i, rd_j, fd_i, fd_j, wr_i, wr_j, fw_i, fw_j, ci_s, cj_s, cv_s, dv_n, dw_n, rt_1, rt_b, rt_20, rt_21, okb_0, okb_1, okb_b, nar_0, nar_1, nar_b, i_0, i_1, j_0, j_1, i_lit, j_lit, i_n, iI_add, iI_sub, iI_mul, iI_neg, jI_add, jI_sub, jI_mul, jI_neg, sh_1, an_1, xo_1, di_p, dj_p, i_64A, i_64, j_32, lq_ge, lq_lt, lq_le, lq_gt, lq_eq, i_lt, i_le, i_eq, j_eq, iI_A, jI_J, iI_b, iI_v, jI_v, ↓reduceIte, ite_true, ite_false, Int.reduceEq, Int.reduceLT, Int.reduceLE, Int.reduceAdd, Int.reduceSub, Int.reduceMul, Int.reduceNeg, not_true_eq_false, not_false_eq_true, a, b]
theorem c_word_l (hF : F = am_F T0 g) (hg : GG g) (ht : Tp x n) {q : Int} (q1 : q ≤ n) (h3 : ¬ (97 ≤ x q ∧ x q ≤ 122)) : ∀ (m : Nat) (p W c : Int) (N : am_M), q - p = m → Ct x n N → A N 61 2 = p → 0 ≤ p → 0 ≤ c → c + m ≤ 160 → (∀ j : Int, p ≤ j → j < q → 97 ≤ x j ∧ x j ≤ 122) → ∃ N' : am_M, F 165 4 [.ref 61, .long (jI W), .int (iI c)] [] N = some (some (.long (jI (if c + m ≤ 8 then wdv x m p W else 0))), N') ∧ Ch [] [(61, 2)] N N' ∧ A N' 61 2 = q := by
  have hn := ht.1
  intro m
  induction m with
  | zero =>
    intro p W c N hm hc hp p0 c0 c1 h
    have e : q = p := by omega
    subst e
    refine ⟨N, ?_, Ch.refl, hp⟩
    have e8 : c + ((0 : Nat) : Int) = c := by omega
    rw [e8]
    have sg := c_signAt hF hg ht hc (p := q) (by omega) (by omega)
    have xr := ht.r q
    have lt := c_isLet hF hg (N := N) (v := x q) (by omega) (by omega)
    rw [bI_f h3] at lt
    refine s_Tape_takeWord_4 hF hg ?_
    by_cases z : c ≤ 8
    · rw [if_pos z]
      by_cases y : n ≤ q
      · simp (config := { maxSteps := 1000000 }) (disch := (first | omega | decide | assumption)) only [ltm_s, ok_n, rd_i, rd_j, fd_i, fd_j, wr_i, wr_j, fw_i, fw_j, ci_s, cj_s, cv_s, dv_n, dw_n, rt_1, rt_b, rt_20, rt_21, okb_0, okb_1, okb_b, nar_0, nar_1, nar_b, i_0, i_1, j_0, j_1, i_lit, j_lit, i_n, iI_add, iI_sub, iI_mul, iI_neg, jI_add, jI_sub, jI_mul, jI_neg, sh_1, an_1, xo_1, di_p, dj_p, i_64A, i_64, j_32, lq_ge, lq_lt, lq_le, lq_gt, lq_eq, i_lt, i_le, i_eq, j_eq, iI_A, jI_J, iI_b, iI_v, jI_v, ↓reduceIte, ite_true, ite_false, Int.reduceEq, Int.reduceLT, Int.reduceLE, Int.reduceAdd, Int.reduceSub, Int.reduceMul, Int.reduceNeg, not_true_eq_false, not_false_eq_true, hc.1, hp, y, z]
        rfl
      · simp (config := { maxSteps := 1000000 }) (disch := (first | omega | decide | assumption)) only [ltm_s, ok_n, rd_i, rd_j, fd_i, fd_j, wr_i, wr_j, fw_i, fw_j, ci_s, cj_s, cv_s, dv_n, dw_n, rt_1, rt_b, rt_20, rt_21, okb_0, okb_1, okb_b, nar_0, nar_1, nar_b, i_0, i_1, j_0, j_1, i_lit, j_lit, i_n, iI_add, iI_sub, iI_mul, iI_neg, jI_add, jI_sub, jI_mul, jI_neg, sh_1, an_1, xo_1, di_p, dj_p, i_64A, i_64, j_32, lq_ge, lq_lt, lq_le, lq_gt, lq_eq, i_lt, i_le, i_eq, j_eq, iI_A, jI_J, iI_b, iI_v, jI_v, ↓reduceIte, ite_true, ite_false, Int.reduceEq, Int.reduceLT, Int.reduceLE, Int.reduceAdd, Int.reduceSub, Int.reduceMul, Int.reduceNeg, not_true_eq_false, not_false_eq_true, hc.1, hp, y, sg, lt, z]
        rfl
    · rw [if_neg z]
      by_cases y : n ≤ q
      · simp (config := { maxSteps := 1000000 }) (disch := (first | omega | decide | assumption)) only [ltm_s, ok_n, rd_i, rd_j, fd_i, fd_j, wr_i, wr_j, fw_i, fw_j, ci_s, cj_s, cv_s, dv_n, dw_n, rt_1, rt_b, rt_20, rt_21, okb_0, okb_1, okb_b, nar_0, nar_1, nar_b, i_0, i_1, j_0, j_1, i_lit, j_lit, i_n, iI_add, iI_sub, iI_mul, iI_neg, jI_add, jI_sub, jI_mul, jI_neg, sh_1, an_1, xo_1, di_p, dj_p, i_64A, i_64, j_32, lq_ge, lq_lt, lq_le, lq_gt, lq_eq, i_lt, i_le, i_eq, j_eq, iI_A, jI_J, iI_b, iI_v, jI_v, ↓reduceIte, ite_true, ite_false, Int.reduceEq, Int.reduceLT, Int.reduceLE, Int.reduceAdd, Int.reduceSub, Int.reduceMul, Int.reduceNeg, not_true_eq_false, not_false_eq_true, hc.1, hp, y, z]
      · simp (config := { maxSteps := 1000000 }) (disch := (first | omega | decide | assumption)) only [ltm_s, ok_n, rd_i, rd_j, fd_i, fd_j, wr_i, wr_j, fw_i, fw_j, ci_s, cj_s, cv_s, dv_n, dw_n, rt_1, rt_b, rt_20, rt_21, okb_0, okb_1, okb_b, nar_0, nar_1, nar_b, i_0, i_1, j_0, j_1, i_lit, j_lit, i_n, iI_add, iI_sub, iI_mul, iI_neg, jI_add, jI_sub, jI_mul, jI_neg, sh_1, an_1, xo_1, di_p, dj_p, i_64A, i_64, j_32, lq_ge, lq_lt, lq_le, lq_gt, lq_eq, i_lt, i_le, i_eq, j_eq, iI_A, jI_J, iI_b, iI_v, jI_v, ↓reduceIte, ite_true, ite_false, Int.reduceEq, Int.reduceLT, Int.reduceLE, Int.reduceAdd, Int.reduceSub, Int.reduceMul, Int.reduceNeg, not_true_eq_false, not_false_eq_true, hc.1, hp, y, sg, lt, z]
  | succ m ih =>
    intro p W c N hm hc hp p0 c0 c1 h
    have u := h p (by omega) (by omega)
    have y : ¬ n ≤ p := by omega
    have sg := c_signAt hF hg ht hc (p := p) (by omega) (by omega)
    have xr := ht.r p
    have lt := c_isLet hF hg (N := N) (v := x p) (by omega) (by omega)
    rw [bI_t u] at lt
    have cW : Ch [] [(61, 2)] N (W_ N 61 2 (p + 1)) := Ch.refl.wm (Or.inr (by decide))
    obtain ⟨N', r1, r2, r3⟩ := ih (p + 1) (sg8 W (x p)) (c + 1) (W_ N 61 2 (p + 1)) (by omega) (hc.ch (cW.mono rfl)) (A_Ws (by omega) (by omega)) (by omega) (by omega) (by omega) (fun j j0 j1 => h j (by omega) j1)
    refine ⟨N', ?_, cW.trans r2, r3⟩
    have e8 : c + 1 + (m : Int) = c + ((m + 1 : Nat) : Int) := by omega
    rw [e8] at r1
    refine s_Tape_takeWord_4 hF hg ?_
    simp (config := { maxSteps := 1000000 }) (disch := (first | omega | decide | assumption)) only [ltm_s, ok_n, rd_i, rd_j, fd_i, fd_j, wr_i, wr_j, fw_i, fw_j, ci_s, cj_s, cv_s, dv_n, dw_n, rt_1, rt_b, rt_20, rt_21, okb_0, okb_1, okb_b, nar_0, nar_1, nar_b, i_0, i_1, j_0, j_1, i_lit, j_lit, i_n, iI_add, iI_sub, iI_mul, iI_neg, jI_add, jI_sub, jI_mul, jI_neg, sh_1, an_1, xo_1, di_p, dj_p, i_64A, i_64, j_32, lq_ge, lq_lt, lq_le, lq_gt, lq_eq, i_lt, i_le, i_eq, j_eq, iI_A, jI_J, iI_b, iI_v, jI_v, ↓reduceIte, ite_true, ite_false, Int.reduceEq, Int.reduceLT, Int.reduceLE, Int.reduceAdd, Int.reduceSub, Int.reduceMul, Int.reduceNeg, not_true_eq_false, not_false_eq_true, hc.1, hp, y, sg, lt, sg8_]
    exact r1
theorem c_word (hF : F = am_F T0 g) (hg : GG g) (ht : Tp x n) (hc : Ct x n N) {p q W : Int} (hp : A N 61 2 = p) (p0 : 0 ≤ p) (h : Wrd x p q W) (q1 : q ≤ n) : ∃ N' : am_M, F 165 0 [.ref 61] [] N = some (some (.long (jI W)), N') ∧ Ch [] [(61, 2)] N N' ∧ A N' 61 2 = q := by
  have hn := ht.1
  obtain ⟨h1, h2, h3, h4⟩ := h
  obtain ⟨N', r1, r2⟩ := c_word_l hF hg ht q1 h3 (q - p).toNat p 0 0 N (by omega) hc hp p0 (by omega) (by omega) h2
  refine ⟨N', ?_, r2⟩
  have e : 0 + ((q - p).toNat : Int) = q - p := by omega
  rw [e, ← h4] at r1
  exact s_Tape_takeWord hF hg r1
theorem m_skips_l (hF : F = am_F T0 g) (hg : GG g) (ht : Tp x n) {q : Int} (q1 : q ≤ n) : ∀ (m : Nat) (p : Int) (N : am_M), q - p = m → Mt x n N → A N 219 75 = p → 0 ≤ p → Skp x p q → ∃ N' : am_M, F 61 0 [.ref 219] [] N = some (none, N') ∧ Ch [] [(219, 75), (219, 76)] N N' ∧ A N' 219 75 = q ∧ A N' 219 76 = q := by
  have hn := ht.1
  intro m
  induction m with
  | zero =>
    intro p N hm hc hp p0 h
    have e : q = p := by omega
    subst e
    refine ⟨W_ N 219 76 q, ?_, Ch.refl.wm (Or.inr (by decide)), by rw [A_Wo (by omega) (by omega) (by omega)]; exact hp, A_Ws (by omega) (by omega)⟩
    have u := h.2.2
    refine s_Model_skips hF hg ?_
    by_cases y : n ≤ q
    · simp (config := { maxSteps := 1000000 }) (disch := (first | omega | decide | assumption)) only [ltm_s, ok_n, rd_i, rd_j, fd_i, fd_j, wr_i, wr_j, fw_i, fw_j, ci_s, cj_s, cv_s, dv_n, dw_n, rt_1, rt_b, rt_20, rt_21, okb_0, okb_1, okb_b, nar_0, nar_1, nar_b, i_0, i_1, j_0, j_1, i_lit, j_lit, i_n, iI_add, iI_sub, iI_mul, iI_neg, jI_add, jI_sub, jI_mul, jI_neg, sh_1, an_1, xo_1, di_p, dj_p, i_64A, i_64, j_32, lq_ge, lq_lt, lq_le, lq_gt, lq_eq, i_lt, i_le, i_eq, j_eq, iI_A, jI_J, iI_b, iI_v, jI_v, ↓reduceIte, ite_true, ite_false, Int.reduceEq, Int.reduceLT, Int.reduceLE, Int.reduceAdd, Int.reduceSub, Int.reduceMul, Int.reduceNeg, not_true_eq_false, not_false_eq_true, hc.1, hp, y]
    · have e := hc.2 q p0 (by omega)
      have xr := ht.r q
      simp (config := { maxSteps := 1000000 }) (disch := (first | omega | decide | assumption)) only [ltm_s, ok_n, rd_i, rd_j, fd_i, fd_j, wr_i, wr_j, fw_i, fw_j, ci_s, cj_s, cv_s, dv_n, dw_n, rt_1, rt_b, rt_20, rt_21, okb_0, okb_1, okb_b, nar_0, nar_1, nar_b, i_0, i_1, j_0, j_1, i_lit, j_lit, i_n, iI_add, iI_sub, iI_mul, iI_neg, jI_add, jI_sub, jI_mul, jI_neg, sh_1, an_1, xo_1, di_p, dj_p, i_64A, i_64, j_32, lq_ge, lq_lt, lq_le, lq_gt, lq_eq, i_lt, i_le, i_eq, j_eq, iI_A, jI_J, iI_b, iI_v, jI_v, ↓reduceIte, ite_true, ite_false, Int.reduceEq, Int.reduceLT, Int.reduceLE, Int.reduceAdd, Int.reduceSub, Int.reduceMul, Int.reduceNeg, not_true_eq_false, not_false_eq_true, hc.1, hp, y, e, u]
  | succ m ih =>
    intro p N hm hc hp p0 h
    have u := h.2.1 p (by omega) (by omega)
    have y : ¬ n ≤ p := by omega
    have e := hc.2 p p0 (by omega)
    have cW : Ch [] [(219, 75), (219, 76)] N (W_ N 219 75 (p + 1)) := Ch.refl.wm (Or.inr (by decide))
    obtain ⟨N', r1, r2, r3⟩ := ih (p + 1) (W_ N 219 75 (p + 1)) (by omega) ⟨by rw [A_Wo (by omega) (by omega) (by omega)]; exact hc.1, fun z z0 z1 => by rw [A_Wn (by omega)]; exact hc.2 z z0 z1⟩ (A_Ws (by omega) (by omega)) (by omega) ⟨by omega, fun j j0 j1 => h.2.1 j (by omega) j1, h.2.2⟩
    refine ⟨N', ?_, cW.trans r2, r3⟩
    refine s_Model_skips hF hg ?_
    simp (config := { maxSteps := 1000000 }) (disch := (first | omega | decide | assumption)) only [ltm_s, ok_n, rd_i, rd_j, fd_i, fd_j, wr_i, wr_j, fw_i, fw_j, ci_s, cj_s, cv_s, dv_n, dw_n, rt_1, rt_b, rt_20, rt_21, okb_0, okb_1, okb_b, nar_0, nar_1, nar_b, i_0, i_1, j_0, j_1, i_lit, j_lit, i_n, iI_add, iI_sub, iI_mul, iI_neg, jI_add, jI_sub, jI_mul, jI_neg, sh_1, an_1, xo_1, di_p, dj_p, i_64A, i_64, j_32, lq_ge, lq_lt, lq_le, lq_gt, lq_eq, i_lt, i_le, i_eq, j_eq, iI_A, jI_J, iI_b, iI_v, jI_v, ↓reduceIte, ite_true, ite_false, Int.reduceEq, Int.reduceLT, Int.reduceLE, Int.reduceAdd, Int.reduceSub, Int.reduceMul, Int.reduceNeg, not_true_eq_false, not_false_eq_true, hc.1, hp, y, e, u, r1]
theorem Mt.c3 {N' : am_M} (h : Mt x n N) (c : Ch [266, 267] [(219, 75), (219, 76), (219, 77), (219, 78), (219, 81), (219, 82)] N N') : Mt x n N' := by
  refine ⟨(c.f (a := 219) (z := 36) rfl).trans h.1, fun p p0 p1 => (c.a (a := 246) rfl).trans (h.2 p p0 p1)⟩
theorem m_skips (hF : F = am_F T0 g) (hg : GG g) (ht : Tp x n) (hm : Mt x n N) {p q : Int} (hp : A N 219 75 = p) (p0 : 0 ≤ p) (h : Skp x p q) (q1 : q ≤ n) : ∃ N' : am_M, F 61 0 [.ref 219] [] N = some (none, N') ∧ Ch [] [(219, 75), (219, 76)] N N' ∧ A N' 219 75 = q ∧ A N' 219 76 = q :=
  m_skips_l hF hg ht q1 (q - p).toNat p N (by have := h.1; omega) hm hp p0 h
theorem m_reads_l (hF : F = am_F T0 g) (hg : GG g) (ht : Tp x n) {q : Int} (q1 : q ≤ n) (h3 : ¬ (97 ≤ x q ∧ x q ≤ 122)) : ∀ (m : Nat) (p W c : Int) (N : am_M), q - p = m → Mt x n N → A N 219 75 = p → J N 219 77 = W → 0 ≤ p → 0 ≤ c → c + m ≤ 160 → (∀ j : Int, p ≤ j → j < q → 97 ≤ x j ∧ x j ≤ 122) → ∃ N' : am_M, F 134 11 [.ref 219, .int (iI c)] [] N = some (none, N') ∧ Ch [] [(219, 75), (219, 77)] N N' ∧ A N' 219 75 = q ∧ J N' 219 77 = (if c + m ≤ 8 then wdv x m p W else 0) := by
  have hn := ht.1
  intro m
  induction m with
  | zero =>
    intro p W c N hm hc hp hW p0 c0 c1 h
    have e : q = p := by omega
    subst e
    have e8 : c + ((0 : Nat) : Int) = c := by omega
    rw [e8]
    have wr : j64 W := by rw [← hW]; exact ⟨J_lo _ _ _, J_hi _ _ _⟩
    obtain ⟨wr1, wr2⟩ := wr
    have xr := ht.r q
    have lt := m_inn hF hg (M := N) (v := x q) (l := 97) (h := 122) (by omega) (by omega) (by omega) (by omega) (by omega) (by omega)
    rw [bI_f h3] at lt
    by_cases z : c ≤ 8
    · rw [if_pos z]
      refine ⟨X_ N 219 77 W, ?_, Ch.refl.xm (Or.inr (by decide)), hp, J_Xs wr1 wr2⟩
      refine s_Model_reads_11 hF hg ?_
      by_cases y : n ≤ q
      · simp (config := { maxSteps := 1000000 }) (disch := (first | omega | decide | assumption)) only [ltm_s, ok_n, rd_i, rd_j, fd_i, fd_j, wr_i, wr_j, fw_i, fw_j, ci_s, cj_s, cv_s, dv_n, dw_n, rt_1, rt_b, rt_20, rt_21, okb_0, okb_1, okb_b, nar_0, nar_1, nar_b, i_0, i_1, j_0, j_1, i_lit, j_lit, i_n, iI_add, iI_sub, iI_mul, iI_neg, jI_add, jI_sub, jI_mul, jI_neg, sh_1, an_1, xo_1, di_p, dj_p, i_64A, i_64, j_32, lq_ge, lq_lt, lq_le, lq_gt, lq_eq, i_lt, i_le, i_eq, j_eq, iI_A, jI_J, iI_b, iI_v, jI_v, ↓reduceIte, ite_true, ite_false, Int.reduceEq, Int.reduceLT, Int.reduceLE, Int.reduceAdd, Int.reduceSub, Int.reduceMul, Int.reduceNeg, not_true_eq_false, not_false_eq_true, hc.1, hp, y, z, hW]
      · have e := hc.2 q p0 (by omega)
        simp (config := { maxSteps := 1000000 }) (disch := (first | omega | decide | assumption)) only [ltm_s, ok_n, rd_i, rd_j, fd_i, fd_j, wr_i, wr_j, fw_i, fw_j, ci_s, cj_s, cv_s, dv_n, dw_n, rt_1, rt_b, rt_20, rt_21, okb_0, okb_1, okb_b, nar_0, nar_1, nar_b, i_0, i_1, j_0, j_1, i_lit, j_lit, i_n, iI_add, iI_sub, iI_mul, iI_neg, jI_add, jI_sub, jI_mul, jI_neg, sh_1, an_1, xo_1, di_p, dj_p, i_64A, i_64, j_32, lq_ge, lq_lt, lq_le, lq_gt, lq_eq, i_lt, i_le, i_eq, j_eq, iI_A, jI_J, iI_b, iI_v, jI_v, ↓reduceIte, ite_true, ite_false, Int.reduceEq, Int.reduceLT, Int.reduceLE, Int.reduceAdd, Int.reduceSub, Int.reduceMul, Int.reduceNeg, not_true_eq_false, not_false_eq_true, hc.1, hp, y, e, lt, z, hW]
    · rw [if_neg z]
      refine ⟨X_ N 219 77 0, ?_, Ch.refl.xm (Or.inr (by decide)), hp, J_Xs (by omega) (by omega)⟩
      refine s_Model_reads_11 hF hg ?_
      by_cases y : n ≤ q
      · simp (config := { maxSteps := 1000000 }) (disch := (first | omega | decide | assumption)) only [ltm_s, ok_n, rd_i, rd_j, fd_i, fd_j, wr_i, wr_j, fw_i, fw_j, ci_s, cj_s, cv_s, dv_n, dw_n, rt_1, rt_b, rt_20, rt_21, okb_0, okb_1, okb_b, nar_0, nar_1, nar_b, i_0, i_1, j_0, j_1, i_lit, j_lit, i_n, iI_add, iI_sub, iI_mul, iI_neg, jI_add, jI_sub, jI_mul, jI_neg, sh_1, an_1, xo_1, di_p, dj_p, i_64A, i_64, j_32, lq_ge, lq_lt, lq_le, lq_gt, lq_eq, i_lt, i_le, i_eq, j_eq, iI_A, jI_J, iI_b, iI_v, jI_v, ↓reduceIte, ite_true, ite_false, Int.reduceEq, Int.reduceLT, Int.reduceLE, Int.reduceAdd, Int.reduceSub, Int.reduceMul, Int.reduceNeg, not_true_eq_false, not_false_eq_true, hc.1, hp, y, z]
      · have e := hc.2 q p0 (by omega)
        simp (config := { maxSteps := 1000000 }) (disch := (first | omega | decide | assumption)) only [ltm_s, ok_n, rd_i, rd_j, fd_i, fd_j, wr_i, wr_j, fw_i, fw_j, ci_s, cj_s, cv_s, dv_n, dw_n, rt_1, rt_b, rt_20, rt_21, okb_0, okb_1, okb_b, nar_0, nar_1, nar_b, i_0, i_1, j_0, j_1, i_lit, j_lit, i_n, iI_add, iI_sub, iI_mul, iI_neg, jI_add, jI_sub, jI_mul, jI_neg, sh_1, an_1, xo_1, di_p, dj_p, i_64A, i_64, j_32, lq_ge, lq_lt, lq_le, lq_gt, lq_eq, i_lt, i_le, i_eq, j_eq, iI_A, jI_J, iI_b, iI_v, jI_v, ↓reduceIte, ite_true, ite_false, Int.reduceEq, Int.reduceLT, Int.reduceLE, Int.reduceAdd, Int.reduceSub, Int.reduceMul, Int.reduceNeg, not_true_eq_false, not_false_eq_true, hc.1, hp, y, e, lt, z]
  | succ m ih =>
    intro p W c N hm hc hp hW p0 c0 c1 h
    have u := h p (by omega) (by omega)
    have y : ¬ n ≤ p := by omega
    have xr := ht.r p
    have e := hc.2 p p0 (by omega)
    have lt := m_inn hF hg (M := N) (v := x p) (l := 97) (h := 122) (by omega) (by omega) (by omega) (by omega) (by omega) (by omega)
    rw [bI_t u] at lt
    have wr : j64 W := by rw [← hW]; exact ⟨J_lo _ _ _, J_hi _ _ _⟩
    have e8 : c + 1 + (m : Int) = c + ((m + 1 : Nat) : Int) := by omega
    -- what is laid down, and the step
    have st : ∀ V : Int, j64 V → ∃ N' : am_M, F 134 11 [.ref 219, .int (iI (c + 1))] [] (W_ (X_ N 219 77 V) 219 75 (p + 1)) = some (none, N') ∧ Ch [] [(219, 75), (219, 77)] N N' ∧ A N' 219 75 = q ∧ J N' 219 77 = (if c + ((m + 1 : Nat) : Int) ≤ 8 then wdv x m (p + 1) V else 0) := fun V hV => by
      have cW : Ch [] [(219, 75), (219, 77)] N (W_ (X_ N 219 77 V) 219 75 (p + 1)) := (Ch.refl.xm (Or.inr (by decide))).wm (Or.inr (by decide))
      obtain ⟨N', r1, r2, r3, r4⟩ := ih (p + 1) V (c + 1) _ (by omega) (hc.c3 (cW.mono rfl)) (A_Ws (by omega) (by omega)) (by rw [J_W]; exact J_Xs hV.1 hV.2) (by omega) (by omega) (by omega) (fun j j0 j1 => h j (by omega) j1)
      rw [e8] at r4
      exact ⟨N', r1, cW.trans r2, r3, r4⟩
    by_cases z : 8 ≤ c
    · obtain ⟨N', r1, r2, r3, r4⟩ := st W wr
      refine ⟨N', ?_, r2, r3, ?_⟩
      · refine s_Model_reads_11 hF hg ?_
        simp (config := { maxSteps := 1000000 }) (disch := (first | omega | decide | assumption)) only [ltm_s, ok_n, rd_i, rd_j, fd_i, fd_j, wr_i, wr_j, fw_i, fw_j, ci_s, cj_s, cv_s, dv_n, dw_n, rt_1, rt_b, rt_20, rt_21, okb_0, okb_1, okb_b, nar_0, nar_1, nar_b, i_0, i_1, j_0, j_1, i_lit, j_lit, i_n, iI_add, iI_sub, iI_mul, iI_neg, jI_add, jI_sub, jI_mul, jI_neg, sh_1, an_1, xo_1, di_p, dj_p, i_64A, i_64, j_32, lq_ge, lq_lt, lq_le, lq_gt, lq_eq, i_lt, i_le, i_eq, j_eq, iI_A, jI_J, iI_b, iI_v, jI_v, ↓reduceIte, ite_true, ite_false, Int.reduceEq, Int.reduceLT, Int.reduceLE, Int.reduceAdd, Int.reduceSub, Int.reduceMul, Int.reduceNeg, not_true_eq_false, not_false_eq_true, hc.1, hp, y, e, lt, z, hW, A_X]
        exact r1
      · rw [r4, if_neg (by omega), if_neg (by omega)]
    · obtain ⟨N', r1, r2, r3, r4⟩ := st (sg8 W (x p)) sg8_r
      refine ⟨N', ?_, r2, r3, r4⟩
      refine s_Model_reads_11 hF hg ?_
      simp (config := { maxSteps := 1000000 }) (disch := (first | omega | decide | assumption)) only [ltm_s, ok_n, rd_i, rd_j, fd_i, fd_j, wr_i, wr_j, fw_i, fw_j, ci_s, cj_s, cv_s, dv_n, dw_n, rt_1, rt_b, rt_20, rt_21, okb_0, okb_1, okb_b, nar_0, nar_1, nar_b, i_0, i_1, j_0, j_1, i_lit, j_lit, i_n, iI_add, iI_sub, iI_mul, iI_neg, jI_add, jI_sub, jI_mul, jI_neg, sh_1, an_1, xo_1, di_p, dj_p, i_64A, i_64, j_32, lq_ge, lq_lt, lq_le, lq_gt, lq_eq, i_lt, i_le, i_eq, j_eq, iI_A, jI_J, iI_b, iI_v, jI_v, ↓reduceIte, ite_true, ite_false, Int.reduceEq, Int.reduceLT, Int.reduceLE, Int.reduceAdd, Int.reduceSub, Int.reduceMul, Int.reduceNeg, not_true_eq_false, not_false_eq_true, hc.1, hp, y, e, lt, z, hW, sg8_, A_X]
      exact r1
theorem m_reads (hF : F = am_F T0 g) (hg : GG g) (ht : Tp x n) (hm : Mt x n N) {p q p' W : Int} (hp : A N 219 75 = p) (p0 : 0 ≤ p) (h : Skp x p q) (q1 : q ≤ n) (hw : Wrd x q p' W) (q2 : p' ≤ n) : ∃ N' : am_M, F 134 0 [.ref 219] [] N = some (none, N') ∧ Ch [] [(219, 75), (219, 76), (219, 77)] N N' ∧ A N' 219 75 = p' ∧ A N' 219 76 = q ∧ J N' 219 77 = W := by
  have hn := ht.1
  have h1 := h.1
  obtain ⟨w1, w2, w3, w4⟩ := hw
  obtain ⟨N1, r1, r2, r3, r4⟩ := m_skips hF hg ht hm hp p0 h q1
  have cX : Ch [] [(219, 75), (219, 76), (219, 77)] N (X_ N1 219 77 0) := (r2.mono rfl).xm (Or.inr (by decide))
  obtain ⟨N', s1, s2, s3, s4⟩ := m_reads_l hF hg ht q2 w3 (p' - q).toNat q 0 0 (X_ N1 219 77 0) (by omega) (hm.c3 (cX.mono rfl)) r3 (J_Xs (by omega) (by omega)) (by omega) (by omega) (by omega) w2
  have e : 0 + ((p' - q).toNat : Int) = p' - q := by omega
  rw [e, ← w4] at s4
  refine ⟨N', ?_, cX.trans (s2.mono rfl), s3, (s2.f (a := 219) (z := 76) rfl).trans r4, s4⟩
  refine s_Model_reads hF hg ?_
  simp (config := { maxSteps := 1000000 }) (disch := (first | omega | decide | assumption)) only [ltm_s, ok_n, rd_i, rd_j, fd_i, fd_j, wr_i, wr_j, fw_i, fw_j, ci_s, cj_s, cv_s, dv_n, dw_n, rt_1, rt_b, rt_20, rt_21, okb_0, okb_1, okb_b, nar_0, nar_1, nar_b, i_0, i_1, j_0, j_1, i_lit, j_lit, i_n, iI_add, iI_sub, iI_mul, iI_neg, jI_add, jI_sub, jI_mul, jI_neg, sh_1, an_1, xo_1, di_p, dj_p, i_64A, i_64, j_32, lq_ge, lq_lt, lq_le, lq_gt, lq_eq, i_lt, i_le, i_eq, j_eq, iI_A, jI_J, iI_b, iI_v, jI_v, ↓reduceIte, ite_true, ite_false, Int.reduceEq, Int.reduceLT, Int.reduceLE, Int.reduceAdd, Int.reduceSub, Int.reduceMul, Int.reduceNeg, not_true_eq_false, not_false_eq_true, r1]
  exact s1
-- the words
theorem w_leave (hF : F = am_F T0 g) (hg : GG g) : F 65 0 [.int (iI 108), .int (iI 101), .int (iI 97), .int (iI 118), .int (iI 101)] [] N = some (some (.long (jI 465557354085)), N) := by
  refine s_Model_wordOf hF hg ?_
  rw [if_neg (by decide), if_neg (by decide)]
  exact congrArg (fun z => some (some (Value.long z), N)) (by decide +kernel)
theorem w_down (hF : F = am_F T0 g) (hg : GG g) : F 65 0 [.int (iI 100), .int (iI 111), .int (iI 119), .int (iI 110), .int (iI 0)] [] N = some (some (.long (jI 1685026670)), N) := by
  refine s_Model_wordOf hF hg ?_
  rw [if_neg (by decide), if_pos (by decide)]
  exact congrArg (fun z => some (some (Value.long z), N)) (by decide +kernel)
theorem w_set (hF : F = am_F T0 g) (hg : GG g) : F 65 0 [.int (iI 115), .int (iI 101), .int (iI 116), .int (iI 0), .int (iI 0)] [] N = some (some (.long (jI 7562612)), N) := by
  refine s_Model_wordOf hF hg ?_
  rw [if_pos (by decide), if_pos (by decide)]
  exact congrArg (fun z => some (some (Value.long z), N)) (by decide +kernel)
theorem w_left (hF : F = am_F T0 g) (hg : GG g) : F 65 0 [.int (iI 108), .int (iI 101), .int (iI 102), .int (iI 116), .int (iI 0)] [] N = some (some (.long (jI 1818584692)), N) := by
  refine s_Model_wordOf hF hg ?_
  rw [if_neg (by decide), if_pos (by decide)]
  exact congrArg (fun z => some (some (Value.long z), N)) (by decide +kernel)
theorem w_right (hF : F = am_F T0 g) (hg : GG g) : F 65 0 [.int (iI 114), .int (iI 105), .int (iI 103), .int (iI 104), .int (iI 116)] [] N = some (some (.long (jI 491394656372)), N) := by
  refine s_Model_wordOf hF hg ?_
  rw [if_neg (by decide), if_neg (by decide)]
  exact congrArg (fun z => some (some (Value.long z), N)) (by decide +kernel)
theorem w_ahead (hF : F = am_F T0 g) (hg : GG g) : F 65 0 [.int (iI 97), .int (iI 104), .int (iI 101), .int (iI 97), .int (iI 100)] [] N = some (some (.long (jI 418363302244)), N) := by
  refine s_Model_wordOf hF hg ?_
  rw [if_neg (by decide), if_neg (by decide)]
  exact congrArg (fun z => some (some (Value.long z), N)) (by decide +kernel)
theorem w_compl (hF : F = am_F T0 g) (hg : GG g) : F 65 0 [.int (iI 99), .int (iI 111), .int (iI 109), .int (iI 112), .int (iI 108)] [] N = some (some (.long (jI 427071205484)), N) := by
  refine s_Model_wordOf hF hg ?_
  rw [if_neg (by decide), if_neg (by decide)]
  exact congrArg (fun z => some (some (Value.long z), N)) (by decide +kernel)
theorem w_comply : sg8 427071205484 121 = 109330228604025 := by decide +kernel
theorem m_isSaid (hF : F = am_F T0 g) (hg : GG g) {W C : Int} (hW : J N 219 77 = W) (C1 : -9223372036854775808 ≤ C) (C2 : C < 9223372036854775808) {a b c d e : Int} (hw : F 65 0 [.int (iI a), .int (iI b), .int (iI c), .int (iI d), .int (iI e)] [] N = some (some (.long (jI C)), N)) : F 120 0 [.ref 219, .int (iI a), .int (iI b), .int (iI c), .int (iI d), .int (iI e)] [] N = some (some (.int (iI (bI (W = C)))), N) := by
  have wr1 : -9223372036854775808 ≤ W := by rw [← hW]; exact J_lo _ _ _
  have wr2 : W < 9223372036854775808 := by rw [← hW]; exact J_hi _ _ _
  refine s_Model_isSaid hF hg ?_
  by_cases q : W = C
  · rw [bI_t q]
    have q := eq_true q
    simp (config := { maxSteps := 1000000 }) (disch := (first | omega | decide | assumption)) only [ltm_s, ok_n, rd_i, rd_j, fd_i, fd_j, wr_i, wr_j, fw_i, fw_j, ci_s, cj_s, cv_s, dv_n, dw_n, rt_1, rt_b, rt_20, rt_21, okb_0, okb_1, okb_b, nar_0, nar_1, nar_b, i_0, i_1, j_0, j_1, i_lit, j_lit, i_n, iI_add, iI_sub, iI_mul, iI_neg, jI_add, jI_sub, jI_mul, jI_neg, sh_1, an_1, xo_1, di_p, dj_p, i_64A, i_64, j_32, lq_ge, lq_lt, lq_le, lq_gt, lq_eq, i_lt, i_le, i_eq, j_eq, iI_A, jI_J, iI_b, iI_v, jI_v, ↓reduceIte, ite_true, ite_false, Int.reduceEq, Int.reduceLT, Int.reduceLE, Int.reduceAdd, Int.reduceSub, Int.reduceMul, Int.reduceNeg, not_true_eq_false, not_false_eq_true, hw, hW, q]
  · rw [bI_f q]
    simp (config := { maxSteps := 1000000 }) (disch := (first | omega | decide | assumption)) only [ltm_s, ok_n, rd_i, rd_j, fd_i, fd_j, wr_i, wr_j, fw_i, fw_j, ci_s, cj_s, cv_s, dv_n, dw_n, rt_1, rt_b, rt_20, rt_21, okb_0, okb_1, okb_b, nar_0, nar_1, nar_b, i_0, i_1, j_0, j_1, i_lit, j_lit, i_n, iI_add, iI_sub, iI_mul, iI_neg, jI_add, jI_sub, jI_mul, jI_neg, sh_1, an_1, xo_1, di_p, dj_p, i_64A, i_64, j_32, lq_ge, lq_lt, lq_le, lq_gt, lq_eq, i_lt, i_le, i_eq, j_eq, iI_A, jI_J, iI_b, iI_v, jI_v, ↓reduceIte, ite_true, ite_false, Int.reduceEq, Int.reduceLT, Int.reduceLE, Int.reduceAdd, Int.reduceSub, Int.reduceMul, Int.reduceNeg, not_true_eq_false, not_false_eq_true, hw, hW, q]
end Tk
