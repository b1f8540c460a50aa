/-! THE TAPE, read by both: signs, texts, numbers -/
/-- what lies on the tape: byte p, or -1 -/
def Tp (x : Int → Int) (n : Int) : Prop := (0 ≤ n ∧ n ≤ 160) ∧ (∀ p : Int, 0 ≤ p → p < n → 0 ≤ x p ∧ x p ≤ 255) ∧ ∀ p : Int, p < 0 ∨ n ≤ p → x p = -1
def Ct (x : Int → Int) (n : Int) (N : am_M) : Prop := A N 61 1 = n ∧ ∀ p : Int, 0 ≤ p → p < n → A N 62 p = x p
def Mt (x : Int → Int) (n : Int) (N : am_M) : Prop := A N 219 36 = n ∧ ∀ p : Int, 0 ≤ p → p < n → A N 246 p = x p
/-- a text matched from p on: whether all of it, and how far -/
def mtk (x : Int → Int) : List Int → Int → Int
  | [], _ => 1
  | c :: cs, p => if x p = c then mtk x cs (p + 1) else 0
def mtp (x : Int → Int) : List Int → Int → Int
  | [], p => p
  | c :: cs, p => if x p = c then mtp x cs (p + 1) else p
/-- eaten, with the flag -/
def etp (x : Int → Int) : List Int → Int → Int → Int
  | [], p, _ => p
  | c :: cs, p, b => if b = 0 ∧ x p = c then etp x cs (p + 1) 0 else etp x cs p 1
def etb (x : Int → Int) : List Int → Int → Int → Int
  | [], _, b => b
  | c :: cs, p, b => if b = 0 ∧ x p = c then etb x cs (p + 1) 0 else etb x cs p 1
theorem mtk_y {x : Int → Int} {c : Int} {cs : List Int} {p : Int} (q : x p = c) : mtk x (c :: cs) p = mtk x cs (p + 1) := if_pos q
theorem mtk_n {x : Int → Int} {c : Int} {cs : List Int} {p : Int} (q : ¬ x p = c) : mtk x (c :: cs) p = 0 := if_neg q
theorem mtp_y {x : Int → Int} {c : Int} {cs : List Int} {p : Int} (q : x p = c) : mtp x (c :: cs) p = mtp x cs (p + 1) := if_pos q
theorem mtp_n {x : Int → Int} {c : Int} {cs : List Int} {p : Int} (q : ¬ x p = c) : mtp x (c :: cs) p = p := if_neg q
theorem etp_y {x : Int → Int} {c : Int} {cs : List Int} {p b : Int} (q : b = 0 ∧ x p = c) : etp x (c :: cs) p b = etp x cs (p + 1) 0 := if_pos q
theorem etp_n {x : Int → Int} {c : Int} {cs : List Int} {p b : Int} (q : ¬ (b = 0 ∧ x p = c)) : etp x (c :: cs) p b = etp x cs p 1 := if_neg q
theorem etb_y {x : Int → Int} {c : Int} {cs : List Int} {p b : Int} (q : b = 0 ∧ x p = c) : etb x (c :: cs) p b = etb x cs (p + 1) 0 := if_pos q
theorem etb_n {x : Int → Int} {c : Int} {cs : List Int} {p b : Int} (q : ¬ (b = 0 ∧ x p = c)) : etb x (c :: cs) p b = etb x cs p 1 := if_neg q
theorem et_1 {x : Int → Int} : ∀ {cs : List Int} {p : Int}, etp x cs p 1 = p ∧ etb x cs p 1 = 1
  | [], _ => ⟨rfl, rfl⟩
  | c :: cs, p => by
    have h := et_1 (x := x) (cs := cs) (p := p)
    have q : ¬ ((1 : Int) = 0 ∧ x p = c) := fun h => absurd h.1 (by decide)
    rw [etp_n q, etb_n q]
    exact h
theorem et_0 {x : Int → Int} : ∀ {cs : List Int} {p : Int}, etp x cs p 0 = mtp x cs p ∧ etb x cs p 0 = 1 - mtk x cs p
  | [], _ => ⟨rfl, rfl⟩
  | c :: cs, p => by
    by_cases q : x p = c
    · rw [etp_y ⟨rfl, q⟩, etb_y ⟨rfl, q⟩, mtp_y q, mtk_y q]
      exact et_0
    · rw [etp_n (fun h => q h.2), etb_n (fun h => q h.2), mtp_n q, mtk_n q]
      exact et_1
theorem et_app {x : Int → Int} {ds : List Int} : ∀ {cs : List Int} {p b : Int}, etp x (cs ++ ds) p b = etp x ds (etp x cs p b) (etb x cs p b) ∧ etb x (cs ++ ds) p b = etb x ds (etp x cs p b) (etb x cs p b)
  | [], _, _ => ⟨rfl, rfl⟩
  | c :: cs, p, b => by
    show etp x (c :: (cs ++ ds)) p b = etp x ds (etp x (c :: cs) p b) (etb x (c :: cs) p b) ∧ etb x (c :: (cs ++ ds)) p b = etb x ds (etp x (c :: cs) p b) (etb x (c :: cs) p b)
    by_cases q : b = 0 ∧ x p = c
    · rw [etp_y q, etb_y q, etp_y q, etb_y q]
      exact et_app
    · rw [etp_n q, etb_n q, etp_n q, etb_n q]
      exact et_app
theorem mt_r {x : Int → Int} {n : Int} (ht : Tp x n) : ∀ {cs : List Int} {p : Int}, (∀ c ∈ cs, 0 ≤ c) → 0 ≤ p → p ≤ n → (0 ≤ mtp x cs p ∧ mtp x cs p ≤ n) ∧ (mtk x cs p = 0 ∨ mtk x cs p = 1) ∧ p ≤ mtp x cs p
  | [], p, _, p0, p1 => ⟨⟨p0, p1⟩, Or.inr rfl, Int.le_refl _⟩
  | c :: cs, p, hc, p0, p1 => by
    by_cases q : x p = c
    · rw [mtp_y q, mtk_y q]
      have c0 := hc c (List.mem_cons_self ..)
      have hp : p < n := by
        by_cases y : p < n
        · exact y
        · have := ht.2.2 p (Or.inr (by omega)); omega
      have ih := mt_r ht (cs := cs) (p := p + 1) (fun d hd => hc d (List.mem_cons_of_mem _ hd)) (by omega) (by omega)
      exact ⟨ih.1, ih.2.1, by omega⟩
    · rw [mtp_n q, mtk_n q]
      exact ⟨⟨p0, p1⟩, Or.inl rfl, Int.le_refl _⟩
/-- digits from p on, so many at most: their number, and how far -/
def nmv (x : Int → Int) : Nat → Int → Int → Int
  | 0, _, v => v
  | r + 1, p, v => if 48 ≤ x p ∧ x p ≤ 57 then nmv x r (p + 1) (10 * v + x p - 48) else v
def nmp (x : Int → Int) : Nat → Int → Int
  | 0, p => p
  | r + 1, p => if 48 ≤ x p ∧ x p ≤ 57 then nmp x r (p + 1) else p
theorem nmv_y {x : Int → Int} {r : Nat} {p v : Int} (q : 48 ≤ x p ∧ x p ≤ 57) : nmv x (r + 1) p v = nmv x r (p + 1) (10 * v + x p - 48) := if_pos q
theorem nmv_n {x : Int → Int} {r : Nat} {p v : Int} (q : ¬ (48 ≤ x p ∧ x p ≤ 57)) : nmv x (r + 1) p v = v := if_neg q
theorem nmp_y {x : Int → Int} {r : Nat} {p : Int} (q : 48 ≤ x p ∧ x p ≤ 57) : nmp x (r + 1) p = nmp x r (p + 1) := if_pos q
theorem nmp_n {x : Int → Int} {r : Nat} {p : Int} (q : ¬ (48 ≤ x p ∧ x p ≤ 57)) : nmp x (r + 1) p = p := if_neg q
theorem nmv_r {x : Int → Int} {p : Int} : 0 ≤ nmv x 4 p 0 ∧ nmv x 4 p 0 ≤ 9999 := by
  simp only [nmv]
  (repeat' split) <;> omega
theorem nmp_r {x : Int → Int} {n : Int} (ht : Tp x n) : ∀ {r : Nat} {p : Int}, 0 ≤ p → p ≤ n → p ≤ nmp x r p ∧ nmp x r p ≤ n
  | 0, p, p0, p1 => ⟨Int.le_refl _, p1⟩
  | r + 1, p, p0, p1 => by
    by_cases q : 48 ≤ x p ∧ x p ≤ 57
    · rw [nmp_y q]
      have hp : p < n := by
        by_cases y : p < n
        · exact y
        · have := ht.2.2 p (Or.inr (by omega)); omega
      have ih := nmp_r ht (r := r) (p := p + 1) (by omega) (by omega)
      omega
    · rw [nmp_n q]; omega
section Tq
variable {M N : am_M} {g : am_G} {F : am_FT} {x : Int → Int} {n : Int}
theorem Tp.r (ht : Tp x n) (p : Int) : -1 ≤ x p ∧ x p ≤ 255 := by
  by_cases q : p < 0 ∨ n ≤ p
  · rw [ht.2.2 p q]; omega
  · have := ht.2.1 p (by omega) (by omega); omega
theorem Ct.ch {N' : am_M} (h : Ct x n N) (c : Ch (List.range' 112 25) [(61, 2)] N N') : Ct x n N' := by
  refine ⟨(c.f (a := 61) (z := 1) rfl).trans h.1, fun p p0 p1 => (c.a (a := 62) rfl).trans (h.2 p p0 p1)⟩
theorem Mt.ch {N' : am_M} (h : Mt x n N) (c : Ch [255] [(219, 75), (219, 92)] N N') : Mt x n N' := by
  refine ⟨(c.f (a := 219) (z := 36) rfl).trans h.1, fun p p0 p1 => (c.a (a := 246) rfl).trans (h.2 p p0 p1)⟩
theorem c_signAt (hF : F = am_F T0 g) (hg : GG g) (ht : Tp x n) (hc : Ct x n N) {p : Int} (p1 : -2147483648 ≤ p) (p2 : p < 2147483648) : F 82 0 [.ref 61, .int (iI p)] [] N = some (some (.int (iI (x p))), N) := by
  obtain ⟨t1, t2, t3⟩ := ht
  obtain ⟨c1, c2⟩ := hc
  refine s_Tape_signAt hF hg ?_
  by_cases q : p < 0
  · rw [t3 p (Or.inl q)]
    simp (config := { maxSteps := 1000000 }) (disch := (first | omega | decide | assumption)) only [ltm_s, ok_n, rd_i, rd_j, fd_i, fd_j, wr_i, wr_j, fw_i, fw_j, ci_s, cj_s, cv_s, dv_n, dw_n, rt_1, rt_b, rt_20, rt_21, okb_0, okb_1, okb_b, nar_0, nar_1, nar_b, i_0, i_1, j_0, j_1, i_lit, j_lit, i_n, iI_add, iI_sub, iI_mul, iI_neg, jI_add, jI_sub, jI_mul, jI_neg, sh_1, an_1, xo_1, di_p, dj_p, i_64A, i_64, j_32, lq_ge, lq_lt, lq_le, lq_gt, lq_eq, i_lt, i_le, i_eq, j_eq, iI_A, jI_J, iI_b, iI_v, jI_v, ↓reduceIte, ite_true, ite_false, Int.reduceEq, Int.reduceLT, Int.reduceLE, Int.reduceAdd, Int.reduceSub, Int.reduceMul, Int.reduceNeg, not_true_eq_false, not_false_eq_true, q]
  by_cases q2 : n ≤ p
  · rw [t3 p (Or.inr q2)]
    simp (config := { maxSteps := 1000000 }) (disch := (first | omega | decide | assumption)) only [ltm_s, ok_n, rd_i, rd_j, fd_i, fd_j, wr_i, wr_j, fw_i, fw_j, ci_s, cj_s, cv_s, dv_n, dw_n, rt_1, rt_b, rt_20, rt_21, okb_0, okb_1, okb_b, nar_0, nar_1, nar_b, i_0, i_1, j_0, j_1, i_lit, j_lit, i_n, iI_add, iI_sub, iI_mul, iI_neg, jI_add, jI_sub, jI_mul, jI_neg, sh_1, an_1, xo_1, di_p, dj_p, i_64A, i_64, j_32, lq_ge, lq_lt, lq_le, lq_gt, lq_eq, i_lt, i_le, i_eq, j_eq, iI_A, jI_J, iI_b, iI_v, jI_v, ↓reduceIte, ite_true, ite_false, Int.reduceEq, Int.reduceLT, Int.reduceLE, Int.reduceAdd, Int.reduceSub, Int.reduceMul, Int.reduceNeg, not_true_eq_false, not_false_eq_true, q, c1, q2]
  · have e := c2 p (by omega) (by omega)
    simp (config := { maxSteps := 1000000 }) (disch := (first | omega | decide | assumption)) only [ltm_s, ok_n, rd_i, rd_j, fd_i, fd_j, wr_i, wr_j, fw_i, fw_j, ci_s, cj_s, cv_s, dv_n, dw_n, rt_1, rt_b, rt_20, rt_21, okb_0, okb_1, okb_b, nar_0, nar_1, nar_b, i_0, i_1, j_0, j_1, i_lit, j_lit, i_n, iI_add, iI_sub, iI_mul, iI_neg, jI_add, jI_sub, jI_mul, jI_neg, sh_1, an_1, xo_1, di_p, dj_p, i_64A, i_64, j_32, lq_ge, lq_lt, lq_le, lq_gt, lq_eq, i_lt, i_le, i_eq, j_eq, iI_A, jI_J, iI_b, iI_v, jI_v, ↓reduceIte, ite_true, ite_false, Int.reduceEq, Int.reduceLT, Int.reduceLE, Int.reduceAdd, Int.reduceSub, Int.reduceMul, Int.reduceNeg, not_true_eq_false, not_false_eq_true, q, c1, q2, e]
theorem c_isDigit (hF : F = am_F T0 g) (hg : GG g) {v : Int} (v1 : -2147483648 ≤ v) (v2 : v < 2147483648) : F 80 0 [.int (iI v)] [] N = some (some (.int (iI (bI (48 ≤ v ∧ v ≤ 57)))), N) := by
  refine s_Tape_isDigit hF hg ?_
  by_cases a : v < 48
  · rw [bI_f (by omega)]
    simp (config := { maxSteps := 1000000 }) (disch := (first | omega | decide | assumption)) only [ltm_s, ok_n, rd_i, rd_j, fd_i, fd_j, wr_i, wr_j, fw_i, fw_j, ci_s, cj_s, cv_s, dv_n, dw_n, rt_1, rt_b, rt_20, rt_21, okb_0, okb_1, okb_b, nar_0, nar_1, nar_b, i_0, i_1, j_0, j_1, i_lit, j_lit, i_n, iI_add, iI_sub, iI_mul, iI_neg, jI_add, jI_sub, jI_mul, jI_neg, sh_1, an_1, xo_1, di_p, dj_p, i_64A, i_64, j_32, lq_ge, lq_lt, lq_le, lq_gt, lq_eq, i_lt, i_le, i_eq, j_eq, iI_A, jI_J, iI_b, iI_v, jI_v, ↓reduceIte, ite_true, ite_false, Int.reduceEq, Int.reduceLT, Int.reduceLE, Int.reduceAdd, Int.reduceSub, Int.reduceMul, Int.reduceNeg, not_true_eq_false, not_false_eq_true, a]
  · by_cases b : 57 < v
    · rw [bI_f (by omega)]
      simp (config := { maxSteps := 1000000 }) (disch := (first | omega | decide | assumption)) only [ltm_s, ok_n, rd_i, rd_j, fd_i, fd_j, wr_i, wr_j, fw_i, fw_j, ci_s, cj_s, cv_s, dv_n, dw_n, rt_1, rt_b, rt_20, rt_21, okb_0, okb_1, okb_b, nar_0, nar_1, nar_b, i_0, i_1, j_0, j_1, i_lit, j_lit, i_n, iI_add, iI_sub, iI_mul, iI_neg, jI_add, jI_sub, jI_mul, jI_neg, sh_1, an_1, xo_1, di_p, dj_p, i_64A, i_64, j_32, lq_ge, lq_lt, lq_le, lq_gt, lq_eq, i_lt, i_le, i_eq, j_eq, iI_A, jI_J, iI_b, iI_v, jI_v, ↓reduceIte, ite_true, ite_false, Int.reduceEq, Int.reduceLT, Int.reduceLE, Int.reduceAdd, Int.reduceSub, Int.reduceMul, Int.reduceNeg, not_true_eq_false, not_false_eq_true, a, b]
    · rw [bI_t (by omega)]
      simp (config := { maxSteps := 1000000 }) (disch := (first | omega | decide | assumption)) only [ltm_s, ok_n, rd_i, rd_j, fd_i, fd_j, wr_i, wr_j, fw_i, fw_j, ci_s, cj_s, cv_s, dv_n, dw_n, rt_1, rt_b, rt_20, rt_21, okb_0, okb_1, okb_b, nar_0, nar_1, nar_b, i_0, i_1, j_0, j_1, i_lit, j_lit, i_n, iI_add, iI_sub, iI_mul, iI_neg, jI_add, jI_sub, jI_mul, jI_neg, sh_1, an_1, xo_1, di_p, dj_p, i_64A, i_64, j_32, lq_ge, lq_lt, lq_le, lq_gt, lq_eq, i_lt, i_le, i_eq, j_eq, iI_A, jI_J, iI_b, iI_v, jI_v, ↓reduceIte, ite_true, ite_false, Int.reduceEq, Int.reduceLT, Int.reduceLE, Int.reduceAdd, Int.reduceSub, Int.reduceMul, Int.reduceNeg, not_true_eq_false, not_false_eq_true, a, b]
theorem c_isAtEnd (hF : F = am_F T0 g) (hg : GG g) (ht : Tp x n) (hc : Ct x n N) {p : Int} (hp : A N 61 2 = p) : F 79 0 [.ref 61] [] N = some (some (.int (iI (bI (n ≤ p)))), N) := by
  have hn := ht.1
  have pr : -2147483648 ≤ p ∧ p < 2147483648 := by
    rw [← hp]; exact ⟨A_lo _ _ _, A_hi _ _ _⟩
  refine s_Tape_isAtEnd hF hg ?_
  by_cases q : n ≤ p
  · rw [bI_t q]
    have u : ¬ p < n := by omega
    simp (config := { maxSteps := 1000000 }) (disch := (first | omega | decide | assumption)) only [ltm_s, ok_n, rd_i, rd_j, fd_i, fd_j, wr_i, wr_j, fw_i, fw_j, ci_s, cj_s, cv_s, dv_n, dw_n, rt_1, rt_b, rt_20, rt_21, okb_0, okb_1, okb_b, nar_0, nar_1, nar_b, i_0, i_1, j_0, j_1, i_lit, j_lit, i_n, iI_add, iI_sub, iI_mul, iI_neg, jI_add, jI_sub, jI_mul, jI_neg, sh_1, an_1, xo_1, di_p, dj_p, i_64A, i_64, j_32, lq_ge, lq_lt, lq_le, lq_gt, lq_eq, i_lt, i_le, i_eq, j_eq, iI_A, jI_J, iI_b, iI_v, jI_v, ↓reduceIte, ite_true, ite_false, Int.reduceEq, Int.reduceLT, Int.reduceLE, Int.reduceAdd, Int.reduceSub, Int.reduceMul, Int.reduceNeg, not_true_eq_false, not_false_eq_true, hp, hc.1, u]
  · rw [bI_f q]
    have u : p < n := by omega
    simp (config := { maxSteps := 1000000 }) (disch := (first | omega | decide | assumption)) only [ltm_s, ok_n, rd_i, rd_j, fd_i, fd_j, wr_i, wr_j, fw_i, fw_j, ci_s, cj_s, cv_s, dv_n, dw_n, rt_1, rt_b, rt_20, rt_21, okb_0, okb_1, okb_b, nar_0, nar_1, nar_b, i_0, i_1, j_0, j_1, i_lit, j_lit, i_n, iI_add, iI_sub, iI_mul, iI_neg, jI_add, jI_sub, jI_mul, jI_neg, sh_1, an_1, xo_1, di_p, dj_p, i_64A, i_64, j_32, lq_ge, lq_lt, lq_le, lq_gt, lq_eq, i_lt, i_le, i_eq, j_eq, iI_A, jI_J, iI_b, iI_v, jI_v, ↓reduceIte, ite_true, ite_false, Int.reduceEq, Int.reduceLT, Int.reduceLE, Int.reduceAdd, Int.reduceSub, Int.reduceMul, Int.reduceNeg, not_true_eq_false, not_false_eq_true, hp, hc.1, u]
/-- the texts that the class asks for -/
def tx (k : Nat) : List Int := match k with
  | 0 => [116, 97, 107, 101, 32]
  | 1 => [32, 105, 102, 32]
  | 2 => [115, 97, 105, 100]
  | 3 => [119, 114, 111, 110, 103]
  | 4 => [111, 118, 101, 114]
  | 5 => [116, 117, 114, 110, 115]
  | 6 => [102, 101, 101, 116]
  | 7 => [100, 97, 121]
  | 8 => [61]
  | 9 => [60]
  | 10 => [62]
  | _ => [38]
theorem tx_l : ∀ k : Nat, k < 12 → (tx k).length = st_len k ∧ st_len k ≤ 5 ∧ (Int32.ofNat (st_len k) >>> ((0 : Int32) &&& 31)) = Int32.ofNat (st_len k) := by decide +kernel
theorem tx_c : ∀ k : Nat, k < 12 → ∀ i : Nat, i < st_len k → ((st_byt k i &&& 255).toUInt32 % 65536).toInt32 = iI ((tx k).getD i 0) ∧ vp_nar .char (iI ((tx k).getD i 0)) = iI ((tx k).getD i 0) ∧ 0 ≤ (tx k).getD i 0 ∧ (tx k).getD i 0 ≤ 255 := by decide +kernel
theorem tx_n : ∀ k : Nat, k < 12 → ∀ c ∈ tx k, 0 ≤ c := by decide +kernel
theorem c_coder (hF : F = am_F T0 g) (hg : GG g) {k : Nat} (hk : k < 12) : F 28 0 [.ref (1000001 + k)] [] N = some (some (.int 0), N) := by
  obtain ⟨s1, s2, s3, s4, s5⟩ := hg.2.2.2.2 k hk
  refine e_JString_coder hF ?_
  rw [if_neg (by decide)]
  unfold am_gO
  rw [if_pos s1, s2]
  rfl
theorem c_isLatin1 (hF : F = am_F T0 g) (hg : GG g) {k : Nat} (hk : k < 12) : F 29 0 [.ref (1000001 + k)] [] N = some (some (.int 1), N) := by
  obtain ⟨s1, s2, s3, s4, s5⟩ := hg.2.2.2.2 k hk
  refine e_JString_isLatin1 hF ?_
  rw [if_neg (by decide)]
  unfold am_gO
  rw [if_pos s1, s2]
  rfl
theorem c_slen (hF : F = am_F T0 g) (hg : GG g) {k : Nat} (hk : k < 12) : F 103 0 [.ref (1000001 + k)] [] N = some (some (.int (iI (st_len k : Int))), N) := by
  obtain ⟨s1, s2, s3, s4, s5⟩ := hg.2.2.2.2 k hk
  refine e_JString_length hF ?_
  unfold am_gS
  rw [cl_ib s1 s3, cl_ln s4 (Or.inr (Or.inr rfl))]
  unfold am_rc
  rw [if_pos (Or.inr ⟨rfl, s1⟩)]
  refine ci_in (c_coder hF hg hk) ?_
  rw [(tx_l k hk).2.2]
  rfl
theorem c_charAt (hF : F = am_F T0 g) (hg : GG g) {k : Nat} (hk : k < 12) {i : Nat} (hi : i < st_len k) : F 233 0 [.ref (1000001 + k), .int (iI (i : Int))] [] N = some (some (.int (iI ((tx k).getD i 0))), N) := by
  obtain ⟨s1, s2, s3, s4, s5⟩ := hg.2.2.2.2 k hk
  have l5 := (tx_l k hk).2.1
  obtain ⟨t1, t2, t3⟩ := tx_c k hk i hi
  have hin : (iI (i : Int)).toNatClampNeg = i := by
    rw [iI_n (by omega) (by omega)]; omega
  have n0 : ¬ (iI (i : Int)) < 0 := by
    rw [i_lt, iI_v (by omega) (by omega)]
    have : (0 : Int32).toInt = 0 := rfl
    omega
  have n1 : (iI (i : Int)) < Int32.ofNat (st_len k) := by
    rw [i_n, i_lt, iI_v (by omega) (by omega), iI_v (by omega) (by omega)]
    omega
  have ci : F 102 0 [.int (iI (i : Int)), .int (Int32.ofNat (st_len k))] [] N = some (none, N) := by
    refine e_JString_checkIndex hF ?_
    refine ci_in (v := iI (i : Int)) (M := N) ?_ rfl
    refine e_JPrec_checkIndex hF ?_
    rw [if_neg n0, if_pos n1]
    rfl
  have lat : F 173 0 [.ref (1000100 + k), .int (iI (i : Int))] [] N = some (some (.int (iI ((tx k).getD i 0))), N) := by
    refine e_JLatin1_charAt hF ?_
    rw [cl_ln s4 (Or.inr (Or.inr rfl)), cl_cv ci, cl_za52 s4 (by
      unfold am_oob
      rw [hin]
      exact fun h => h.elim n0 (fun h => by omega)), hin, s5, t1]
    unfold am_rt
    exact if_pos t2
  refine e_JString_charAt hF ?_
  unfold am_rc
  rw [if_pos (Or.inr ⟨rfl, s1⟩)]
  refine ci_in (c_isLatin1 hF hg hk) ?_
  rw [if_neg (by decide)]
  unfold am_gS
  rw [cl_ib s1 s3]
  refine ci_in lat ?_
  unfold am_rt
  exact if_pos t2
theorem c_text_l (hF : F = am_F T0 g) (hg : GG g) (ht : Tp x n) {k : Nat} (hk : k < 12) : ∀ (cs : List Int) (i : Nat) (p : Int) (N : am_M), i + cs.length = st_len k → (∀ j : Nat, j < cs.length → cs.getD j 0 = (tx k).getD (i + j) 0) → Ct x n N → A N 61 2 = p → 0 ≤ p → p ≤ n → ∃ N' : am_M, F 257 2 [.ref 61, .ref (1000001 + k), .int (iI (i : Int))] [] N = some (some (.int (iI (mtk x cs p))), N') ∧ Ch [] [(61, 2)] N N' ∧ A N' 61 2 = mtp x cs p := by
  have l5 := (tx_l k hk).2.1
  have hn := ht.1
  have g61 := gk_61 hg
  obtain ⟨s1, -⟩ := hg.2.2.2.2 k hk
  intro cs
  induction cs with
  | nil =>
    intro i p N hi hj hc hp p0 p1
    refine ⟨N, ?_, Ch.refl, hp⟩
    refine e_Tape_takesText_2 hF ?_
    unfold am_rc
    rw [if_pos (Or.inr ⟨rfl, s1⟩)]
    refine ci_in (c_slen hF hg hk) ?_
    have hi : i = st_len k := hi
    rw [if_pos (by rw [i_le, hi]; exact Int.le_refl _)]
    rfl
  | cons c cs ih =>
    intro i p N hi hj hc hp p0 p1
    have hi1 : i + (cs.length + 1) = st_len k := hi
    have ec : c = (tx k).getD i 0 := hj 0 (by show 0 < cs.length + 1; omega)
    have c0 := (tx_c k hk i (by omega)).2.2
    rw [← ec] at c0
    have sg := c_signAt hF hg ht hc (p := p) (by omega) (by omega)
    have ca := c_charAt hF hg hk (i := i) (by omega) (N := N)
    rw [← ec] at ca
    have xr := ht.r p
    have hs : (iI (i : Int)) + 1 = iI ((i + 1 : Nat) : Int) := by
      rw [i_1, iI_add]; rfl
    have key : ∀ r : am_R, (if x p = c then F 257 2 [.ref 61, .ref (1000001 + k), .int (iI ((i + 1 : Nat) : Int))] [] (W_ N 61 2 (p + 1)) else some (some (.int (iI 0)), N)) = some r → F 257 2 [.ref 61, .ref (1000001 + k), .int (iI (i : Int))] [] N = some r := fun r hr => by
      refine e_Tape_takesText_2 hF ?_
      unfold am_rc
      rw [if_pos (Or.inr ⟨rfl, s1⟩)]
      refine ci_in (c_slen hF hg hk) ?_
      rw [if_neg (by rw [i_le, iI_v (by omega) (by omega), iI_v (by omega) (by omega)]; omega), cl_gI g61, if_pos (Or.inl g61)]
      have er : rI N 61 2 = iI p := by rw [← hp]; exact (iI_of _).symm
      rw [er]
      refine ci_in sg ?_
      rw [if_pos (Or.inr ⟨rfl, s1⟩)]
      refine ci_in ca ?_
      by_cases q : x p = c
      · rw [if_pos q] at hr
        rw [if_pos (by rw [q]), cl_gI g61, cl_pI g61, hs, er, i_1, iI_add]
        exact hr
      · rw [if_neg q] at hr
        rw [if_neg (by rw [i_eq, iI_v (by omega) (by omega), iI_v (by omega) (by omega)]; exact q)]
        exact hr
    by_cases q : x p = c
    · have hp1 : p < n := by
        by_cases y : p < n
        · exact y
        · have := ht.2.2 p (Or.inr (by omega)); omega
      have cW : Ch [] [(61, 2)] N (W_ N 61 2 (p + 1)) := Ch.refl.wm (Or.inr (by decide))
      obtain ⟨N', q1, q2, q3⟩ := ih (i + 1) (p + 1) (W_ N 61 2 (p + 1)) (by omega) (fun j hjl => by
        have := hj (j + 1) (by show j + 1 < cs.length + 1; omega)
        rw [show i + 1 + j = i + (j + 1) by omega]
        exact this) (hc.ch (cW.mono rfl)) (A_Ws (by omega) (by omega)) (by omega) (by omega)
      refine ⟨N', key _ ?_, cW.trans q2, ?_⟩
      · rw [if_pos q, q1, mtk_y q]
      · rw [mtp_y q]; exact q3
    · refine ⟨N, key _ ?_, Ch.refl, ?_⟩
      · rw [if_neg q, mtk_n q]
      · rw [mtp_n q]; exact hp
theorem c_text (hF : F = am_F T0 g) (hg : GG g) (ht : Tp x n) {k : Nat} (hk : k < 12) (hc : Ct x n N) {p : Int} (hp : A N 61 2 = p) (p0 : 0 ≤ p) (p1 : p ≤ n) : ∃ N' : am_M, F 257 0 [.ref 61, .ref (1000001 + k)] [] N = some (some (.int (iI (mtk x (tx k) p))), N') ∧ Ch [] [(61, 2)] N N' ∧ A N' 61 2 = mtp x (tx k) p := by
  obtain ⟨N', q1, q2⟩ := c_text_l hF hg ht hk (tx k) 0 p N (by rw [(tx_l k hk).1]; omega) (fun j _ => by rw [Nat.zero_add]) hc hp p0 p1
  exact ⟨N', e_Tape_takesText hF q1, q2⟩
theorem c_number_l (hF : F = am_F T0 g) (hg : GG g) (ht : Tp x n) : ∀ (r i : Nat) (p v : Int) (N : am_M), i + r = 4 → Ct x n N → A N 61 2 = p → 0 ≤ p → p ≤ n → 0 ≤ v → v < 10 ^ i → ∃ N' : am_M, F 164 20 [.ref 61, .int (iI v), .int (iI (i : Int))] [] N = some (some (.int (iI (nmv x r p v))), N') ∧ Ch [] [(61, 2)] N N' ∧ A N' 61 2 = nmp x r p := by
  have hn := ht.1
  intro r
  induction r with
  | zero =>
    intro i p v N hi hc hp p0 p1 v0 v1
    refine ⟨N, ?_, Ch.refl, hp⟩
    have u : 4 ≤ (i : Int) := by omega
    refine s_Tape_takeNumber_20 hF hg ?_
    simp (config := { maxSteps := 1000000 }) (disch := (first | omega | decide | assumption)) only [ltm_s, ok_n, rd_i, rd_j, fd_i, fd_j, wr_i, wr_j, fw_i, fw_j, ci_s, cj_s, cv_s, dv_n, dw_n, rt_1, rt_b, rt_20, rt_21, okb_0, okb_1, okb_b, nar_0, nar_1, nar_b, i_0, i_1, j_0, j_1, i_lit, j_lit, i_n, iI_add, iI_sub, iI_mul, iI_neg, jI_add, jI_sub, jI_mul, jI_neg, sh_1, an_1, xo_1, di_p, dj_p, i_64A, i_64, j_32, lq_ge, lq_lt, lq_le, lq_gt, lq_eq, i_lt, i_le, i_eq, j_eq, iI_A, jI_J, iI_b, iI_v, jI_v, ↓reduceIte, ite_true, ite_false, Int.reduceEq, Int.reduceLT, Int.reduceLE, Int.reduceAdd, Int.reduceSub, Int.reduceMul, Int.reduceNeg, not_true_eq_false, not_false_eq_true, u]
    rfl
  | succ r ih =>
    intro i p v N hi hc hp p0 p1 v0 v1
    have u : ¬ 4 ≤ (i : Int) := by omega
    have hs : (i : Int) + 1 = ((i + 1 : Nat) : Int) := by omega
    have v4 : v < 10000 := by
      have hi' : i = 0 ∨ i = 1 ∨ i = 2 ∨ i = 3 := by omega
      rcases hi' with rfl | rfl | rfl | rfl <;> omega
    have sg := c_signAt hF hg ht hc (p := p) (by omega) (by omega)
    have xr := ht.r p
    have dg := c_isDigit hF hg (N := N) (v := x p) (by omega) (by omega)
    by_cases q : 48 ≤ x p ∧ x p ≤ 57
    · rw [bI_t q] at dg
      have hp1 : p < n := by
        by_cases y : p < n
        · exact y
        · have := ht.2.2 p (Or.inr (by omega)); omega
      have cW : Ch [] [(61, 2)] N (W_ N 61 2 (p + 1)) := Ch.refl.wm (Or.inr (by decide))
      obtain ⟨N', q1, q2, q3⟩ := ih (i + 1) (p + 1) (10 * v + x p - 48) (W_ N 61 2 (p + 1)) (by omega) (hc.ch (cW.mono rfl)) (A_Ws (by omega) (by omega)) (by omega) (by omega) (by omega) (by
        rw [Int.pow_succ]; omega)
      refine ⟨N', ?_, cW.trans q2, ?_⟩
      · refine s_Tape_takeNumber_20 hF hg ?_
        simp (config := { maxSteps := 1000000 }) (disch := (first | omega | decide | assumption)) only [ltm_s, ok_n, rd_i, rd_j, fd_i, fd_j, wr_i, wr_j, fw_i, fw_j, ci_s, cj_s, cv_s, dv_n, dw_n, rt_1, rt_b, rt_20, rt_21, okb_0, okb_1, okb_b, nar_0, nar_1, nar_b, i_0, i_1, j_0, j_1, i_lit, j_lit, i_n, iI_add, iI_sub, iI_mul, iI_neg, jI_add, jI_sub, jI_mul, jI_neg, sh_1, an_1, xo_1, di_p, dj_p, i_64A, i_64, j_32, lq_ge, lq_lt, lq_le, lq_gt, lq_eq, i_lt, i_le, i_eq, j_eq, iI_A, jI_J, iI_b, iI_v, jI_v, ↓reduceIte, ite_true, ite_false, Int.reduceEq, Int.reduceLT, Int.reduceLE, Int.reduceAdd, Int.reduceSub, Int.reduceMul, Int.reduceNeg, not_true_eq_false, not_false_eq_true, u, hp, sg, dg, hs]
        rw [q1, nmv_y q]
      · rw [nmp_y q]; exact q3
    · rw [bI_f q] at dg
      refine ⟨N, ?_, Ch.refl, ?_⟩
      · refine s_Tape_takeNumber_20 hF hg ?_
        simp (config := { maxSteps := 1000000 }) (disch := (first | omega | decide | assumption)) only [ltm_s, ok_n, rd_i, rd_j, fd_i, fd_j, wr_i, wr_j, fw_i, fw_j, ci_s, cj_s, cv_s, dv_n, dw_n, rt_1, rt_b, rt_20, rt_21, okb_0, okb_1, okb_b, nar_0, nar_1, nar_b, i_0, i_1, j_0, j_1, i_lit, j_lit, i_n, iI_add, iI_sub, iI_mul, iI_neg, jI_add, jI_sub, jI_mul, jI_neg, sh_1, an_1, xo_1, di_p, dj_p, i_64A, i_64, j_32, lq_ge, lq_lt, lq_le, lq_gt, lq_eq, i_lt, i_le, i_eq, j_eq, iI_A, jI_J, iI_b, iI_v, jI_v, ↓reduceIte, ite_true, ite_false, Int.reduceEq, Int.reduceLT, Int.reduceLE, Int.reduceAdd, Int.reduceSub, Int.reduceMul, Int.reduceNeg, not_true_eq_false, not_false_eq_true, u, hp, sg, dg]
        rw [nmv_n q]
      · rw [nmp_n q]; exact hp
theorem c_number (hF : F = am_F T0 g) (hg : GG g) (ht : Tp x n) (hc : Ct x n N) {p : Int} (hp : A N 61 2 = p) (p0 : 0 ≤ p) (p1 : p ≤ n) : ∃ N' : am_M, F 164 0 [.ref 61] [] N = some (some (.int (iI (if 48 ≤ x p ∧ x p ≤ 57 then nmv x 4 p 0 else -1))), N') ∧ Ch [] [(61, 2)] N N' ∧ A N' 61 2 = nmp x 4 p := by
  have hn := ht.1
  have sg := c_signAt hF hg ht hc (p := p) (by omega) (by omega)
  have xr := ht.r p
  have dg := c_isDigit hF hg (N := N) (v := x p) (by omega) (by omega)
  by_cases q : 48 ≤ x p ∧ x p ≤ 57
  · rw [bI_t q] at dg
    obtain ⟨N', q1, q2, q3⟩ := c_number_l hF hg ht 4 0 p 0 N (by omega) hc hp p0 p1 (by omega) (by omega)
    refine ⟨N', ?_, q2, q3⟩
    refine s_Tape_takeNumber hF hg ?_
    rw [if_pos q]
    simp (config := { maxSteps := 1000000 }) (disch := (first | omega | decide | assumption)) only [ltm_s, ok_n, rd_i, rd_j, fd_i, fd_j, wr_i, wr_j, fw_i, fw_j, ci_s, cj_s, cv_s, dv_n, dw_n, rt_1, rt_b, rt_20, rt_21, okb_0, okb_1, okb_b, nar_0, nar_1, nar_b, i_0, i_1, j_0, j_1, i_lit, j_lit, i_n, iI_add, iI_sub, iI_mul, iI_neg, jI_add, jI_sub, jI_mul, jI_neg, sh_1, an_1, xo_1, di_p, dj_p, i_64A, i_64, j_32, lq_ge, lq_lt, lq_le, lq_gt, lq_eq, i_lt, i_le, i_eq, j_eq, iI_A, jI_J, iI_b, iI_v, jI_v, ↓reduceIte, ite_true, ite_false, Int.reduceEq, Int.reduceLT, Int.reduceLE, Int.reduceAdd, Int.reduceSub, Int.reduceMul, Int.reduceNeg, not_true_eq_false, not_false_eq_true, hp, sg, dg]
    exact q1
  · rw [bI_f q] at dg
    refine ⟨N, ?_, Ch.refl, ?_⟩
    · refine s_Tape_takeNumber hF hg ?_
      rw [if_neg q]
      simp (config := { maxSteps := 1000000 }) (disch := (first | omega | decide | assumption)) only [ltm_s, ok_n, rd_i, rd_j, fd_i, fd_j, wr_i, wr_j, fw_i, fw_j, ci_s, cj_s, cv_s, dv_n, dw_n, rt_1, rt_b, rt_20, rt_21, okb_0, okb_1, okb_b, nar_0, nar_1, nar_b, i_0, i_1, j_0, j_1, i_lit, j_lit, i_n, iI_add, iI_sub, iI_mul, iI_neg, jI_add, jI_sub, jI_mul, jI_neg, sh_1, an_1, xo_1, di_p, dj_p, i_64A, i_64, j_32, lq_ge, lq_lt, lq_le, lq_gt, lq_eq, i_lt, i_le, i_eq, j_eq, iI_A, jI_J, iI_b, iI_v, jI_v, ↓reduceIte, ite_true, ite_false, Int.reduceEq, Int.reduceLT, Int.reduceLE, Int.reduceAdd, Int.reduceSub, Int.reduceMul, Int.reduceNeg, not_true_eq_false, not_false_eq_true, hp, sg, dg]
    · rw [nmp_n q]; exact hp
-- the model
theorem m_here (hF : F = am_F T0 g) (hg : GG g) (ht : Tp x n) (hm : Mt x n N) {p : Int} (hp : A N 219 75 = p) (p0 : 0 ≤ p) (p1 : p ≤ n) : F 52 0 [.ref 219] [] N = some (some (.int (iI (x p))), N) := by
  have hn := ht.1
  refine s_Model_here hF hg ?_
  by_cases q : n ≤ p
  · rw [ht.2.2 p (Or.inr q)]
    simp (config := { maxSteps := 1000000 }) (disch := (first | omega | decide | assumption)) only [ltm_s, ok_n, rd_i, rd_j, fd_i, fd_j, wr_i, wr_j, fw_i, fw_j, ci_s, cj_s, cv_s, dv_n, dw_n, rt_1, rt_b, rt_20, rt_21, okb_0, okb_1, okb_b, nar_0, nar_1, nar_b, i_0, i_1, j_0, j_1, i_lit, j_lit, i_n, iI_add, iI_sub, iI_mul, iI_neg, jI_add, jI_sub, jI_mul, jI_neg, sh_1, an_1, xo_1, di_p, dj_p, i_64A, i_64, j_32, lq_ge, lq_lt, lq_le, lq_gt, lq_eq, i_lt, i_le, i_eq, j_eq, iI_A, jI_J, iI_b, iI_v, jI_v, ↓reduceIte, ite_true, ite_false, Int.reduceEq, Int.reduceLT, Int.reduceLE, Int.reduceAdd, Int.reduceSub, Int.reduceMul, Int.reduceNeg, not_true_eq_false, not_false_eq_true, hm.1, hp, q]
  · have e := hm.2 p p0 (by omega)
    simp (config := { maxSteps := 1000000 }) (disch := (first | omega | decide | assumption)) only [ltm_s, ok_n, rd_i, rd_j, fd_i, fd_j, wr_i, wr_j, fw_i, fw_j, ci_s, cj_s, cv_s, dv_n, dw_n, rt_1, rt_b, rt_20, rt_21, okb_0, okb_1, okb_b, nar_0, nar_1, nar_b, i_0, i_1, j_0, j_1, i_lit, j_lit, i_n, iI_add, iI_sub, iI_mul, iI_neg, jI_add, jI_sub, jI_mul, jI_neg, sh_1, an_1, xo_1, di_p, dj_p, i_64A, i_64, j_32, lq_ge, lq_lt, lq_le, lq_gt, lq_eq, i_lt, i_le, i_eq, j_eq, iI_A, jI_J, iI_b, iI_v, jI_v, ↓reduceIte, ite_true, ite_false, Int.reduceEq, Int.reduceLT, Int.reduceLE, Int.reduceAdd, Int.reduceSub, Int.reduceMul, Int.reduceNeg, not_true_eq_false, not_false_eq_true, hm.1, hp, q, e]
theorem m_eats (hF : F = am_F T0 g) (hg : GG g) (ht : Tp x n) (hm : Mt x n N) {p b c : Int} (hp : A N 219 75 = p) (p0 : 0 ≤ p) (p1 : p ≤ n) (hb : A N 219 92 = b) (b01 : b = 0 ∨ b = 1) (c0 : 0 ≤ c) (c1 : c ≤ 255) : ∃ N' : am_M, F 110 0 [.ref 219, .int (iI c)] [] N = some (none, N') ∧ Ch [] [(219, 75), (219, 92)] N N' ∧ A N' 219 75 = etp x [c] p b ∧ A N' 219 92 = etb x [c] p b ∧ (0 ≤ etp x [c] p b ∧ etp x [c] p b ≤ n) ∧ (etb x [c] p b = 0 ∨ etb x [c] p b = 1) := by
  have hn := ht.1
  have hh := m_here hF hg ht hm hp p0 p1
  have xr := ht.r p
  have e1 : etp x [c] p b = if b = 0 ∧ x p = c then p + 1 else p := by
    unfold etp
    split <;> rfl
  have e2 : etb x [c] p b = if b = 0 ∧ x p = c then 0 else 1 := by
    unfold etb
    split <;> rfl
  rw [e1, e2]
  by_cases q : b = 0 ∧ x p = c
  · rw [if_pos q, if_pos q]
    have hp1 : p < n := by
      by_cases y : p < n
      · exact y
      · have := ht.2.2 p (Or.inr (by omega)); omega
    refine ⟨W_ N 219 75 (p + 1), ?_, Ch.refl.wm (Or.inr (by decide)), A_Ws (by omega) (by omega), ?_, by omega, Or.inl rfl⟩
    · refine s_Model_eats hF hg ?_
      simp (config := { maxSteps := 1000000 }) (disch := (first | omega | decide | assumption)) only [ltm_s, ok_n, rd_i, rd_j, fd_i, fd_j, wr_i, wr_j, fw_i, fw_j, ci_s, cj_s, cv_s, dv_n, dw_n, rt_1, rt_b, rt_20, rt_21, okb_0, okb_1, okb_b, nar_0, nar_1, nar_b, i_0, i_1, j_0, j_1, i_lit, j_lit, i_n, iI_add, iI_sub, iI_mul, iI_neg, jI_add, jI_sub, jI_mul, jI_neg, sh_1, an_1, xo_1, di_p, dj_p, i_64A, i_64, j_32, lq_ge, lq_lt, lq_le, lq_gt, lq_eq, i_lt, i_le, i_eq, j_eq, iI_A, jI_J, iI_b, iI_v, jI_v, ↓reduceIte, ite_true, ite_false, Int.reduceEq, Int.reduceLT, Int.reduceLE, Int.reduceAdd, Int.reduceSub, Int.reduceMul, Int.reduceNeg, not_true_eq_false, not_false_eq_true, hb, q.1, hh, q.2, hp]
    · rw [A_Wo (by omega) (by omega) (by omega), hb]; exact q.1
  · rw [if_neg q, if_neg q]
    refine ⟨W_ N 219 92 1, ?_, Ch.refl.wm (Or.inr (by decide)), ?_, A_Ws (by omega) (by omega), by omega, Or.inr rfl⟩
    · refine s_Model_eats hF hg ?_
      rcases b01 with rfl | rfl
      · have q2 : ¬ x p = c := fun h => q ⟨rfl, h⟩
        simp (config := { maxSteps := 1000000 }) (disch := (first | omega | decide | assumption)) only [ltm_s, ok_n, rd_i, rd_j, fd_i, fd_j, wr_i, wr_j, fw_i, fw_j, ci_s, cj_s, cv_s, dv_n, dw_n, rt_1, rt_b, rt_20, rt_21, okb_0, okb_1, okb_b, nar_0, nar_1, nar_b, i_0, i_1, j_0, j_1, i_lit, j_lit, i_n, iI_add, iI_sub, iI_mul, iI_neg, jI_add, jI_sub, jI_mul, jI_neg, sh_1, an_1, xo_1, di_p, dj_p, i_64A, i_64, j_32, lq_ge, lq_lt, lq_le, lq_gt, lq_eq, i_lt, i_le, i_eq, j_eq, iI_A, jI_J, iI_b, iI_v, jI_v, ↓reduceIte, ite_true, ite_false, Int.reduceEq, Int.reduceLT, Int.reduceLE, Int.reduceAdd, Int.reduceSub, Int.reduceMul, Int.reduceNeg, not_true_eq_false, not_false_eq_true, hb, hh, q2]
      · simp (config := { maxSteps := 1000000 }) (disch := (first | omega | decide | assumption)) only [ltm_s, ok_n, rd_i, rd_j, fd_i, fd_j, wr_i, wr_j, fw_i, fw_j, ci_s, cj_s, cv_s, dv_n, dw_n, rt_1, rt_b, rt_20, rt_21, okb_0, okb_1, okb_b, nar_0, nar_1, nar_b, i_0, i_1, j_0, j_1, i_lit, j_lit, i_n, iI_add, iI_sub, iI_mul, iI_neg, jI_add, jI_sub, jI_mul, jI_neg, sh_1, an_1, xo_1, di_p, dj_p, i_64A, i_64, j_32, lq_ge, lq_lt, lq_le, lq_gt, lq_eq, i_lt, i_le, i_eq, j_eq, iI_A, jI_J, iI_b, iI_v, jI_v, ↓reduceIte, ite_true, ite_false, Int.reduceEq, Int.reduceLT, Int.reduceLE, Int.reduceAdd, Int.reduceSub, Int.reduceMul, Int.reduceNeg, not_true_eq_false, not_false_eq_true, hb]
    · rw [A_Wo (by omega) (by omega) (by omega)]; exact hp
theorem Mt.c2 {N' : am_M} (h : Mt x n N) (c : Ch [] [(219, 75), (219, 92)] N N') : Mt x n N' := h.ch (c.mono rfl)
theorem m_eats4 (hF : F = am_F T0 g) (hg : GG g) (ht : Tp x n) (hm : Mt x n N) {p b c1 c2 c3 c4 : Int} (hp : A N 219 75 = p) (p0 : 0 ≤ p) (p1 : p ≤ n) (hb : A N 219 92 = b) (b01 : b = 0 ∨ b = 1) (h1 : 0 ≤ c1 ∧ c1 ≤ 255) (h2 : 0 ≤ c2 ∧ c2 ≤ 255) (h3 : 0 ≤ c3 ∧ c3 ≤ 255) (h4 : 0 ≤ c4 ∧ c4 ≤ 255) : ∃ N' : am_M, F 181 0 [.ref 219, .int (iI c1), .int (iI c2), .int (iI c3), .int (iI c4)] [] N = some (none, N') ∧ Ch [] [(219, 75), (219, 92)] N N' ∧ A N' 219 75 = etp x [c1, c2, c3, c4] p b ∧ A N' 219 92 = etb x [c1, c2, c3, c4] p b ∧ (0 ≤ etp x [c1, c2, c3, c4] p b ∧ etp x [c1, c2, c3, c4] p b ≤ n) ∧ (etb x [c1, c2, c3, c4] p b = 0 ∨ etb x [c1, c2, c3, c4] p b = 1) := by
  obtain ⟨N1, a1, a2, a3, a4, a5, a6⟩ := m_eats hF hg ht hm (c := c1) hp p0 p1 hb b01 h1.1 h1.2
  obtain ⟨N2, d1, d2, d3, d4, d5, d6⟩ := m_eats hF hg ht (hm.c2 a2) (c := c2) a3 a5.1 a5.2 a4 a6 h2.1 h2.2
  obtain ⟨N3, f1, f2, f3, f4, f5, f6⟩ := m_eats hF hg ht ((hm.c2 a2).c2 d2) (c := c3) d3 d5.1 d5.2 d4 d6 h3.1 h3.2
  obtain ⟨N4, i1, i2, i3, i4, i5, i6⟩ := m_eats hF hg ht (((hm.c2 a2).c2 d2).c2 f2) (c := c4) f3 f5.1 f5.2 f4 f6 h4.1 h4.2
  have k2 : ([c1, c2, c3, c4] : List Int) = [c1] ++ ([c2] ++ ([c3] ++ [c4])) := rfl
  have ep : etp x [c1, c2, c3, c4] p b = etp x [c4] (etp x [c3] (etp x [c2] (etp x [c1] p b) (etb x [c1] p b)) (etb x [c2] (etp x [c1] p b) (etb x [c1] p b))) (etb x [c3] (etp x [c2] (etp x [c1] p b) (etb x [c1] p b)) (etb x [c2] (etp x [c1] p b) (etb x [c1] p b))) := by
    rw [k2, et_app.1, et_app.1, et_app.1]
  have eb : etb x [c1, c2, c3, c4] p b = etb x [c4] (etp x [c3] (etp x [c2] (etp x [c1] p b) (etb x [c1] p b)) (etb x [c2] (etp x [c1] p b) (etb x [c1] p b))) (etb x [c3] (etp x [c2] (etp x [c1] p b) (etb x [c1] p b)) (etb x [c2] (etp x [c1] p b) (etb x [c1] p b))) := by
    rw [k2, et_app.2, et_app.2, et_app.2]
  rw [ep, eb]
  refine ⟨N4, ?_, a2.trans (d2.trans (f2.trans i2)), i3, i4, i5, i6⟩
  refine s_Model_eats4 hF hg ?_
  rw [cl_cv a1, cl_cv d1, cl_cv f1, cl_cv i1]
theorem m_number_l (hF : F = am_F T0 g) (hg : GG g) (ht : Tp x n) : ∀ (r i : Nat) (p v : Int) (N : am_M), i + r = 4 → Mt x n N → A N 219 75 = p → 0 ≤ p → p ≤ n → A N 219 92 = 0 → 0 ≤ v → v < 10 ^ i → ∃ N' : am_M, F 126 4 [.ref 219, .int (iI v), .int (iI (i : Int))] [] N = some (some (.int (iI (nmv x r p v))), N') ∧ Ch [] [(219, 75), (219, 92)] N N' ∧ A N' 219 75 = nmp x r p ∧ A N' 219 92 = (if i = 0 ∧ ¬ (48 ≤ x p ∧ x p ≤ 57) then 1 else 0) := by
  have hn := ht.1
  intro r
  induction r with
  | zero =>
    intro i p v N hi hm hp p0 p1 hb v0 v1
    refine ⟨W_ N 219 92 0, ?_, Ch.refl.wm (Or.inr (by decide)), ?_, ?_⟩
    · have u : 4 ≤ (i : Int) := by omega
      have u2 : ¬ (i : Int) = 0 := by omega
      refine s_Model_number_4 hF hg ?_
      simp (config := { maxSteps := 1000000 }) (disch := (first | omega | decide | assumption)) only [ltm_s, ok_n, rd_i, rd_j, fd_i, fd_j, wr_i, wr_j, fw_i, fw_j, ci_s, cj_s, cv_s, dv_n, dw_n, rt_1, rt_b, rt_20, rt_21, okb_0, okb_1, okb_b, nar_0, nar_1, nar_b, i_0, i_1, j_0, j_1, i_lit, j_lit, i_n, iI_add, iI_sub, iI_mul, iI_neg, jI_add, jI_sub, jI_mul, jI_neg, sh_1, an_1, xo_1, di_p, dj_p, i_64A, i_64, j_32, lq_ge, lq_lt, lq_le, lq_gt, lq_eq, i_lt, i_le, i_eq, j_eq, iI_A, jI_J, iI_b, iI_v, jI_v, ↓reduceIte, ite_true, ite_false, Int.reduceEq, Int.reduceLT, Int.reduceLE, Int.reduceAdd, Int.reduceSub, Int.reduceMul, Int.reduceNeg, not_true_eq_false, not_false_eq_true, hb, u, u2]
      rfl
    · rw [A_Wo (by omega) (by omega) (by omega)]; exact hp
    · rw [A_Ws (by omega) (by omega), if_neg (by omega)]
  | succ r ih =>
    intro i p v N hi hm hp p0 p1 hb v0 v1
    have u : ¬ 4 ≤ (i : Int) := by omega
    have hs : (i : Int) + 1 = ((i + 1 : Nat) : Int) := by omega
    have v4 : v < 10000 := by
      have hi' : i = 0 ∨ i = 1 ∨ i = 2 ∨ i = 3 := by omega
      rcases hi' with rfl | rfl | rfl | rfl <;> omega
    have hh := m_here hF hg ht hm hp p0 p1
    have xr := ht.r p
    have dg := m_inn hF hg (M := N) (v := x p) (l := 48) (h := 57) (by omega) (by omega) (by omega) (by omega) (by omega) (by omega)
    by_cases q : 48 ≤ x p ∧ x p ≤ 57
    · rw [bI_t q] at dg
      have hp1 : p < n := by
        by_cases y : p < n
        · exact y
        · have := ht.2.2 p (Or.inr (by omega)); omega
      have cW : Ch [] [(219, 75), (219, 92)] N (W_ N 219 75 (p + 1)) := Ch.refl.wm (Or.inr (by decide))
      obtain ⟨N', q1, q2, q3, q4⟩ := ih (i + 1) (p + 1) (10 * v + x p - 48) (W_ N 219 75 (p + 1)) (by omega) (hm.c2 cW) (A_Ws (by omega) (by omega)) (by omega) (by omega) (by rw [A_Wo (by omega) (by omega) (by omega)]; exact hb) (by omega) (by
        rw [Int.pow_succ]; omega)
      refine ⟨N', ?_, cW.trans q2, ?_, ?_⟩
      · refine s_Model_number_4 hF hg ?_
        simp (config := { maxSteps := 1000000 }) (disch := (first | omega | decide | assumption)) only [ltm_s, ok_n, rd_i, rd_j, fd_i, fd_j, wr_i, wr_j, fw_i, fw_j, ci_s, cj_s, cv_s, dv_n, dw_n, rt_1, rt_b, rt_20, rt_21, okb_0, okb_1, okb_b, nar_0, nar_1, nar_b, i_0, i_1, j_0, j_1, i_lit, j_lit, i_n, iI_add, iI_sub, iI_mul, iI_neg, jI_add, jI_sub, jI_mul, jI_neg, sh_1, an_1, xo_1, di_p, dj_p, i_64A, i_64, j_32, lq_ge, lq_lt, lq_le, lq_gt, lq_eq, i_lt, i_le, i_eq, j_eq, iI_A, jI_J, iI_b, iI_v, jI_v, ↓reduceIte, ite_true, ite_false, Int.reduceEq, Int.reduceLT, Int.reduceLE, Int.reduceAdd, Int.reduceSub, Int.reduceMul, Int.reduceNeg, not_true_eq_false, not_false_eq_true, hb, u, hh, dg, hp, hs]
        rw [q1, nmv_y q]
      · rw [nmp_y q]; exact q3
      · rw [q4, if_neg (by omega), if_neg (fun h => h.2 q)]
    · rw [bI_f q] at dg
      by_cases i0 : i = 0
      · refine ⟨W_ N 219 92 1, ?_, Ch.refl.wm (Or.inr (by decide)), ?_, ?_⟩
        · have u2 : (i : Int) = 0 := by omega
          refine s_Model_number_4 hF hg ?_
          simp (config := { maxSteps := 1000000 }) (disch := (first | omega | decide | assumption)) only [ltm_s, ok_n, rd_i, rd_j, fd_i, fd_j, wr_i, wr_j, fw_i, fw_j, ci_s, cj_s, cv_s, dv_n, dw_n, rt_1, rt_b, rt_20, rt_21, okb_0, okb_1, okb_b, nar_0, nar_1, nar_b, i_0, i_1, j_0, j_1, i_lit, j_lit, i_n, iI_add, iI_sub, iI_mul, iI_neg, jI_add, jI_sub, jI_mul, jI_neg, sh_1, an_1, xo_1, di_p, dj_p, i_64A, i_64, j_32, lq_ge, lq_lt, lq_le, lq_gt, lq_eq, i_lt, i_le, i_eq, j_eq, iI_A, jI_J, iI_b, iI_v, jI_v, ↓reduceIte, ite_true, ite_false, Int.reduceEq, Int.reduceLT, Int.reduceLE, Int.reduceAdd, Int.reduceSub, Int.reduceMul, Int.reduceNeg, not_true_eq_false, not_false_eq_true, hb, u, hh, dg, u2]
          rw [nmv_n q]
        · rw [A_Wo (by omega) (by omega) (by omega), nmp_n q]; exact hp
        · rw [A_Ws (by omega) (by omega), if_pos ⟨i0, q⟩]
      · refine ⟨W_ N 219 92 0, ?_, Ch.refl.wm (Or.inr (by decide)), ?_, ?_⟩
        · have u2 : ¬ (i : Int) = 0 := by omega
          refine s_Model_number_4 hF hg ?_
          simp (config := { maxSteps := 1000000 }) (disch := (first | omega | decide | assumption)) only [ltm_s, ok_n, rd_i, rd_j, fd_i, fd_j, wr_i, wr_j, fw_i, fw_j, ci_s, cj_s, cv_s, dv_n, dw_n, rt_1, rt_b, rt_20, rt_21, okb_0, okb_1, okb_b, nar_0, nar_1, nar_b, i_0, i_1, j_0, j_1, i_lit, j_lit, i_n, iI_add, iI_sub, iI_mul, iI_neg, jI_add, jI_sub, jI_mul, jI_neg, sh_1, an_1, xo_1, di_p, dj_p, i_64A, i_64, j_32, lq_ge, lq_lt, lq_le, lq_gt, lq_eq, i_lt, i_le, i_eq, j_eq, iI_A, jI_J, iI_b, iI_v, jI_v, ↓reduceIte, ite_true, ite_false, Int.reduceEq, Int.reduceLT, Int.reduceLE, Int.reduceAdd, Int.reduceSub, Int.reduceMul, Int.reduceNeg, not_true_eq_false, not_false_eq_true, hb, u, hh, dg, u2]
          rw [nmv_n q]
        · rw [A_Wo (by omega) (by omega) (by omega), nmp_n q]; exact hp
        · rw [A_Ws (by omega) (by omega), if_neg (fun h => i0 h.1)]
/-- a number, after no fault -/
theorem m_number (hF : F = am_F T0 g) (hg : GG g) (ht : Tp x n) (hm : Mt x n N) {p : Int} (hp : A N 219 75 = p) (p0 : 0 ≤ p) (p1 : p ≤ n) (hb : A N 219 92 = 0) : ∃ N' : am_M, F 126 0 [.ref 219] [] N = some (some (.int (iI (nmv x 4 p 0))), N') ∧ Ch [] [(219, 75), (219, 92)] N N' ∧ A N' 219 75 = nmp x 4 p ∧ A N' 219 92 = (if 48 ≤ x p ∧ x p ≤ 57 then 0 else 1) := by
  obtain ⟨N', q1, q2, q3, q4⟩ := m_number_l hF hg ht 4 0 p 0 N (by omega) hm hp p0 p1 hb (by omega) (by omega)
  refine ⟨N', s_Model_number hF hg q1, q2, q3, ?_⟩
  rw [q4]
  by_cases q : 48 ≤ x p ∧ x p ≤ 57
  · rw [if_pos q, if_neg (fun h => h.2 q)]
  · rw [if_neg q, if_pos ⟨rfl, q⟩]
/-- after a fault -/
theorem m_number1 (hF : F = am_F T0 g) (hg : GG g) (hb : A N 219 92 = 1) : ∃ N' : am_M, F 126 0 [.ref 219] [] N = some (some (.int (iI 0)), N') ∧ Ch [] [(219, 75), (219, 92)] N N' ∧ A N' 219 75 = A N 219 75 ∧ A N' 219 92 = 1 := by
  refine ⟨W_ N 219 92 1, ?_, Ch.refl.wm (Or.inr (by decide)), by rw [A_Wo (by omega) (by omega) (by omega)], A_Ws (by omega) (by omega)⟩
  refine s_Model_number hF hg ?_
  refine s_Model_number_4 hF hg ?_
  simp (config := { maxSteps := 1000000 }) (disch := (first | omega | decide | assumption)) only [ltm_s, ok_n, rd_i, rd_j, fd_i, fd_j, wr_i, wr_j, fw_i, fw_j, ci_s, cj_s, cv_s, dv_n, dw_n, rt_1, rt_b, rt_20, rt_21, okb_0, okb_1, okb_b, nar_0, nar_1, nar_b, i_0, i_1, j_0, j_1, i_lit, j_lit, i_n, iI_add, iI_sub, iI_mul, iI_neg, jI_add, jI_sub, jI_mul, jI_neg, sh_1, an_1, xo_1, di_p, dj_p, i_64A, i_64, j_32, lq_ge, lq_lt, lq_le, lq_gt, lq_eq, i_lt, i_le, i_eq, j_eq, iI_A, jI_J, iI_b, iI_v, jI_v, ↓reduceIte, ite_true, ite_false, Int.reduceEq, Int.reduceLT, Int.reduceLE, Int.reduceAdd, Int.reduceSub, Int.reduceMul, Int.reduceNeg, not_true_eq_false, not_false_eq_true, hb]
end Tq
