/-! THE TESTS of a rule, by both -/
section Rl
variable {M N N' : am_M} {g : am_G} {F : am_FT} {x : Int → Int} {n : Int} {a : Nat}
theorem ch4r (c : Ch [a, a + 1, a + 2, a + 3] [(61, 2)] N N') {z : Nat} {j : Int} (h : ¬ (z = 61 ∧ j.toNat = 2)) (hz : z < a ∨ a + 3 < z) : A N' z j = A N z j :=
  congrArg Int32.toInt (c z j.toNat (by simp only [List.mem_cons, List.not_mem_nil, or_false]; omega) (by simp only [List.mem_singleton, Prod.mk.injEq]; exact h)).1
theorem Ct.ch4 (h : Ct x n N) (a0 : 112 ≤ a) (c : Ch [a, a + 1, a + 2, a + 3] [(61, 2)] N N') : Ct x n N' := by
  refine ⟨(ch4r c (fun h => absurd h.2 (by decide)) (by omega)).trans h.1, fun p p0 p1 => (ch4r c (fun h => absurd h.1 (by decide)) (by omega)).trans (h.2 p p0 p1)⟩
theorem rl_l (hF : F = am_F T0 g) (hg : GG g) (ht : Tp x n) (ha : isRu g a) (a0 : 112 ≤ a) (a1 : a + 3 < 137) {r : Int} (r0 : 0 ≤ r) (r6 : r < 6) : ∀ (mm i : Nat) (p : Int), i + mm = 3 → 1 ≤ mm → 0 ≤ p → p ≤ n → ∃ (ok q m : Int) (tf ts tv : Int → Int), (ok = 0 ∨ ok = 1) ∧ (0 ≤ q ∧ q ≤ n) ∧ ((i : Int) ≤ m ∧ m ≤ 3) ∧ (ok = 1 → ∀ j : Int, (i : Int) ≤ j → j < m → (0 ≤ tf j ∧ tf j ≤ 5) ∧ (0 ≤ ts j ∧ ts j ≤ 2) ∧ 0 ≤ tv j ∧ tv j ≤ 9999) ∧
    (∀ N : am_M, Ct x n N → A N 61 2 = p → A N a 1 = i → ∃ N' : am_M, F 273 69 [.ref a, .ref 61, .int (iI (i : Int))] [] N = some (some (.int (iI (if ok = 1 then -1 else q))), N') ∧ Ch [a, a + 1, a + 2, a + 3] [(61, 2)] N N' ∧ A N' a 0 = A N a 0 ∧ (ok = 1 → A N' a 1 = m) ∧ (∀ j : Int, 0 ≤ j → j < (i : Int) → A N' (a + 1) j = A N (a + 1) j ∧ A N' (a + 2) j = A N (a + 2) j ∧ A N' (a + 3) j = A N (a + 3) j) ∧ (ok = 1 → ∀ j : Int, (i : Int) ≤ j → j < m → A N' (a + 1) j = tf j ∧ A N' (a + 2) j = sgs (ts j) ∧ A N' (a + 3) j = tv j)) ∧
    (∀ (N : am_M) (t : Int), Mt x n N → A N 219 75 = p → A N 219 92 = 0 → A N 219 45 = r → ∃ N' : am_M, (∀ R : am_R, F 235 102 [.ref 219, .int (iI t), .int (iI m), .int (iI 0)] [] N' = some R → F 235 102 [.ref 219, .int (iI t), .int (iI (i : Int)), .int (iI 1)] [] N = some R) ∧ Ch [255] [(219, 75), (219, 92)] N N' ∧ A N' 219 75 = q ∧ A N' 219 92 = 1 - ok ∧ (∀ z : Int, 0 ≤ z → z < 3 * r + i → A N' 255 z = A N 255 z) ∧ (ok = 1 → ∀ j : Int, (i : Int) ≤ j → j < m → A N' 255 (3 * r + j) = 100000 * tf j + 10000 * ts j + tv j)) := by
  have hn := ht.1
  have m11 : tx 11 = [38] := rfl
  have n13 : a ≠ a + 1 ∧ a ≠ a + 2 ∧ a ≠ a + 3 := by omega
  intro mm
  induction mm with
  | zero => intro i p _ h; omega
  | succ mm ih =>
    intro i p hi _ p0 p1
    have hs : (i : Int) + 1 = ((i + 1 : Nat) : Int) := by omega
    have u3 : ¬ 3 ≤ (i : Int) := by omega
    obtain ⟨b, f, s, v, p', T⟩ := Tst.ex ht p0 p1
    have tr := T.r ht p0 p1
    -- the class, one test
    have cl : ∀ N : am_M, Ct x n N → A N 61 2 = p → A N a 1 = i → ∃ N1 N2 : am_M, F 269 0 [.ref a, .ref 61, .int (iI (i : Int))] [] N = some (some (.int (iI b)), N1) ∧ N2 = W_ N1 a 1 ((i : Int) + 1) ∧ A N1 a 1 = i ∧ A N1 61 2 = p' ∧ Ct x n N2 ∧ A N2 61 2 = p' ∧ Ch [a, a + 1, a + 2, a + 3] [(61, 2)] N N1 ∧ Ch [a, a + 1, a + 2, a + 3] [(61, 2)] N N2 ∧ A N1 a 0 = A N a 0 ∧ A N2 a 0 = A N a 0 ∧ A N2 a 1 = ((i + 1 : Nat) : Int) ∧ (∀ j : Int, 0 ≤ j → j < (i : Int) → A N1 (a + 1) j = A N (a + 1) j ∧ A N1 (a + 2) j = A N (a + 2) j ∧ A N1 (a + 3) j = A N (a + 3) j) ∧ (∀ j : Int, A N2 (a + 1) j = A N1 (a + 1) j ∧ A N2 (a + 2) j = A N1 (a + 2) j ∧ A N2 (a + 3) j = A N1 (a + 3) j) ∧ (b = 1 → A N1 (a + 1) i = f ∧ A N1 (a + 2) i = sgs s ∧ A N1 (a + 3) i = v) := fun N hc hp h1 => by
      obtain ⟨N1, w1, w2, w3, w4, w5⟩ := c_test hF hg ht ha a0 a1 hc hp p0 p1 (i := i) (by omega) (by omega) T
      have c1 : Ch [a, a + 1, a + 2, a + 3] [(61, 2)] N N1 := w2.sub (fun b hb => List.mem_cons_of_mem _ hb)
      have e1 : ∀ j : Int, A N1 a j = A N a j := fun j => congrArg Int32.toInt (w2 a j.toNat (by simp only [List.mem_cons, List.not_mem_nil, or_false]; omega) (by simp only [List.mem_singleton, Prod.mk.injEq]; omega)).1
      have cW : Ch [a, a + 1, a + 2, a + 3] [(61, 2)] N (W_ N1 a 1 ((i : Int) + 1)) := c1.wm (Or.inl (by simp only [List.mem_cons, true_or]))
      refine ⟨N1, _, w1, rfl, by rw [e1, h1], w3, hc.ch4 a0 cW, by rw [A_Wn (by omega)]; exact w3, c1, cW, e1 0, by rw [A_Wo (by omega) (by omega) (by omega)]; exact e1 0, by rw [A_Ws (by omega) (by omega), hs], fun j j0 j1 => w4 j j0 (by omega), fun j => ⟨by rw [A_Wn (by omega)], by rw [A_Wn (by omega)], by rw [A_Wn (by omega)]⟩, w5⟩
    -- the model, one test
    have ml : ∀ N : am_M, Mt x n N → A N 219 75 = p → A N 219 92 = 0 → A N 219 45 = r → ∃ (u : Int) (N1 N2 : am_M), F 226 0 [.ref 219] [] N = some (some (.int (iI u)), N1) ∧ N2 = W_ N1 255 (3 * r + i) u ∧ A N1 219 45 = r ∧ Mt x n N2 ∧ A N2 219 75 = p' ∧ A N2 219 92 = 1 - b ∧ A N2 219 36 = n ∧ A N2 219 45 = r ∧ Ch [255] [(219, 75), (219, 92)] N N2 ∧ (∀ z : Int, 0 ≤ z → z < 3 * r + i → A N2 255 z = A N 255 z) ∧ (b = 1 → A N2 255 (3 * r + i) = 100000 * f + 10000 * s + v) := fun N hm hp hb hr => by
      obtain ⟨u, N1, w1, w2, w3, w4, w5⟩ := m_test hF hg ht hm hp p0 p1 hb T
      have c2 : Ch [255] [(219, 75), (219, 92)] N (W_ N1 255 (3 * r + i) u) := (w2.mono rfl).wm (Or.inl (by decide))
      have e45 : A N1 219 45 = r := (w2.f (a := 219) (z := 45) rfl).trans hr
      refine ⟨u, N1, _, w1, rfl, e45, hm.ch c2, by rw [A_Wn (by decide)]; exact w3, by rw [A_Wn (by decide)]; exact w4, (hm.ch c2).1, by rw [A_Wn (by decide)]; exact e45, c2, fun z z0 z1 => by rw [A_Wo (by omega) z0 (by omega)]; exact w2.a rfl, fun hb => ?_⟩
      have e := w5 hb
      have rs := tr.2.2.2 hb
      rw [A_Ws (by omega) (by omega), e]
    rcases tr.1 with hb | hb
    · -- no test
      subst hb
      refine ⟨0, p', (i : Int) + 1, fun _ => 0, fun _ => 0, fun _ => 0, Or.inl rfl, tr.2.2.1, by omega, fun h => by omega, fun N hc hp h1 => ?_, fun N t hm hp hb hr => ?_⟩
      · obtain ⟨N1, N2, w1, w2, w3, w4, w5, w6, w7, w8, w9, w10, w11, w12, w13, w14⟩ := cl N hc hp h1
        refine ⟨N1, ?_, w7, w9, fun h => by omega, w12, fun h => by omega⟩
        rw [if_neg (by omega)]
        refine s_Rule_readFrom_69 hF hg ha ?_
        simp (config := { maxSteps := 1000000 }) (disch := (first | omega | decide | assumption)) only [ltm_s, ok_n, rd_i, rd_j, fd_i, fd_j, wr_i, wr_j, fw_i, fw_j, ci_s, cj_s, cv_s, dv_n, dw_n, rt_1, rt_b, rt_20, rt_21, okb_0, okb_1, okb_b, nar_0, nar_1, nar_b, i_0, i_1, j_0, j_1, i_lit, j_lit, i_n, iI_add, iI_sub, iI_mul, iI_neg, jI_add, jI_sub, jI_mul, jI_neg, sh_1, an_1, xo_1, di_p, dj_p, i_64A, i_64, j_32, lq_ge, lq_lt, lq_le, lq_gt, lq_eq, i_lt, i_le, i_eq, j_eq, iI_A, jI_J, iI_b, iI_v, jI_v, ↓reduceIte, ite_true, ite_false, Int.reduceEq, Int.reduceLT, Int.reduceLE, Int.reduceAdd, Int.reduceSub, Int.reduceMul, Int.reduceNeg, not_true_eq_false, not_false_eq_true, u3, w1, w4]
      · obtain ⟨u, N1, N2, z1, z2, z3, z4, z5, z6, z7, z8, z9, z10, z11⟩ := ml N hm hp hb hr
        have z6' : A N2 219 92 = 1 := z6
        refine ⟨N2, fun R hR => ?_, z9, z5, z6, z10, fun h => by omega⟩
        refine s_Model_rule_102 hF hg ?_
        simp (config := { maxSteps := 1000000 }) (disch := (first | omega | decide | assumption)) only [ltm_s, ok_n, rd_i, rd_j, fd_i, fd_j, wr_i, wr_j, fw_i, fw_j, ci_s, cj_s, cv_s, dv_n, dw_n, rt_1, rt_b, rt_20, rt_21, okb_0, okb_1, okb_b, nar_0, nar_1, nar_b, i_0, i_1, j_0, j_1, i_lit, j_lit, i_n, iI_add, iI_sub, iI_mul, iI_neg, jI_add, jI_sub, jI_mul, jI_neg, sh_1, an_1, xo_1, di_p, dj_p, i_64A, i_64, j_32, lq_ge, lq_lt, lq_le, lq_gt, lq_eq, i_lt, i_le, i_eq, j_eq, iI_A, jI_J, iI_b, iI_v, jI_v, ↓reduceIte, ite_true, ite_false, Int.reduceEq, Int.reduceLT, Int.reduceLE, Int.reduceAdd, Int.reduceSub, Int.reduceMul, Int.reduceNeg, not_true_eq_false, not_false_eq_true, z1, hr, z2.symm, z6']
        exact hR
    · subst hb
      have z6' : ∀ N2 : am_M, A N2 219 92 = 1 - 1 → A N2 219 92 = 0 := fun _ h => h
      have trr := tr.2.2.2 rfl
      by_cases qe : n ≤ p'
      · -- the end
        refine ⟨1, p', (i : Int) + 1, fun _ => f, fun _ => s, fun _ => v, Or.inr rfl, tr.2.2.1, by omega, fun _ j j0 j1 => ⟨tr.2.1, trr.1, trr.2⟩, fun N hc hp h1 => ?_, fun N t hm hp hb hr => ?_⟩
        · obtain ⟨N1, N2, w1, w2, w3, w4, w5, w6, w7, w8, w9, w10, w11, w12, w13, w14⟩ := cl N hc hp h1
          have ae := c_isAtEnd hF hg ht w5 w6
          rw [bI_t qe] at ae
          refine ⟨N2, ?_, w8, w10, fun _ => by rw [w11, hs], fun j j0 j1 => ?_, fun _ j j0 j1 => ?_⟩
          · rw [if_pos rfl]
            refine s_Rule_readFrom_69 hF hg ha ?_
            simp (config := { maxSteps := 1000000 }) (disch := (first | omega | decide | assumption)) only [ltm_s, ok_n, rd_i, rd_j, fd_i, fd_j, wr_i, wr_j, fw_i, fw_j, ci_s, cj_s, cv_s, dv_n, dw_n, rt_1, rt_b, rt_20, rt_21, okb_0, okb_1, okb_b, nar_0, nar_1, nar_b, i_0, i_1, j_0, j_1, i_lit, j_lit, i_n, iI_add, iI_sub, iI_mul, iI_neg, jI_add, jI_sub, jI_mul, jI_neg, sh_1, an_1, xo_1, di_p, dj_p, i_64A, i_64, j_32, lq_ge, lq_lt, lq_le, lq_gt, lq_eq, i_lt, i_le, i_eq, j_eq, iI_A, jI_J, iI_b, iI_v, jI_v, ↓reduceIte, ite_true, ite_false, Int.reduceEq, Int.reduceLT, Int.reduceLE, Int.reduceAdd, Int.reduceSub, Int.reduceMul, Int.reduceNeg, not_true_eq_false, not_false_eq_true, u3, w1, w3, w2.symm, ae]
          · have e := w13 j
            rw [e.1, e.2.1, e.2.2]; exact w12 j j0 j1
          · have e := w13 j
            have ej : j = i := by omega
            rw [e.1, e.2.1, e.2.2, ej]; exact w14 rfl
        · obtain ⟨u, N1, N2, z1, z2, z3, z4, z5, z6, z7, z8, z9, z10, z11⟩ := ml N hm hp hb hr
          have z6 := z6' _ z6
          refine ⟨N2, fun R hR => ?_, z9, z5, z6, z10, fun _ j j0 j1 => ?_⟩
          · refine s_Model_rule_102 hF hg ?_
            simp (config := { maxSteps := 1000000 }) (disch := (first | omega | decide | assumption)) only [ltm_s, ok_n, rd_i, rd_j, fd_i, fd_j, wr_i, wr_j, fw_i, fw_j, ci_s, cj_s, cv_s, dv_n, dw_n, rt_1, rt_b, rt_20, rt_21, okb_0, okb_1, okb_b, nar_0, nar_1, nar_b, i_0, i_1, j_0, j_1, i_lit, j_lit, i_n, iI_add, iI_sub, iI_mul, iI_neg, jI_add, jI_sub, jI_mul, jI_neg, sh_1, an_1, xo_1, di_p, dj_p, i_64A, i_64, j_32, lq_ge, lq_lt, lq_le, lq_gt, lq_eq, i_lt, i_le, i_eq, j_eq, iI_A, jI_J, iI_b, iI_v, jI_v, ↓reduceIte, ite_true, ite_false, Int.reduceEq, Int.reduceLT, Int.reduceLE, Int.reduceAdd, Int.reduceSub, Int.reduceMul, Int.reduceNeg, not_true_eq_false, not_false_eq_true, z1, hr, z2.symm, z6, z7, z5, qe]
            exact hR
          · have ej : j = i := by omega
            rw [ej]; exact z11 rfl
      · by_cases q3 : mm = 0
        · -- three tests, and something behind them
          have i2 : (i : Int) = 2 := by omega
          refine ⟨0, p', 3, fun _ => 0, fun _ => 0, fun _ => 0, Or.inl rfl, tr.2.2.1, by omega, fun h => by omega, fun N hc hp h1 => ?_, fun N t hm hp hb hr => ?_⟩
          · obtain ⟨N1, N2, w1, w2, w3, w4, w5, w6, w7, w8, w9, w10, w11, w12, w13, w14⟩ := cl N hc hp h1
            have ae := c_isAtEnd hF hg ht w5 w6
            rw [bI_f qe] at ae
            refine ⟨N2, ?_, w8, w10, fun h => by omega, fun j j0 j1 => ?_, fun h => by omega⟩
            · rw [if_neg (by omega)]
              have w11' : A N2 a 1 = 3 := by omega
              have e33 : (3 : Int) ≤ 3 := by omega
              have last : F 273 69 [.ref a, .ref 61, .int (iI 3)] [] N2 = some (some (.int (iI p')), N2) := by
                refine s_Rule_readFrom_69 hF hg ha ?_
                simp (config := { maxSteps := 1000000 }) (disch := (first | omega | decide | assumption)) only [ltm_s, ok_n, rd_i, rd_j, fd_i, fd_j, wr_i, wr_j, fw_i, fw_j, ci_s, cj_s, cv_s, dv_n, dw_n, rt_1, rt_b, rt_20, rt_21, okb_0, okb_1, okb_b, nar_0, nar_1, nar_b, i_0, i_1, j_0, j_1, i_lit, j_lit, i_n, iI_add, iI_sub, iI_mul, iI_neg, jI_add, jI_sub, jI_mul, jI_neg, sh_1, an_1, xo_1, di_p, dj_p, i_64A, i_64, j_32, lq_ge, lq_lt, lq_le, lq_gt, lq_eq, i_lt, i_le, i_eq, j_eq, iI_A, jI_J, iI_b, iI_v, jI_v, ↓reduceIte, ite_true, ite_false, Int.reduceEq, Int.reduceLT, Int.reduceLE, Int.reduceAdd, Int.reduceSub, Int.reduceMul, Int.reduceNeg, not_true_eq_false, not_false_eq_true, e33, w6]
              refine s_Rule_readFrom_69 hF hg ha ?_
              have w2' : W_ N1 a 1 3 = N2 := by rw [w2, i2]; rfl
              rw [i2] at w1 w3 u3 ⊢
              simp (config := { maxSteps := 1000000 }) (disch := (first | omega | decide | assumption)) only [ltm_s, ok_n, rd_i, rd_j, fd_i, fd_j, wr_i, wr_j, fw_i, fw_j, ci_s, cj_s, cv_s, dv_n, dw_n, rt_1, rt_b, rt_20, rt_21, okb_0, okb_1, okb_b, nar_0, nar_1, nar_b, i_0, i_1, j_0, j_1, i_lit, j_lit, i_n, iI_add, iI_sub, iI_mul, iI_neg, jI_add, jI_sub, jI_mul, jI_neg, sh_1, an_1, xo_1, di_p, dj_p, i_64A, i_64, j_32, lq_ge, lq_lt, lq_le, lq_gt, lq_eq, i_lt, i_le, i_eq, j_eq, iI_A, jI_J, iI_b, iI_v, jI_v, ↓reduceIte, ite_true, ite_false, Int.reduceEq, Int.reduceLT, Int.reduceLE, Int.reduceAdd, Int.reduceSub, Int.reduceMul, Int.reduceNeg, not_true_eq_false, not_false_eq_true, u3, w1, w3, w2', ae, w11', e33, last]
            · have e := w13 j
              rw [e.1, e.2.1, e.2.2]; exact w12 j j0 j1
          · obtain ⟨u, N1, N2, z1, z2, z3, z4, z5, z6, z7, z8, z9, z10, z11⟩ := ml N hm hp hb hr
            have z6 := z6' _ z6
            obtain ⟨N3, e3⟩ : ∃ y : am_M, y = W_ N2 219 92 1 := ⟨_, rfl⟩
            refine ⟨N3, fun R hR => ?_, ?_, ?_, ?_, fun z z0 z1 => ?_, fun h => by omega⟩
            · refine s_Model_rule_102 hF hg ?_
              rw [i2] at z2 ⊢
              simp (config := { maxSteps := 1000000 }) (disch := (first | omega | decide | assumption)) only [ltm_s, ok_n, rd_i, rd_j, fd_i, fd_j, wr_i, wr_j, fw_i, fw_j, ci_s, cj_s, cv_s, dv_n, dw_n, rt_1, rt_b, rt_20, rt_21, okb_0, okb_1, okb_b, nar_0, nar_1, nar_b, i_0, i_1, j_0, j_1, i_lit, j_lit, i_n, iI_add, iI_sub, iI_mul, iI_neg, jI_add, jI_sub, jI_mul, jI_neg, sh_1, an_1, xo_1, di_p, dj_p, i_64A, i_64, j_32, lq_ge, lq_lt, lq_le, lq_gt, lq_eq, i_lt, i_le, i_eq, j_eq, iI_A, jI_J, iI_b, iI_v, jI_v, ↓reduceIte, ite_true, ite_false, Int.reduceEq, Int.reduceLT, Int.reduceLE, Int.reduceAdd, Int.reduceSub, Int.reduceMul, Int.reduceNeg, not_true_eq_false, not_false_eq_true, z1, hr, z2.symm, z6, z7, z5, qe, e3.symm]
              exact hR
            · rw [e3]; exact z9.wm (Or.inr (by decide))
            · rw [e3, A_Wo (by omega) (by omega) (by omega)]; exact z5
            · rw [e3, A_Ws (by omega) (by omega)]; rfl
            · rw [e3, A_Wn (by decide)]; exact z10 z z0 z1
        · have i3 : ¬ (i : Int) + 1 = 3 := by omega
          have i3' : ¬ 3 ≤ (i : Int) + 1 := by omega
          by_cases qc : x p' = 38
          · -- and a further one
            have hp1 : p' < n := by omega
            obtain ⟨ok, q, m, tf, ts, tv, o1, o2, o3, o4, o5, o6⟩ := ih (i + 1) (p' + 1) (by omega) (by omega) (by omega) (by omega)
            refine ⟨ok, q, m, fun j => if j = i then f else tf j, fun j => if j = i then s else ts j, fun j => if j = i then v else tv j, o1, o2, by omega, fun hk j j0 j1 => ?_, fun N hc hp h1 => ?_, fun N t hm hp hb hr => ?_⟩
            · dsimp only
              by_cases ej : j = i
              · rw [if_pos ej, if_pos ej, if_pos ej]; exact ⟨tr.2.1, trr.1, trr.2⟩
              · rw [if_neg ej, if_neg ej, if_neg ej]; exact o4 hk j (by omega) j1
            · obtain ⟨N1, N2, w1, w2, w3, w4, w5, w6, w7, w8, w9, w10, w11, w12, w13, w14⟩ := cl N hc hp h1
              have ae := c_isAtEnd hF hg ht w5 w6
              rw [bI_f qe] at ae
              obtain ⟨N3, t1, t2, t3⟩ := c_text hF hg ht (k := 11) (by decide) w5 w6 tr.2.2.1.1 tr.2.2.1.2
              rw [m11, mtk_y qc] at t1
              rw [m11, mtp_y qc] at t3
              have em1 : mtk x [] (p' + 1) = 1 := rfl
              have em2 : mtp x [] (p' + 1) = p' + 1 := rfl
              rw [em1] at t1
              rw [em2] at t3
              have t2' : Ch [a, a + 1, a + 2, a + 3] [(61, 2)] N2 N3 := t2.sub (fun b hb => by cases hb)
              have rr : ∀ (z : Nat) (j : Int), z ≠ 61 → A N3 z j = A N2 z j := fun z j hz => congrArg Int32.toInt (t2 z j.toNat (by simp only [List.not_mem_nil, not_false_eq_true]) (by simp only [List.mem_singleton, Prod.mk.injEq]; exact fun h => hz h.1)).1
              obtain ⟨N', y1, y2, y3, y4, y5, y6⟩ := o5 N3 (w5.ch4 a0 t2') t3 (by rw [rr _ _ (by omega)]; exact w11)
              refine ⟨N', ?_, w8.trans (t2'.trans y2), by rw [y3, rr _ _ (by omega), w10], y4, fun j j0 j1 => ?_, fun hk j j0 j1 => ?_⟩
              · rw [← hs] at y1
                have w11' : A N2 a 1 = (i : Int) + 1 := by omega
                refine s_Rule_readFrom_69 hF hg ha ?_
                simp (config := { maxSteps := 1000000 }) (disch := (first | omega | decide | assumption)) only [ltm_s, ok_n, rd_i, rd_j, fd_i, fd_j, wr_i, wr_j, fw_i, fw_j, ci_s, cj_s, cv_s, dv_n, dw_n, rt_1, rt_b, rt_20, rt_21, okb_0, okb_1, okb_b, nar_0, nar_1, nar_b, i_0, i_1, j_0, j_1, i_lit, j_lit, i_n, iI_add, iI_sub, iI_mul, iI_neg, jI_add, jI_sub, jI_mul, jI_neg, sh_1, an_1, xo_1, di_p, dj_p, i_64A, i_64, j_32, lq_ge, lq_lt, lq_le, lq_gt, lq_eq, i_lt, i_le, i_eq, j_eq, iI_A, jI_J, iI_b, iI_v, jI_v, ↓reduceIte, ite_true, ite_false, Int.reduceEq, Int.reduceLT, Int.reduceLE, Int.reduceAdd, Int.reduceSub, Int.reduceMul, Int.reduceNeg, not_true_eq_false, not_false_eq_true, u3, w1, w3, w2.symm, ae, w11', i3', t1, y1]
              · have e := y5 j j0 (by omega)
                have e2 := w13 j
                rw [e.1, e.2.1, e.2.2, rr _ _ (by omega), rr _ _ (by omega), rr _ _ (by omega), e2.1, e2.2.1, e2.2.2]
                exact w12 j j0 j1
              · dsimp only
                by_cases ej : j = i
                · rw [if_pos ej, if_pos ej, if_pos ej, ej]
                  have e := y5 i (by omega) (by omega)
                  have e2 := w13 i
                  rw [e.1, e.2.1, e.2.2, rr _ _ (by omega), rr _ _ (by omega), rr _ _ (by omega), e2.1, e2.2.1, e2.2.2]
                  exact w14 rfl
                · rw [if_neg ej, if_neg ej, if_neg ej]; exact y6 hk j (by omega) j1
            · obtain ⟨u, N1, N2, z1, z2, z3, z4, z5, z6, z7, z8, z9, z10, z11⟩ := ml N hm hp hb hr
              have z6 := z6' _ z6
              obtain ⟨N3, t1, t2, t3, t4, -, -⟩ := m_eats hF hg ht z4 (c := 38) z5 tr.2.2.1.1 tr.2.2.1.2 z6 (Or.inl rfl) (by omega) (by omega)
              rw [etp_y ⟨rfl, qc⟩] at t3
              rw [etb_y ⟨rfl, qc⟩] at t4
              have em2 : etp x [] (p' + 1) 0 = p' + 1 := rfl
              have em3 : etb x [] (p' + 1) 0 = 0 := rfl
              rw [em2] at t3
              rw [em3] at t4
              obtain ⟨N', y1, y2, y3, y4, y5, y6⟩ := o6 N3 t (z4.c2 t2) t3 t4 ((t2.f (a := 219) (z := 45) rfl).trans z8)
              refine ⟨N', fun R hR => ?_, z9.trans ((t2.mono rfl).trans y2), y3, y4, fun z z0 z1 => ?_, fun hk j j0 j1 => ?_⟩
              · have y := y1 R hR
                rw [← hs] at y
                refine s_Model_rule_102 hF hg ?_
                simp (config := { maxSteps := 1000000 }) (disch := (first | omega | decide | assumption)) only [ltm_s, ok_n, rd_i, rd_j, fd_i, fd_j, wr_i, wr_j, fw_i, fw_j, ci_s, cj_s, cv_s, dv_n, dw_n, rt_1, rt_b, rt_20, rt_21, okb_0, okb_1, okb_b, nar_0, nar_1, nar_b, i_0, i_1, j_0, j_1, i_lit, j_lit, i_n, iI_add, iI_sub, iI_mul, iI_neg, jI_add, jI_sub, jI_mul, jI_neg, sh_1, an_1, xo_1, di_p, dj_p, i_64A, i_64, j_32, lq_ge, lq_lt, lq_le, lq_gt, lq_eq, i_lt, i_le, i_eq, j_eq, iI_A, jI_J, iI_b, iI_v, jI_v, ↓reduceIte, ite_true, ite_false, Int.reduceEq, Int.reduceLT, Int.reduceLE, Int.reduceAdd, Int.reduceSub, Int.reduceMul, Int.reduceNeg, not_true_eq_false, not_false_eq_true, z1, hr, z2.symm, z6, z7, z5, qe, i3, t1, t4, y]
              · rw [y5 z z0 (by omega), t2.a (a := 255) rfl]; exact z10 z z0 z1
              · dsimp only
                by_cases ej : j = i
                · rw [if_pos ej, if_pos ej, if_pos ej, ej, y5 _ (by omega) (by omega), t2.a (a := 255) rfl]
                  exact z11 rfl
                · rw [if_neg ej, if_neg ej, if_neg ej]; exact y6 hk j (by omega) j1
          · -- something else
            refine ⟨0, p', (i : Int) + 1, fun _ => 0, fun _ => 0, fun _ => 0, Or.inl rfl, tr.2.2.1, by omega, fun h => by omega, fun N hc hp h1 => ?_, fun N t hm hp hb hr => ?_⟩
            · obtain ⟨N1, N2, w1, w2, w3, w4, w5, w6, w7, w8, w9, w10, w11, w12, w13, w14⟩ := cl N hc hp h1
              have ae := c_isAtEnd hF hg ht w5 w6
              rw [bI_f qe] at ae
              obtain ⟨N3, t1, t2, t3⟩ := c_text hF hg ht (k := 11) (by decide) w5 w6 tr.2.2.1.1 tr.2.2.1.2
              rw [m11, mtk_n qc] at t1
              rw [m11, mtp_n qc] at t3
              have t2' : Ch [a, a + 1, a + 2, a + 3] [(61, 2)] N2 N3 := t2.sub (fun b hb => by cases hb)
              have rr : ∀ (z : Nat) (j : Int), z ≠ 61 → A N3 z j = A N2 z j := fun z j hz => congrArg Int32.toInt (t2 z j.toNat (by simp only [List.not_mem_nil, not_false_eq_true]) (by simp only [List.mem_singleton, Prod.mk.injEq]; exact fun h => hz h.1)).1
              refine ⟨N3, ?_, w8.trans t2', by rw [rr _ _ (by omega), w10], fun h => by omega, fun j j0 j1 => ?_, fun h => by omega⟩
              · rw [if_neg (by omega)]
                have w11' : A N2 a 1 = (i : Int) + 1 := by omega
                refine s_Rule_readFrom_69 hF hg ha ?_
                simp (config := { maxSteps := 1000000 }) (disch := (first | omega | decide | assumption)) only [ltm_s, ok_n, rd_i, rd_j, fd_i, fd_j, wr_i, wr_j, fw_i, fw_j, ci_s, cj_s, cv_s, dv_n, dw_n, rt_1, rt_b, rt_20, rt_21, okb_0, okb_1, okb_b, nar_0, nar_1, nar_b, i_0, i_1, j_0, j_1, i_lit, j_lit, i_n, iI_add, iI_sub, iI_mul, iI_neg, jI_add, jI_sub, jI_mul, jI_neg, sh_1, an_1, xo_1, di_p, dj_p, i_64A, i_64, j_32, lq_ge, lq_lt, lq_le, lq_gt, lq_eq, i_lt, i_le, i_eq, j_eq, iI_A, jI_J, iI_b, iI_v, jI_v, ↓reduceIte, ite_true, ite_false, Int.reduceEq, Int.reduceLT, Int.reduceLE, Int.reduceAdd, Int.reduceSub, Int.reduceMul, Int.reduceNeg, not_true_eq_false, not_false_eq_true, u3, w1, w3, w2.symm, ae, w11', i3', t1, t3]
              · have e2 := w13 j
                rw [rr _ _ (by omega), rr _ _ (by omega), rr _ _ (by omega), e2.1, e2.2.1, e2.2.2]
                exact w12 j j0 j1
            · obtain ⟨u, N1, N2, z1, z2, z3, z4, z5, z6, z7, z8, z9, z10, z11⟩ := ml N hm hp hb hr
              have z6 := z6' _ z6
              obtain ⟨N3, t1, t2, t3, t4, -, -⟩ := m_eats hF hg ht z4 (c := 38) z5 tr.2.2.1.1 tr.2.2.1.2 z6 (Or.inl rfl) (by omega) (by omega)
              have nq : ¬ ((0 : Int) = 0 ∧ x p' = 38) := fun h => qc h.2
              rw [etp_n nq] at t3
              rw [etb_n nq] at t4
              have em2 : etp x [] p' 1 = p' := rfl
              have em3 : etb x [] p' 1 = 1 := rfl
              rw [em2] at t3
              rw [em3] at t4
              refine ⟨N3, fun R hR => ?_, z9.trans (t2.mono rfl), t3, by rw [t4]; rfl, fun z z0 z1 => ?_, fun h => by omega⟩
              · refine s_Model_rule_102 hF hg ?_
                simp (config := { maxSteps := 1000000 }) (disch := (first | omega | decide | assumption)) only [ltm_s, ok_n, rd_i, rd_j, fd_i, fd_j, wr_i, wr_j, fw_i, fw_j, ci_s, cj_s, cv_s, dv_n, dw_n, rt_1, rt_b, rt_20, rt_21, okb_0, okb_1, okb_b, nar_0, nar_1, nar_b, i_0, i_1, j_0, j_1, i_lit, j_lit, i_n, iI_add, iI_sub, iI_mul, iI_neg, jI_add, jI_sub, jI_mul, jI_neg, sh_1, an_1, xo_1, di_p, dj_p, i_64A, i_64, j_32, lq_ge, lq_lt, lq_le, lq_gt, lq_eq, i_lt, i_le, i_eq, j_eq, iI_A, jI_J, iI_b, iI_v, jI_v, ↓reduceIte, ite_true, ite_false, Int.reduceEq, Int.reduceLT, Int.reduceLE, Int.reduceAdd, Int.reduceSub, Int.reduceMul, Int.reduceNeg, not_true_eq_false, not_false_eq_true, z1, hr, z2.symm, z6, z7, z5, qe, i3, t1, t4]
                exact hR
              · rw [t2.a (a := 255) rfl]; exact z10 z z0 z1
end Rl
