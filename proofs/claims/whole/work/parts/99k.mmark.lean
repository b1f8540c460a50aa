/-! THE MARK of an exam, the model's side -/
section Mm
variable {M0 M N M' : am_M} {g : am_G} {F : am_FT}
theorem ok_in {β : Type} {n : Nat} {x : Int32} {z : Int} {B : Option β} {R : Option β} (hx : x = iI z) (h0 : 0 ≤ z) (h1 : z < n) (h2 : z < 2147483648) (h : B = R) : am_ok n x B = R := by
  rw [hx, ok_n h0 h1 h2]; exact h
/-- the last facts are written -/
theorem m_168 (hF : F = am_F T0 g) (hg : GG g) {k L ft_ day v : Int} (k0 : 0 ≤ k) (k1 : k < 24) (L0 : 0 ≤ L ∧ L ≤ 80) (j8 : J N 258 k = ft_) (t1 : L = 0 → ft_ = -1) (t2 : 0 < L → 0 ≤ ft_) (d0 : 0 ≤ day ∧ day < 300) {R : am_R} (h : F 266 222 [.ref 219, .int (iI k), .int (iI 100), .int (iI 0)] [] (X_ (X_ (X_ (X_ N 276 2 v) 276 3 (if L - 1 < 0 then 0 else L - 1)) 276 4 (if ft_ < 0 then 0 else ft_)) 276 5 day) = some R) : F 266 168 [.ref 219, .int (iI k), .int (iI L), .int (iI day)] [.long (jI v), .int (iI 2), .ref 276] N = some R := by
  refine s_Model_marks_168 hF hg ?_
  by_cases q : L ≤ 0
  · have e1 : (if L - 1 < 0 then 0 else L - 1) = 0 := by rw [if_pos (by omega)]
    have e2 : (if ft_ < 0 then 0 else ft_) = 0 := by rw [if_pos (by have := t1 (by omega); omega)]
    rw [e1, e2] at h
    simp (config := { maxSteps := 1000000 }) (disch := (first | omega | decide | assumption)) only [ltm_s, ok_n, rd_i, rd_j, fd_i, fd_j, wr_i, wr_j, fw_i, fw_j, ci_s, cj_s, cv_s, dv_n, dw_n, rt_1, rt_b, rt_20, rt_21, okb_0, okb_1, okb_b, nar_0, nar_1, nar_b, i_0, i_1, j_0, j_1, i_lit, j_lit, i_n, iI_add, iI_sub, iI_mul, iI_neg, jI_add, jI_sub, jI_mul, jI_neg, sh_1, an_1, xo_1, di_p, dj_p, i_64A, i_64, j_32, lq_ge, lq_lt, lq_le, lq_gt, lq_eq, i_lt, i_le, i_eq, j_eq, iI_A, jI_J, iI_b, iI_v, jI_v, ↓reduceIte, ite_true, ite_false, Int.reduceEq, Int.reduceLT, Int.reduceLE, Int.reduceAdd, Int.reduceSub, Int.reduceMul, Int.reduceNeg, not_true_eq_false, not_false_eq_true, q]
    exact h
  · have e1 : (if L - 1 < 0 then 0 else L - 1) = L - 1 := by rw [if_neg (by omega)]
    have e2 : (if ft_ < 0 then 0 else ft_) = ft_ := by rw [if_neg (by have := t2 (by omega); omega)]
    rw [e1, e2] at h
    have j8' : ∀ x y z w, J (X_ (X_ N 276 x y) 276 z w) 258 k = ft_ := fun x y z w => by rw [J_Xn (by decide), J_Xn (by decide)]; exact j8
    simp (config := { maxSteps := 1000000 }) (disch := (first | omega | decide | assumption)) only [ltm_s, ok_n, rd_i, rd_j, fd_i, fd_j, wr_i, wr_j, fw_i, fw_j, ci_s, cj_s, cv_s, dv_n, dw_n, rt_1, rt_b, rt_20, rt_21, okb_0, okb_1, okb_b, nar_0, nar_1, nar_b, i_0, i_1, j_0, j_1, i_lit, j_lit, i_n, iI_add, iI_sub, iI_mul, iI_neg, jI_add, jI_sub, jI_mul, jI_neg, sh_1, an_1, xo_1, di_p, dj_p, i_64A, i_64, j_32, lq_ge, lq_lt, lq_le, lq_gt, lq_eq, i_lt, i_le, i_eq, j_eq, iI_A, jI_J, iI_b, iI_v, jI_v, ↓reduceIte, ite_true, ite_false, Int.reduceEq, Int.reduceLT, Int.reduceLE, Int.reduceAdd, Int.reduceSub, Int.reduceMul, Int.reduceNeg, not_true_eq_false, not_false_eq_true, q, j8']
    exact h
theorem m_marks (hF : F = am_F T0 g) (hg : GG g) (hA : Ag M0 N) (h1 : I1 M0) (h2 : I2 M0) (h3 : I3 M0) (h4 : I4 M0) (h6 : I6 M0) (h7 : I7 M0) (h8 : I8 M0) (h9 : I9 M0) (h16 : I16 M0) (hp : 0 ≤ A M0 219 41) {k a b day hour L ft_ Ls fs tw : Int} {leg C lg : Int → Int} (k0 : 0 ≤ k) (k1 : k < 24) (a0 : 0 ≤ a) (a1 : a < nD M0) (b0 : 0 ≤ b) (b1 : b < nD M0) (d0 : 0 ≤ day) (d1 : day < 300) (u0 : 0 ≤ hour) (u1 : hour < 24) (L0 : 0 ≤ L ∧ L ≤ 80) (t0 : -1 ≤ ft_ ∧ ft_ ≤ 4000000) (t1 : L = 0 → ft_ = -1) (t2 : 0 < L → 0 ≤ ft_)
    (x1 : A N 256 (8 * k + 1) = a) (x2 : A N 256 (8 * k + 2) = b) (x3 : A N 256 (8 * k + 3) = day) (x4 : A N 256 (8 * k + 4) = hour) (x6 : A N 256 (8 * k + 6) = L) (j8 : J N 258 k = ft_)
    (hleg : ∀ i : Int, 0 ≤ i → i < L → A N 257 (80 * k + i) = leg i ∧ 0 ≤ leg i ∧ leg i < 2 * nW M0) (hB : Bst M0 day hour a b Ls fs tw C lg) :
    ∃ N' : am_M, F 266 0 [.ref 219, .int (iI k)] [] N = some (none, N') ∧ Ke [219, 256, 262, 263, 264, 276] N N' ∧ (∀ z : Int, 71 ≤ z → A N' 219 z = A N 219 z) ∧ (∀ z : Int, 0 ≤ z → z < 56 → A N' 219 z = A N 219 z) ∧ (∀ z : Int, 0 ≤ z → ¬ z = 65 → ¬ z = 66 → J N' 219 z = J N 219 z) ∧ (∀ z : Int, 0 ≤ z → ¬ z = 8 * k + 5 → ¬ z = 8 * k + 7 → A N' 256 z = A N 256 z) ∧ A N' 256 (8 * k + 5) = mkx M0 (Vf L (bI (¬ good M0 day hour (toD M0) L leg)) (ovr L ft_ Ls fs) ft_ day) ∧ A N' 256 (8 * k + 7) = toD M0 := by
  have h81 := h8.1
  have hn := h2.1
  obtain ⟨bC, bR, bn, by_⟩ := hB
  have e14 : A N 219 14 = toD M0 := ag hA rfl
  -- set and searched
  have pp := m_asReal (M := N) hF hg (d := day) (h := hour) (k := toD M0) (b := 1)
  obtain ⟨N1, e1⟩ : ∃ y : am_M, y = W_ (W_ (W_ (W_ (W_ N 219 56 (-1)) 219 57 day) 219 58 hour) 219 59 (toD M0)) 219 60 1 := ⟨_, rfl⟩
  rw [← e1] at pp
  have K1 : Ke [219] N N1 := by
    rw [e1]; exact ((((Ke.refl.w (by simp)).w (by simp)).w (by simp)).w (by simp)).w (by simp)
  have A1 : Ag M0 N1 := by
    rw [e1]; exact ((((hA.w rfl).w rfl).w rfl).w rfl).w rfl
  have hs : mset (-1, day, hour, toD M0) N1 := by
    rw [e1]
    refine ⟨?_, fun _ => ⟨?_, ?_⟩, ?_⟩
    · rw [A_Wo (by omega) (by omega) (by omega), A_Wo (by omega) (by omega) (by omega), A_Wo (by omega) (by omega) (by omega), A_Wo (by omega) (by omega) (by omega), A_Ws (by omega) (by omega)]
    · rw [A_Wo (by omega) (by omega) (by omega), A_Wo (by omega) (by omega) (by omega), A_Wo (by omega) (by omega) (by omega), A_Ws (by omega) (by omega)]
    · rw [A_Wo (by omega) (by omega) (by omega), A_Ws (by omega) (by omega)]
    · rw [A_Wo (by omega) (by omega) (by omega), A_Wo (by omega) (by omega) (by omega), A_Ws (by omega) (by omega)]
  have hby : A N1 219 60 = 1 := by rw [e1, A_Ws (by omega) (by omega)]
  have o1 : ∀ z : Int, 0 ≤ z → z < 56 ∨ 61 ≤ z → A N1 219 z = A N 219 z := fun z z0 z1 => by
    rw [e1, A_Wo (by omega) z0 (by omega), A_Wo (by omega) z0 (by omega), A_Wo (by omega) z0 (by omega), A_Wo (by omega) z0 (by omega), A_Wo (by omega) z0 (by omega)]
  have hmk : mok M0 (-1, day, hour, toD M0) := ⟨⟨Int.le_refl _, by show (-1 : Int) < _; omega, by show (-1 : Int) < 4; omega⟩, fun _ => ⟨⟨d0, d1⟩, h81.1, by show toD M0 < 300; omega⟩, u0, u1⟩
  obtain ⟨N2, q1, q2, q3, q4, q5, q6, q7, q8⟩ := m_search hF hg A1 h1 h2 h3 h4 h6 h7 h8 h9 hmk (Or.inr rfl) a0 a1 b0 b1 bC hs hby
  obtain ⟨f1, f2, f3, f4⟩ := found_eq bR q4 bn by_ q5 q6
  have hL2 := rsp_len hn q4
  have fsr : -1 ≤ fs ∧ fs ≤ 4000000 := by
    by_cases q : bvl M0 (-1, day, hour, toD M0) 1 a b C = FARC
    · rw [(bn q).2]; omega
    · have := (by_ q).2.1; omega
  have fpos : 0 < Ls → 1 ≤ fs := fun hL => by
    by_cases q : bvl M0 (-1, day, hour, toD M0) 1 a b C = FARC
    · have := bR.1 q; omega
    · obtain ⟨r1, r2, r3⟩ := by_ q
      exact feet_pos h1 h2 h4 (md := (-1, day, hour, toD M0)) u0 u1 bC.1 a0 a1 b0 b1 q r1.2 r3
  have e64 : A N2 219 64 = Ls := f1.symm
  have e66 : J N2 219 66 = fs := f4.symm
  have n2 : ∀ c : Nat, 219 < c → c < 262 → (∀ z, A N2 c z = A N c z) ∧ ∀ z, J N2 c z = J N c z := fun c c0 c1 => ⟨fun z => by
    rw [q2.a (by simp only [List.mem_cons, List.not_mem_nil, or_false]; omega), K1.a (by simp only [List.mem_cons, List.not_mem_nil, or_false]; omega)], fun z => by
    rw [q2.j (by simp only [List.mem_cons, List.not_mem_nil, or_false]; omega), K1.j (by simp only [List.mem_cons, List.not_mem_nil, or_false]; omega)]⟩
  have g8 : J N2 258 k = ft_ := by rw [(n2 258 (by omega) (by omega)).2]; exact j8
  -- whether it was wrong
  have wrong : ∀ f0 : Int, F 224 0 [.ref 219, .int (iI k), .int (iI day), .int (iI hour), .int (iI (toD M0))] [] (X_ N2 276 0 f0) = some (some (.int (iI (bI (¬ good M0 day hour (toD M0) L leg)))), X_ N2 276 0 f0) := fun f0 => m_isWrong hF hg (q3.x rfl) h2 h6 h7 k0 k1 d0 d1 u0 u1 h81.1 (by omega) L0 (by rw [A_X, (n2 256 (by omega) (by omega)).1]; exact x6) (fun i i0 i1 => by rw [A_X, (n2 257 (by omega) (by omega)).1]; exact hleg i i0 i1)
  -- the rules
  have hor := ovr_r (L := L) (Ls := Ls) (fs := fs) t0.2
  have fin : ∀ w : Int, (0 ≤ w ∧ w ≤ 1) → ∀ N3 : am_M, N3 = X_ (X_ N2 276 0 (if 1 < L then 1 else L)) 276 1 w → ∃ N' : am_M, F 266 168 [.ref 219, .int (iI k), .int (iI L), .int (iI day)] [.long (jI (ovr L ft_ Ls fs)), .int (iI 2), .ref 276] N3 = some (none, N') ∧ Ke [219, 256, 262, 263, 264, 276] N N' ∧ (∀ z : Int, 71 ≤ z → A N' 219 z = A N 219 z) ∧ (∀ z : Int, 0 ≤ z → z < 56 → A N' 219 z = A N 219 z) ∧ (∀ z : Int, 0 ≤ z → ¬ z = 65 → ¬ z = 66 → J N' 219 z = J N 219 z) ∧ (∀ z : Int, 0 ≤ z → ¬ z = 8 * k + 5 → ¬ z = 8 * k + 7 → A N' 256 z = A N 256 z) ∧ A N' 256 (8 * k + 5) = mkx M0 (Vf L w (ovr L ft_ Ls fs) ft_ day) ∧ A N' 256 (8 * k + 7) = toD M0 := by
    intro w hw N3 e3
    obtain ⟨N4, e4⟩ : ∃ y : am_M, y = X_ (X_ (X_ (X_ N3 276 2 (ovr L ft_ Ls fs)) 276 3 (if L - 1 < 0 then 0 else L - 1)) 276 4 (if ft_ < 0 then 0 else ft_)) 276 5 day := ⟨_, rfl⟩
    have y0 : (-9223372036854775808 ≤ (if 1 < L then 1 else L) ∧ (if 1 < L then 1 else L) < 9223372036854775808) := by split <;> omega
    have y3 : (-9223372036854775808 ≤ (if L - 1 < 0 then 0 else L - 1) ∧ (if L - 1 < 0 then 0 else L - 1) < 9223372036854775808) := by split <;> omega
    have y4 : (-9223372036854775808 ≤ (if ft_ < 0 then 0 else ft_) ∧ (if ft_ < 0 then 0 else ft_) < 9223372036854775808) := by split <;> omega
    have a4 : ∀ c z, A N4 c z = A N2 c z := fun c z => by rw [e4, e3]; rfl
    have k4 : Ke [276] N2 N4 := by
      rw [e4, e3]
      exact (((((Ke.refl.x (by simp)).x (by simp)).x (by simp)).x (by simp)).x (by simp)).x (by simp)
    have hV : ∀ f : Int, 0 ≤ f → f ≤ 5 → J N4 276 f = Vf L w (ovr L ft_ Ls fs) ft_ day f := fun f f0 f5 => by
      have hf : f = 0 ∨ f = 1 ∨ f = 2 ∨ f = 3 ∨ f = 4 ∨ f = 5 := by omega
      rcases hf with rfl | rfl | rfl | rfl | rfl | rfl
      · rw [e4, J_Xo (by omega) (by omega) (by omega), J_Xo (by omega) (by omega) (by omega), J_Xo (by omega) (by omega) (by omega), J_Xo (by omega) (by omega) (by omega), e3, J_Xo (by omega) (by omega) (by omega), J_Xs y0.1 y0.2]; rfl
      · rw [e4, J_Xo (by omega) (by omega) (by omega), J_Xo (by omega) (by omega) (by omega), J_Xo (by omega) (by omega) (by omega), J_Xo (by omega) (by omega) (by omega), e3, J_Xs (by omega) (by omega)]; rfl
      · rw [e4, J_Xo (by omega) (by omega) (by omega), J_Xo (by omega) (by omega) (by omega), J_Xo (by omega) (by omega) (by omega), J_Xs (by omega) (by omega)]; rfl
      · rw [e4, J_Xo (by omega) (by omega) (by omega), J_Xo (by omega) (by omega) (by omega), J_Xs y3.1 y3.2]; rfl
      · rw [e4, J_Xo (by omega) (by omega) (by omega), J_Xs y4.1 y4.2]; rfl
      · rw [e4, J_Xs (by omega) (by omega)]; rfl
    have A4 : Ag M0 N4 := q3.trans (k4.ag (by decide))
    have rl := m_rules_l hF hg h16 (M := N4) (k := k) (day := toD M0) k0 k1 (ag A4 rfl) (fun z => agA A4 rfl) (fun z => agA A4 rfl) (fun z => agA A4 rfl) (ag A4 rfl) hV (Vf_r L0 hw hor t0 ⟨d0, d1⟩) (A M0 219 45).toNat 0 (by have := h16.1; omega)
    have et : tot M0 (Vf L w (ovr L ft_ Ls fs) ft_ day) 0 = 0 := rfl
    rw [et] at rl
    have mb : 0 ≤ mkx M0 (Vf L w (ovr L ft_ Ls fs) ft_ day) ∧ mkx M0 (Vf L w (ovr L ft_ Ls fs) ft_ day) ≤ 100 := by
      have tr := tot_r h16 (V := Vf L w (ovr L ft_ Ls fs) ft_ day) (A M0 219 45).toNat (by have := h16.1; omega)
      unfold mkx
      split <;> omega
    have m8 := m_168 hF hg (N := N3) (v := ovr L ft_ Ls fs) k0 k1 L0 (ft_ := ft_) (by rw [e3, J_Xn (by decide), J_Xn (by decide)]; exact g8) t1 t2 ⟨d0, d1⟩ (by rw [← e4]; exact rl)
    refine ⟨_, m8, ?_, fun z z0 => ?_, fun z z0 z1 => ?_, fun z z0 z1 z2 => ?_, fun z z0 z1 z2 => ?_, ?_, ?_⟩
    · exact ((((K1.mono (by decide)).trans (q2.mono (by decide))).trans (k4.mono (by decide))).w (by decide)).w (by decide)
    · rw [A_Wn (by decide), A_Wn (by decide), a4, q7 z (by omega) (by omega) (by omega), o1 z (by omega) (by omega)]
    · rw [A_Wn (by decide), A_Wn (by decide), a4, q7 z (by omega) (by omega) (by omega), o1 z (by omega) (by omega)]
    · rw [J_W, J_W, k4.j (by decide), q8 z z0 z1 z2, e1]
      rfl
    · rw [A_Wo (by omega) z0 z2, A_Wo (by omega) z0 z1, a4, (n2 256 (by omega) (by omega)).1]
    · rw [A_Wo (by omega) (by omega) (by omega), A_Ws (by omega) (by omega)]
    · rw [A_Ws (by omega) (by omega)]
  -- the way there
  have w6 : rI N 256 ((8 : Int32) * iI k + 6).toNatClampNeg = iI L := by simp (config := { maxSteps := 1000000 }) (disch := (first | omega | decide | assumption)) only [ltm_s, ok_n, rd_i, rd_j, fd_i, fd_j, wr_i, wr_j, fw_i, fw_j, ci_s, cj_s, cv_s, dv_n, dw_n, rt_1, rt_b, rt_20, rt_21, okb_0, okb_1, okb_b, nar_0, nar_1, nar_b, i_0, i_1, j_0, j_1, i_lit, j_lit, i_n, iI_add, iI_sub, iI_mul, iI_neg, jI_add, jI_sub, jI_mul, jI_neg, sh_1, an_1, xo_1, di_p, dj_p, i_64A, i_64, j_32, lq_ge, lq_lt, lq_le, lq_gt, lq_eq, i_lt, i_le, i_eq, j_eq, iI_A, jI_J, iI_b, iI_v, jI_v, ↓reduceIte, ite_true, ite_false, Int.reduceEq, Int.reduceLT, Int.reduceLE, Int.reduceAdd, Int.reduceSub, Int.reduceMul, Int.reduceNeg, not_true_eq_false, not_false_eq_true, x6]
  have w3 : rI N 256 ((8 : Int32) * iI k + 3).toNatClampNeg = iI day := by simp (config := { maxSteps := 1000000 }) (disch := (first | omega | decide | assumption)) only [ltm_s, ok_n, rd_i, rd_j, fd_i, fd_j, wr_i, wr_j, fw_i, fw_j, ci_s, cj_s, cv_s, dv_n, dw_n, rt_1, rt_b, rt_20, rt_21, okb_0, okb_1, okb_b, nar_0, nar_1, nar_b, i_0, i_1, j_0, j_1, i_lit, j_lit, i_n, iI_add, iI_sub, iI_mul, iI_neg, jI_add, jI_sub, jI_mul, jI_neg, sh_1, an_1, xo_1, di_p, dj_p, i_64A, i_64, j_32, lq_ge, lq_lt, lq_le, lq_gt, lq_eq, i_lt, i_le, i_eq, j_eq, iI_A, jI_J, iI_b, iI_v, jI_v, ↓reduceIte, ite_true, ite_false, Int.reduceEq, Int.reduceLT, Int.reduceLE, Int.reduceAdd, Int.reduceSub, Int.reduceMul, Int.reduceNeg, not_true_eq_false, not_false_eq_true, x3]
  have w4 : rI N 256 ((8 : Int32) * iI k + 4).toNatClampNeg = iI hour := by simp (config := { maxSteps := 1000000 }) (disch := (first | omega | decide | assumption)) only [ltm_s, ok_n, rd_i, rd_j, fd_i, fd_j, wr_i, wr_j, fw_i, fw_j, ci_s, cj_s, cv_s, dv_n, dw_n, rt_1, rt_b, rt_20, rt_21, okb_0, okb_1, okb_b, nar_0, nar_1, nar_b, i_0, i_1, j_0, j_1, i_lit, j_lit, i_n, iI_add, iI_sub, iI_mul, iI_neg, jI_add, jI_sub, jI_mul, jI_neg, sh_1, an_1, xo_1, di_p, dj_p, i_64A, i_64, j_32, lq_ge, lq_lt, lq_le, lq_gt, lq_eq, i_lt, i_le, i_eq, j_eq, iI_A, jI_J, iI_b, iI_v, jI_v, ↓reduceIte, ite_true, ite_false, Int.reduceEq, Int.reduceLT, Int.reduceLE, Int.reduceAdd, Int.reduceSub, Int.reduceMul, Int.reduceNeg, not_true_eq_false, not_false_eq_true, x4]
  have w1 : rI N1 256 ((8 : Int32) * iI k + 1).toNatClampNeg = iI a := by
    have : A N1 256 (8 * k + 1) = a := by rw [K1.a (by decide)]; exact x1
    simp (config := { maxSteps := 1000000 }) (disch := (first | omega | decide | assumption)) only [ltm_s, ok_n, rd_i, rd_j, fd_i, fd_j, wr_i, wr_j, fw_i, fw_j, ci_s, cj_s, cv_s, dv_n, dw_n, rt_1, rt_b, rt_20, rt_21, okb_0, okb_1, okb_b, nar_0, nar_1, nar_b, i_0, i_1, j_0, j_1, i_lit, j_lit, i_n, iI_add, iI_sub, iI_mul, iI_neg, jI_add, jI_sub, jI_mul, jI_neg, sh_1, an_1, xo_1, di_p, dj_p, i_64A, i_64, j_32, lq_ge, lq_lt, lq_le, lq_gt, lq_eq, i_lt, i_le, i_eq, j_eq, iI_A, jI_J, iI_b, iI_v, jI_v, ↓reduceIte, ite_true, ite_false, Int.reduceEq, Int.reduceLT, Int.reduceLE, Int.reduceAdd, Int.reduceSub, Int.reduceMul, Int.reduceNeg, not_true_eq_false, not_false_eq_true, this]
  have w2 : rI N1 256 ((8 : Int32) * iI k + 2).toNatClampNeg = iI b := by
    have : A N1 256 (8 * k + 2) = b := by rw [K1.a (by decide)]; exact x2
    simp (config := { maxSteps := 1000000 }) (disch := (first | omega | decide | assumption)) only [ltm_s, ok_n, rd_i, rd_j, fd_i, fd_j, wr_i, wr_j, fw_i, fw_j, ci_s, cj_s, cv_s, dv_n, dw_n, rt_1, rt_b, rt_20, rt_21, okb_0, okb_1, okb_b, nar_0, nar_1, nar_b, i_0, i_1, j_0, j_1, i_lit, j_lit, i_n, iI_add, iI_sub, iI_mul, iI_neg, jI_add, jI_sub, jI_mul, jI_neg, sh_1, an_1, xo_1, di_p, dj_p, i_64A, i_64, j_32, lq_ge, lq_lt, lq_le, lq_gt, lq_eq, i_lt, i_le, i_eq, j_eq, iI_A, jI_J, iI_b, iI_v, jI_v, ↓reduceIte, ite_true, ite_false, Int.reduceEq, Int.reduceLT, Int.reduceLE, Int.reduceAdd, Int.reduceSub, Int.reduceMul, Int.reduceNeg, not_true_eq_false, not_false_eq_true, this]
  have w14 : fI N 219 14 = iI (toD M0) := by rw [fd_i, e14]
  have kx : ∀ c : Nat, iI (8 * k + (c : Int)) = (8 : Int32) * iI k + Int32.ofNat c := fun c => by
    rw [i_n, show (8 : Int32) = iI 8 from rfl, iI_mul, iI_add]
  have hmore : -9223372036854775808 ≤ ft_ - fs ∧ ft_ - fs < 9223372036854775808 := by omega
  have go : ∀ w : Int, (w = 0 ∨ w = 1) → bI (¬ good M0 day hour (toD M0) L leg) = w → ∀ R : am_R, F 266 168 [.ref 219, .int (iI k), .int (iI L), .int (iI day)] [.long (jI (ovr L ft_ Ls fs)), .int (iI 2), .ref 276] (X_ (X_ N2 276 0 (if 1 < L then 1 else L)) 276 1 w) = some R → F 266 0 [.ref 219, .int (iI k)] [] N = some R := by
    intro w hw hgw R hR
    have wr := wrong (if 1 < L then 1 else L)
    rw [hgw] at wr
    have g14 : ∀ x y, A (X_ N2 x 0 y) 219 14 = toD M0 := fun x y => by
      rw [A_X, q7 14 (by omega) (by omega) (by omega), o1 14 (by omega) (by omega)]; exact e14
    have g64 : ∀ x y z w, A (X_ (X_ N2 276 x y) 276 z w) 219 64 = Ls := fun x y z w => by rw [A_X, A_X]; exact e64
    have g66 : ∀ x y z w, J (X_ (X_ N2 276 x y) 276 z w) 219 66 = fs := fun x y z w => by rw [J_Xn (by decide), J_Xn (by decide)]; exact e66
    refine s_Model_marks hF hg ?_
    refine ok_in (kx 6).symm (by omega) (by omega) (by omega) ?_
    refine ok_in (kx 3).symm (by omega) (by omega) (by omega) ?_
    refine ok_in (kx 4).symm (by omega) (by omega) (by omega) ?_
    rw [w6, w3, w4, w14]
    refine cv_in pp ?_
    refine ok_in (kx 1).symm (by omega) (by omega) (by omega) ?_
    refine ok_in (kx 2).symm (by omega) (by omega) (by omega) ?_
    rw [w1, w2]
    refine cv_in q1 ?_
    by_cases p1 : L ≤ 0
    · have eo : ovr L ft_ Ls fs = 0 := by unfold ovr; rw [if_neg (by omega)]
      have el : (if 1 < L then 1 else L) = 0 := by rw [if_neg (by omega)]; omega
      rw [eo, el] at hR
      rw [el] at wr
      rcases hw with rfl | rfl
      · simp (config := { maxSteps := 1000000 }) (disch := (first | omega | decide | assumption)) only [ltm_s, ok_n, rd_i, rd_j, fd_i, fd_j, wr_i, wr_j, fw_i, fw_j, ci_s, cj_s, cv_s, dv_n, dw_n, rt_1, rt_b, rt_20, rt_21, okb_0, okb_1, okb_b, nar_0, nar_1, nar_b, i_0, i_1, j_0, j_1, i_lit, j_lit, i_n, iI_add, iI_sub, iI_mul, iI_neg, jI_add, jI_sub, jI_mul, jI_neg, sh_1, an_1, xo_1, di_p, dj_p, i_64A, i_64, j_32, lq_ge, lq_lt, lq_le, lq_gt, lq_eq, i_lt, i_le, i_eq, j_eq, iI_A, jI_J, iI_b, iI_v, jI_v, ↓reduceIte, ite_true, ite_false, Int.reduceEq, Int.reduceLT, Int.reduceLE, Int.reduceAdd, Int.reduceSub, Int.reduceMul, Int.reduceNeg, not_true_eq_false, not_false_eq_true, p1, g14, wr, e66, g8]
        exact hR
      · simp (config := { maxSteps := 1000000 }) (disch := (first | omega | decide | assumption)) only [ltm_s, ok_n, rd_i, rd_j, fd_i, fd_j, wr_i, wr_j, fw_i, fw_j, ci_s, cj_s, cv_s, dv_n, dw_n, rt_1, rt_b, rt_20, rt_21, okb_0, okb_1, okb_b, nar_0, nar_1, nar_b, i_0, i_1, j_0, j_1, i_lit, j_lit, i_n, iI_add, iI_sub, iI_mul, iI_neg, jI_add, jI_sub, jI_mul, jI_neg, sh_1, an_1, xo_1, di_p, dj_p, i_64A, i_64, j_32, lq_ge, lq_lt, lq_le, lq_gt, lq_eq, i_lt, i_le, i_eq, j_eq, iI_A, jI_J, iI_b, iI_v, jI_v, ↓reduceIte, ite_true, ite_false, Int.reduceEq, Int.reduceLT, Int.reduceLE, Int.reduceAdd, Int.reduceSub, Int.reduceMul, Int.reduceNeg, not_true_eq_false, not_false_eq_true, p1, g14, wr, e66, g8]
        exact hR
    · have el : (if 1 < L then 1 else L) = 1 := by split <;> omega
      rw [el] at hR wr
      by_cases p2 : Ls ≤ 0
      · have eo : ovr L ft_ Ls fs = 0 := by unfold ovr; rw [if_neg (by omega)]
        rw [eo] at hR
        rcases hw with rfl | rfl
        · simp (config := { maxSteps := 1000000 }) (disch := (first | omega | decide | assumption)) only [ltm_s, ok_n, rd_i, rd_j, fd_i, fd_j, wr_i, wr_j, fw_i, fw_j, ci_s, cj_s, cv_s, dv_n, dw_n, rt_1, rt_b, rt_20, rt_21, okb_0, okb_1, okb_b, nar_0, nar_1, nar_b, i_0, i_1, j_0, j_1, i_lit, j_lit, i_n, iI_add, iI_sub, iI_mul, iI_neg, jI_add, jI_sub, jI_mul, jI_neg, sh_1, an_1, xo_1, di_p, dj_p, i_64A, i_64, j_32, lq_ge, lq_lt, lq_le, lq_gt, lq_eq, i_lt, i_le, i_eq, j_eq, iI_A, jI_J, iI_b, iI_v, jI_v, ↓reduceIte, ite_true, ite_false, Int.reduceEq, Int.reduceLT, Int.reduceLE, Int.reduceAdd, Int.reduceSub, Int.reduceMul, Int.reduceNeg, not_true_eq_false, not_false_eq_true, p1, g14, wr, e66, g8, g64, p2]
          exact hR
        · simp (config := { maxSteps := 1000000 }) (disch := (first | omega | decide | assumption)) only [ltm_s, ok_n, rd_i, rd_j, fd_i, fd_j, wr_i, wr_j, fw_i, fw_j, ci_s, cj_s, cv_s, dv_n, dw_n, rt_1, rt_b, rt_20, rt_21, okb_0, okb_1, okb_b, nar_0, nar_1, nar_b, i_0, i_1, j_0, j_1, i_lit, j_lit, i_n, iI_add, iI_sub, iI_mul, iI_neg, jI_add, jI_sub, jI_mul, jI_neg, sh_1, an_1, xo_1, di_p, dj_p, i_64A, i_64, j_32, lq_ge, lq_lt, lq_le, lq_gt, lq_eq, i_lt, i_le, i_eq, j_eq, iI_A, jI_J, iI_b, iI_v, jI_v, ↓reduceIte, ite_true, ite_false, Int.reduceEq, Int.reduceLT, Int.reduceLE, Int.reduceAdd, Int.reduceSub, Int.reduceMul, Int.reduceNeg, not_true_eq_false, not_false_eq_true, p1, g14, wr, e66, g8, g64, p2]
          exact hR
      · have fp := fpos (by omega)
        by_cases p3 : ft_ - fs ≤ 0
        · have eo : ovr L ft_ Ls fs = 0 := by unfold ovr; rw [if_neg (by omega)]
          rw [eo] at hR
          rcases hw with rfl | rfl
          · simp (config := { maxSteps := 1000000 }) (disch := (first | omega | decide | assumption)) only [ltm_s, ok_n, rd_i, rd_j, fd_i, fd_j, wr_i, wr_j, fw_i, fw_j, ci_s, cj_s, cv_s, dv_n, dw_n, rt_1, rt_b, rt_20, rt_21, okb_0, okb_1, okb_b, nar_0, nar_1, nar_b, i_0, i_1, j_0, j_1, i_lit, j_lit, i_n, iI_add, iI_sub, iI_mul, iI_neg, jI_add, jI_sub, jI_mul, jI_neg, sh_1, an_1, xo_1, di_p, dj_p, i_64A, i_64, j_32, lq_ge, lq_lt, lq_le, lq_gt, lq_eq, i_lt, i_le, i_eq, j_eq, iI_A, jI_J, iI_b, iI_v, jI_v, ↓reduceIte, ite_true, ite_false, Int.reduceEq, Int.reduceLT, Int.reduceLE, Int.reduceAdd, Int.reduceSub, Int.reduceMul, Int.reduceNeg, not_true_eq_false, not_false_eq_true, p1, g14, wr, e66, g8, g64, p2, p3]
            exact hR
          · simp (config := { maxSteps := 1000000 }) (disch := (first | omega | decide | assumption)) only [ltm_s, ok_n, rd_i, rd_j, fd_i, fd_j, wr_i, wr_j, fw_i, fw_j, ci_s, cj_s, cv_s, dv_n, dw_n, rt_1, rt_b, rt_20, rt_21, okb_0, okb_1, okb_b, nar_0, nar_1, nar_b, i_0, i_1, j_0, j_1, i_lit, j_lit, i_n, iI_add, iI_sub, iI_mul, iI_neg, jI_add, jI_sub, jI_mul, jI_neg, sh_1, an_1, xo_1, di_p, dj_p, i_64A, i_64, j_32, lq_ge, lq_lt, lq_le, lq_gt, lq_eq, i_lt, i_le, i_eq, j_eq, iI_A, jI_J, iI_b, iI_v, jI_v, ↓reduceIte, ite_true, ite_false, Int.reduceEq, Int.reduceLT, Int.reduceLE, Int.reduceAdd, Int.reduceSub, Int.reduceMul, Int.reduceNeg, not_true_eq_false, not_false_eq_true, p1, g14, wr, e66, g8, g64, p2, p3]
            exact hR
        · have eo : ovr L ft_ Ls fs = (ft_ - fs) * 100 / fs := by
            unfold ovr; rw [if_pos (by omega), Int.mul_comm]
          rw [eo] at hR
          rcases hw with rfl | rfl
          · simp (config := { maxSteps := 1000000 }) (disch := (first | omega | decide | assumption)) only [ltm_s, ok_n, rd_i, rd_j, fd_i, fd_j, wr_i, wr_j, fw_i, fw_j, ci_s, cj_s, cv_s, dv_n, dw_n, rt_1, rt_b, rt_20, rt_21, okb_0, okb_1, okb_b, nar_0, nar_1, nar_b, i_0, i_1, j_0, j_1, i_lit, j_lit, i_n, iI_add, iI_sub, iI_mul, iI_neg, jI_add, jI_sub, jI_mul, jI_neg, sh_1, an_1, xo_1, di_p, dj_p, i_64A, i_64, j_32, lq_ge, lq_lt, lq_le, lq_gt, lq_eq, i_lt, i_le, i_eq, j_eq, iI_A, jI_J, iI_b, iI_v, jI_v, ↓reduceIte, ite_true, ite_false, Int.reduceEq, Int.reduceLT, Int.reduceLE, Int.reduceAdd, Int.reduceSub, Int.reduceMul, Int.reduceNeg, not_true_eq_false, not_false_eq_true, p1, g14, wr, e66, g8, g64, g66, p2, p3]
            exact hR
          · simp (config := { maxSteps := 1000000 }) (disch := (first | omega | decide | assumption)) only [ltm_s, ok_n, rd_i, rd_j, fd_i, fd_j, wr_i, wr_j, fw_i, fw_j, ci_s, cj_s, cv_s, dv_n, dw_n, rt_1, rt_b, rt_20, rt_21, okb_0, okb_1, okb_b, nar_0, nar_1, nar_b, i_0, i_1, j_0, j_1, i_lit, j_lit, i_n, iI_add, iI_sub, iI_mul, iI_neg, jI_add, jI_sub, jI_mul, jI_neg, sh_1, an_1, xo_1, di_p, dj_p, i_64A, i_64, j_32, lq_ge, lq_lt, lq_le, lq_gt, lq_eq, i_lt, i_le, i_eq, j_eq, iI_A, jI_J, iI_b, iI_v, jI_v, ↓reduceIte, ite_true, ite_false, Int.reduceEq, Int.reduceLT, Int.reduceLE, Int.reduceAdd, Int.reduceSub, Int.reduceMul, Int.reduceNeg, not_true_eq_false, not_false_eq_true, p1, g14, wr, e66, g8, g64, g66, p2, p3]
            exact hR
  by_cases q : good M0 day hour (toD M0) L leg
  · have e0 : bI (¬ good M0 day hour (toD M0) L leg) = 0 := bI_f (fun h => h q)
    obtain ⟨N', r1, r2⟩ := fin 0 (by omega) _ rfl
    rw [e0]
    exact ⟨N', go 0 (Or.inl rfl) e0 _ r1, r2⟩
  · have e0 : bI (¬ good M0 day hour (toD M0) L leg) = 1 := bI_t q
    obtain ⟨N', r1, r2⟩ := fin 1 (by omega) _ rfl
    rw [e0]
    exact ⟨N', go 1 (Or.inr rfl) e0 _ r1, r2⟩
theorem mkx_r (h16 : I16 M0) (V : Int → Int) : 0 ≤ mkx M0 V ∧ mkx M0 V ≤ 100 := by
  have tr := tot_r h16 (V := V) (A M0 219 45).toNat (by have := h16.1; omega)
  unfold mkx
  split <;> omega
end Mm
