/-! THE FIRST LEG, and then the said turns, by both -/
section Sd
variable {M0 M1 M N X : am_M} {g : am_G} {F : am_FT} {rt : Nat}
theorem say_drive (hF : F = am_F T0 g) (hg : GG g) (h1 : I1 M0) (h2 : I2 M0) (h3 : I3 M0) (h4 : I4 M0) (h5 : I5 M0) (h8 : I8 M0) (hr : rok g rt) (rt9 : 91 ≤ rt) {a b hour m fd rtd : Int} {how wd : Int → Int} (a0 : 0 ≤ a) (a1 : a < nD M0) (b0 : 0 ≤ b) (b1 : b < nD M0) (v0 : 0 ≤ hour) (v1 : hour < 24) (m0 : 0 ≤ m) (m1 : m ≤ 20) (f01 : fd = 0 ∨ fd = 1) (r01 : rtd = 0 ∨ rtd = 1) (hh : ∀ j : Int, 0 ≤ j → j < m → (0 ≤ how j ∧ how j ≤ 11) ∧ j64 (wd j)) : ∃ (cd : Int) (lg : Int → Int), (0 ≤ cd ∧ cd ≤ 300) ∧ (cd = 0 → Drv M0 a b m lg ∧ lg m / 2 = A M0 228 b ∧ (m = 0 → 0 < ahd_ M0 a b (lg 0))) ∧
    (∀ N : am_M, Ag M0 N → fset M0 (-1, toD M0, hour, toD M0) N → A N 63 0 = fd → A N 63 1 = rtd → A N 63 2 = m → (∀ j : Int, 0 ≤ j → j < m → A N 64 j = how j ∧ J N 65 j = wd j) → A N rt 5 = 0 → A N rt 0 = a → A N rt 1 = b → ∃ N' : am_M, F 249 0 [.ref 32, .ref 63, .ref rt] [] N = some (some (.int (iI cd)), N') ∧ Ke [rt, rt + 1] N N' ∧ (∀ z : Int, 0 ≤ z → ¬ z = 5 → A N' rt z = A N rt z) ∧ (cd = 0 → A N' rt 5 = m + 1 ∧ ∀ j : Int, 0 ≤ j → j ≤ m → A N' (rt + 1) j = lg j)) ∧
    (∀ M1 X : am_M, Bs M0 M1 → Ag M1 X → A X 219 81 = 1 - fd → A X 219 82 = 1 - rtd → A X 219 78 = m → (∀ j : Int, 0 ≤ j → j < m → A X 266 j = how j ∧ J X 267 j = wd j) → ∃ (e v : Int) (X3 X' : am_M), e = 2 * A X 228 a + fd ∧ X3 = W_ X 268 0 e ∧ A X3 268 0 = e ∧ A X3 219 14 = toD M0 ∧ F 184 0 [.ref 219, .int (iI e), .int (iI (toD M0)), .int (iI hour), .int (iI (toD M0))] [] X3 = some (some (.int (iI v)), X3) ∧ Ch [268] [] X X' ∧ Ag M1 X' ∧ (v = 0 ∧ cd = 1 ∧ X' = X3 ∨ v = 1 ∧ (¬ cd = 0 → F 252 124 [.ref 219, .int (iI a), .int (iI b), .int (iI hour), .int (iI 1)] [] X3 = some (some (.int (iI (-1000 - cd))), X')) ∧ (cd = 0 → (∀ j : Int, 0 ≤ j → j ≤ m → A X' 268 j = lg j) ∧ ∀ (Y : am_M) (y : Int), F 186 0 [.ref 219, .int (iI a), .int (iI b), .int (iI hour)] [] X' = some (none, Y) → A Y 219 37 = y → 0 ≤ y → y ≤ 100 → F 252 124 [.ref 219, .int (iI a), .int (iI b), .int (iI hour), .int (iI 1)] [] X3 = some (some (.int (iI (y - 1))), Y)))) := by
  have hn := h2.1
  have hd := h4.1
  have tr8 := h8.1
  have wa := (h4.2.2 a a0 a1).1
  have e11 := r11 h4 a0 a1
  obtain ⟨e, ee⟩ : ∃ e : Int, e = 2 * A M0 228 a + fd := ⟨_, rfl⟩
  have er : 0 ≤ e ∧ e < 2 * nW M0 := by omega
  have eh : e / 2 = A M0 228 a := by omega
  have z0 : ((0 : Nat) : Int) = 0 := rfl
  have em : mgo M0 (-1, toD M0, hour, toD M0) e = drv M0 e (toD M0) hour (toD M0) := by
    unfold mgo
    exact if_pos rfl
  -- the model's look at the first leg
  have ml : ∀ M1 X : am_M, Bs M0 M1 → Ag M1 X → ∃ X3 : am_M, e = 2 * A X 228 a + fd ∧ X3 = W_ X 268 0 e ∧ A X3 268 0 = e ∧ A X3 219 14 = toD M0 ∧ F 184 0 [.ref 219, .int (iI e), .int (iI (toD M0)), .int (iI hour), .int (iI (toD M0))] [] X3 = some (some (.int (iI (bI (drv M0 e (toD M0) hour (toD M0))))), X3) ∧ Ch [268] [] X X3 ∧ Ag M1 X3 := fun M1 X bs hA => by
    obtain ⟨sm, k1, k2, k4, k5, k6, k7, k8⟩ := bs
    have nWe := sm.nWE
    have dre := sm.drvE
    have tde : toD M1 = toD M0 := sm.2.2.2.1
    have e228 : ∀ z : Int, A M1 228 z = A M0 228 z := sm.2.2.2.2.2.2.2.2.2.2.2.2.2.2.2.1
    obtain ⟨X3, e3⟩ : ∃ y : am_M, y = W_ X 268 0 e := ⟨_, rfl⟩
    have a3 : Ag M1 X3 := by rw [e3]; exact hA.w rfl
    have x28 : A X 228 a = A M0 228 a := (ag hA (by rfl)).trans (e228 a)
    have di := m_isDrivable hF hg a3 k2 k6 (e := e) (day := toD M0) (hour := hour) (kn := toD M0) er.1 (by rw [nWe]; exact er.2) (by omega) (by omega) v0 v1 (by omega) (by omega)
    rw [dre] at di
    refine ⟨X3, by rw [x28]; exact ee, e3, by rw [e3]; exact A_Ws (by omega) (by omega), (ag a3 (by decide)).trans tde, di, by rw [e3]; exact Ch.refl.wm (Or.inl (by decide)), a3⟩
  by_cases qd : drv M0 e (toD M0) hour (toD M0)
  · obtain ⟨cd, lg, o1, o2, oc, om⟩ := dr_l hF hg h1 h2 h3 h4 h5 h8 hr a0 a1 b0 b1 v0 v1 m0 m1 r01 hh m.toNat 0 (fun _ => e) (by omega) ⟨fun j _ _ => er, fun j j0 j1 => by omega, eh⟩
    rw [z0] at oc om
    refine ⟨cd, lg, o1, o2, fun N hA hs s0 s1 s2 s3 hl ha hb => ?_, fun M1 X bs hA q81 q82 q78 hrw => ?_⟩
    · have a33 : A N 33 e = bI (mgo M0 (-1, toD M0, hour, toD M0) e) := hs.2.1 e er.1 er.2
      rw [em, bI_t qd] at a33
      have w3 := c_add hF hg hr.1 (f := e) hl (by omega) (by omega)
      obtain ⟨Y, eY⟩ : ∃ Y : am_M, Y = W_ (W_ N (rt + 1) 0 e) rt 5 (0 + 1) := ⟨_, rfl⟩
      rw [← eY] at w3
      have kY : Ke [rt, rt + 1] N Y := by rw [eY]; exact (Ke.refl.w (by simp)).w (by simp)
      have aY : ∀ (c : Nat) (z : Int), c ≠ rt → c ≠ rt + 1 → A Y c z = A N c z := fun c z c1 c2 => kY.a (by simp only [List.mem_cons, List.not_mem_nil, or_false]; omega)
      have jY : ∀ (c : Nat) (z : Int), J Y c z = J N c z := fun c z => by rw [eY, J_W, J_W]
      obtain ⟨N', x1, x2, x3, x4⟩ := oc Y (hA.trans (kY.ag (by show (stN rt && (stN (rt + 1) && true)) = true; rw [hr.2.2.1, hr.2.2.2]; rfl))) (fset_k hs (fun c z c0 c1 => aY c z (by omega) (by omega))) (by rw [aY _ _ (by omega) (by omega)]; exact s1) (by rw [aY _ _ (by omega) (by omega)]; exact s2) (fun j j0 j1 => by rw [aY _ _ (by omega) (by omega), jY]; exact s3 j j0 j1) (by omega) (by omega) (by omega) (by omega) (by omega) (by omega) (by rw [eY]; exact A_Ws (by omega) (by omega)) (by rw [eY, A_Wo (by omega) (by omega) (by omega), A_Wn (by omega)]; exact ha) (by rw [eY, A_Wo (by omega) (by omega) (by omega), A_Wn (by omega)]; exact hb) (fun j j0 j1 => by
        have ej : j = 0 := by omega
        rw [eY, A_Wn (by omega), ej]; exact A_Ws (by omega) (by omega))
      refine ⟨N', ?_, kY.trans x2, fun z z0 z1 => ?_, x4⟩
      · have n11 : A N 11 a = A M0 228 a := (ag hA (by rfl)).trans e11
        have ee' : 2 * A M0 228 a + fd = e := ee.symm
        refine s_Finder_driveSpeech hF hg hr.1 ?_
        simp (config := { maxSteps := 1000000 }) (disch := (first | omega | decide | assumption)) only [ltm_s, ok_n, rd_i, rd_j, fd_i, fd_j, wr_i, wr_j, fw_i, fw_j, ci_s, cj_s, cv_s, dv_n, dw_n, rt_1, rt_b, rt_20, rt_21, okb_0, okb_1, okb_b, nar_0, nar_1, nar_b, i_0, i_1, j_0, j_1, i_lit, j_lit, i_n, iI_add, iI_sub, iI_mul, iI_neg, jI_add, jI_sub, jI_mul, jI_neg, sh_1, an_1, xo_1, di_p, dj_p, i_64A, i_64, j_32, lq_ge, lq_lt, lq_le, lq_gt, lq_eq, i_lt, i_le, i_eq, j_eq, iI_A, jI_J, iI_b, iI_v, jI_v, ↓reduceIte, ite_true, ite_false, Int.reduceEq, Int.reduceLT, Int.reduceLE, Int.reduceAdd, Int.reduceSub, Int.reduceMul, Int.reduceNeg, not_true_eq_false, not_false_eq_true, ha, n11, s0, ee', a33, w3]
        exact x1
      · rw [x3 z z0 z1, eY, A_Wo (by omega) z0 z1, A_Wn (by omega)]
    · obtain ⟨X3, t1, t2, t3, t4, t5, t6, t7⟩ := ml M1 X bs hA
      rw [bI_t qd] at t5
      obtain ⟨X', x1, x2, x3, x4⟩ := om M1 X3 bs t7 ((t6.f (a := 219) (z := 78) rfl).trans q78) ((t6.f (a := 219) (z := 82) rfl).trans q82) (fun j j0 j1 => ⟨(t6.a rfl).trans (hrw j j0 j1).1, (t6.j rfl rfl).trans (hrw j j0 j1).2⟩) (fun j j0 j1 => by
        have ej : j = 0 := by omega
        rw [ej]; exact t3)
      exact ⟨e, 1, X3, X', t1, t2, t3, t4, t5, t6.trans x1, x2, Or.inr ⟨rfl, x3, x4⟩⟩
  · refine ⟨1, fun _ => e, by omega, fun h => by omega, fun N hA hs s0 s1 s2 s3 hl ha hb => ?_, fun M1 X bs hA q81 q82 q78 hrw => ?_⟩
    · have a33 : A N 33 e = bI (mgo M0 (-1, toD M0, hour, toD M0) e) := hs.2.1 e er.1 er.2
      rw [em, bI_f qd] at a33
      have n11 : A N 11 a = A M0 228 a := (ag hA (by rfl)).trans e11
      have ee' : 2 * A M0 228 a + fd = e := ee.symm
      refine ⟨N, ?_, Ke.refl, fun z _ _ => rfl, fun h => by omega⟩
      refine s_Finder_driveSpeech hF hg hr.1 ?_
      simp (config := { maxSteps := 1000000 }) (disch := (first | omega | decide | assumption)) only [ltm_s, ok_n, rd_i, rd_j, fd_i, fd_j, wr_i, wr_j, fw_i, fw_j, ci_s, cj_s, cv_s, dv_n, dw_n, rt_1, rt_b, rt_20, rt_21, okb_0, okb_1, okb_b, nar_0, nar_1, nar_b, i_0, i_1, j_0, j_1, i_lit, j_lit, i_n, iI_add, iI_sub, iI_mul, iI_neg, jI_add, jI_sub, jI_mul, jI_neg, sh_1, an_1, xo_1, di_p, dj_p, i_64A, i_64, j_32, lq_ge, lq_lt, lq_le, lq_gt, lq_eq, i_lt, i_le, i_eq, j_eq, iI_A, jI_J, iI_b, iI_v, jI_v, ↓reduceIte, ite_true, ite_false, Int.reduceEq, Int.reduceLT, Int.reduceLE, Int.reduceAdd, Int.reduceSub, Int.reduceMul, Int.reduceNeg, not_true_eq_false, not_false_eq_true, ha, n11, s0, ee', a33]
    · obtain ⟨X3, t1, t2, t3, t4, t5, t6, t7⟩ := ml M1 X bs hA
      rw [bI_f qd] at t5
      exact ⟨e, 0, X3, X3, t1, t2, t3, t4, t5, t6, t7, Or.inl ⟨rfl, rfl, rfl⟩⟩
end Sd
