/-! SAY, asked of both -/
section By
variable {M M1 N X Y : am_M} {g : am_G} {F : am_FT}
theorem Ch.fit {W W' : List Nat} {Q Q' : List (Nat × Nat)} (h : Ch W Q M N) (hs : ∀ a : Nat, a ∈ W → a ∈ W') (hq : Q.all (fun q => Q'.elem q) = true) : Ch W' Q' M N := fun a k ha hk => h a k (fun q => ha (hs a q)) (fun q => hk (List.elem_iff.mp (List.all_eq_true.mp hq _ q)))
theorem bs_ch {W : List Nat} {Q : List (Nat × Nat)} (c : Ch W Q M X) (s : okc [220, 221, 222, 223, 224, 225, 226, 227, 228, 229, 230, 231, 233, 234, 235, 236, 237, 238, 239, 240, 241, 242, 243, 250, 251, 252, 232] [(219, 0), (219, 4), (219, 10), (219, 14), (219, 15), (219, 19), (219, 24)] W Q = true) (s1 : okc [2, 3, 4, 220, 221, 222] [(219, 0), (1, 3)] W Q = true) (s2 : okc [5, 6, 7, 8, 9, 10, 220, 221, 223, 224, 225, 226, 227] [(219, 0), (219, 4), (1, 7)] W Q = true) (s4 : okc [11, 12, 13, 226, 228, 229, 230] [(219, 10), (219, 4), (1, 14)] W Q = true) (s5 : okc [19, 20, 21, 231, 232, 233] [(219, 15), (18, 4)] W Q = true) (s6 : okc [22, 23, 24, 25, 234, 235, 236, 237] [(219, 19), (18, 9)] W Q = true) (s7 : okc [26, 27, 28, 29, 30, 31, 238, 239, 240, 241, 242, 243] [(219, 24), (219, 4), (18, 16)] W Q = true) (s8 : okc [] [(219, 14), (18, 0)] W Q = true) (h1 : I1 M) (h2 : I2 M) (h4 : I4 M) (h5 : I5 M) (h6 : I6 M) (h7 : I7 M) (h8 : I8 M) : Bs M X :=
  ⟨c.sm s, c.i1 s1 h1, c.i2 s2 h2, c.i4 s4 h4, c.i5 s5 h5, c.i6 s6 h6, c.i7 s7 h7, c.i8 s8 h8⟩
/-- the rows and cells that a said run that is not kept changes -/
def sB : List Nat := [32, 33, 34, 35, 36, 37, 64, 65, 266, 267, 268]
def sW : List Nat := sB ++ List.range' 91 20
def sQ : List (Nat × Nat) := [(61, 1), (61, 2), (63, 0), (63, 1), (63, 2), (219, 36), (219, 75), (219, 76), (219, 77), (219, 78), (219, 81), (219, 82)]
/-- and one that is kept -/
def kB : List Nat := [32, 33, 34, 35, 36, 37, 43, 44, 45, 57, 64, 65, 247, 248, 249, 266, 267, 268]
def kW : List Nat := kB ++ (List.range' 47 10 ++ List.range' 91 20)
def kQ : List (Nat × Nat) := [(0, 9), (42, 2), (61, 1), (61, 2), (63, 0), (63, 1), (63, 2), (219, 36), (219, 37), (219, 67), (219, 68), (219, 69), (219, 70), (219, 75), (219, 76), (219, 77), (219, 78), (219, 81), (219, 82)]
theorem sW_f {rt : Nat} (h : 91 ≤ rt) (h2 : rt < 110) : ∀ b : Nat, b ∈ rt :: (rt + 1) :: sB → b ∈ sW := fun b hb => by
  unfold sW
  rcases List.mem_cons.mp hb with e | hb
  · rw [e]; exact List.mem_append.mpr (Or.inr (mRg h (by omega)))
  rcases List.mem_cons.mp hb with e | hb
  · rw [e]; exact List.mem_append.mpr (Or.inr (mRg (by omega) (by omega)))
  exact List.mem_append.mpr (Or.inl hb)
theorem kW_f {rt w : Nat} (h : 91 ≤ rt) (h2 : rt < 110) (h3 : 47 ≤ w) (h4 : w < 57) : ∀ b : Nat, b ∈ rt :: (rt + 1) :: w :: kB → b ∈ kW := fun b hb => by
  unfold kW
  rcases List.mem_cons.mp hb with e | hb
  · rw [e]; exact List.mem_append.mpr (Or.inr (List.mem_append.mpr (Or.inr (mRg h (by omega)))))
  rcases List.mem_cons.mp hb with e | hb
  · rw [e]; exact List.mem_append.mpr (Or.inr (List.mem_append.mpr (Or.inr (mRg (by omega) (by omega)))))
  rcases List.mem_cons.mp hb with e | hb
  · rw [e]; exact List.mem_append.mpr (Or.inr (List.mem_append.mpr (Or.inl (mRg h3 (by omega)))))
  exact List.mem_append.mpr (Or.inl hb)
theorem i13_old (h13 : I13 M) (h2 : I2 M) {R : Int} {rt : Nat} (hR : A M 219 37 = R) (hrt : rt = 91 + 2 * R.toNat) (f : ∀ (b : Nat) (z : Int), 91 ≤ b → b < 111 → b ≠ rt → b ≠ rt + 1 → A X b z = A M b z) (c : Ch sW sQ M X) : I13 X := by
  obtain ⟨s1, s2, s3⟩ := h13
  have e37 : A X 219 37 = A M 219 37 := c.f (a := 219) (z := 37) rfl
  have e9 : A X 0 9 = A M 0 9 := c.f (a := 0) (z := 9) rfl
  have eW : nW X = nW M := c.f (a := 219) (z := 4) rfl
  refine ⟨by rw [e37]; exact s1, by rw [e37, e9]; exact s2, fun r r0 r1 => ?_⟩
  rw [e37] at r1
  have p := s3 r r0 r1
  have e0 : ∀ z : Int, A X (91 + 2 * r.toNat) z = A M (91 + 2 * r.toNat) z := fun z => f _ z (by omega) (by omega) (by omega) (by omega)
  have e1 : ∀ z : Int, A X (91 + 2 * r.toNat + 1) z = A M (91 + 2 * r.toNat + 1) z := fun z => f _ z (by omega) (by omega) (by omega) (by omega)
  have e5 : ∀ z, A X 247 z = A M 247 z := fun z => c.a rfl
  have e6 : ∀ z, A X 248 z = A M 248 z := fun z => c.a rfl
  have e7 : ∀ z, A X 249 z = A M 249 z := fun z => c.a rfl
  unfold B13
  simp only [e0, e1, e5, e6, e7, eW]
  exact p
/-- what is left when a run is not kept -/
theorem say_no (hI : Inv M) (c : Ch sW sQ M X) (f : I13 X) (hm : Imk X) (z1 : A X 219 36 = 0) (z2 : A X 61 1 = 0) : Inv X := by
  obtain ⟨h1, h2, h3, h4, h5, h6, h7, h8, h9, h10, h11, h12, h13, h14, h15, h16, h17, h18, h19, -, ht⟩ := hI
  exact ⟨c.i1 rfl h1, c.i2 rfl h2, c.i3 rfl h3, c.i4 rfl h4, c.i5 rfl h5, c.i6 rfl h6, c.i7 rfl h7, c.i8 rfl h8, c.i9 rfl h9, c.i10 rfl h10, c.i11 rfl h11, ⟨by omega, by omega, fun k k0 k1 => by omega⟩, f, c.i14 rfl h14, c.i15 rfl h15, c.i16 rfl h16, c.i17 rfl h17, c.i18 rfl h18, c.i19 rfl h19, hm, c.itd rfl ht⟩
theorem say_yes (hI : Inv M) (c : Ch kW kQ M X) (f : I13 X ∧ I14 X ∧ I15 X) (hm : Imk X) (z1 : A X 219 36 = 0) (z2 : A X 61 1 = 0) : Inv X := by
  obtain ⟨h1, h2, h3, h4, h5, h6, h7, h8, h9, h10, h11, h12, h13, h14, h15, h16, h17, h18, h19, -, ht⟩ := hI
  exact ⟨c.i1 rfl h1, c.i2 rfl h2, c.i3 rfl h3, c.i4 rfl h4, c.i5 rfl h5, c.i6 rfl h6, c.i7 rfl h7, c.i8 rfl h8, c.i9 rfl h9, c.i10 rfl h10, c.i11 rfl h11, ⟨by omega, by omega, fun k k0 k1 => by omega⟩, f.1, f.2.1, f.2.2, c.i16 rfl h16, c.i17 rfl h17, c.i18 rfl h18, c.i19 rfl h19, hm, c.itd rfl ht⟩
/-- the component's way, as far as the legs are driven -/
theorem say_c (hF : F = am_F T0 g) (hg : GG g) (h2 : I2 M) (h6 : I6 M) (h7 : I7 M) (h8 : I8 M) (hm : Imk M) {a b hour R : Int} {rt : Nat} (v0 : 0 ≤ hour) (v1 : hour < 24) (hR : A M 0 9 = R) (R0 : 0 ≤ R) (R1 : R < 10) (hrt : rt = 91 + 2 * R.toNat) (a0 : 0 ≤ a) (a1 : a < 8) (b0 : 0 ≤ b) (b1 : b < 8) :
    ∃ N3 N4 N5 : am_M, F 218 0 [.ref 32, .int (iI (toD M)), .int (iI hour), .int (iI (toD M))] [] M = some (none, N3) ∧ A N3 0 9 = R ∧ F 67 0 [.ref rt, .int (iI a), .int (iI b)] [] N3 = some (none, N4) ∧ A N4 18 0 = toD M ∧ F 69 0 [.ref rt, .int (iI (toD M)), .int (iI hour)] [] N4 = some (none, N5) ∧ Ag M N5 ∧ fset M (-1, toD M, hour, toD M) N5 ∧ Ke [32, 33, 34, 35, 36, rt] M N5 ∧ (A N5 rt 5 = 0 ∧ A N5 rt 0 = a ∧ A N5 rt 1 = b ∧ A N5 rt 2 = toD M ∧ A N5 rt 3 = hour) := by
  have tr8 := h8.1
  have hr := rok_91 hg (r := R.toNat) (by omega)
  rw [← hrt] at hr
  obtain ⟨N3, t1, t2, t3, -⟩ := c_setCity hF hg (Ag.refl M) h2 h6 h7 hm (day := toD M) (hour := hour) (kn := toD M) (by omega) (by omega) v0 v1 (by omega) (by omega)
  have k3 : Ke [32, 33, 34, 35, 36, rt] M N3 := t2.sub (fun x hx => by
    simp only [List.mem_cons, List.not_mem_nil, or_false] at hx ⊢
    omega)
  obtain ⟨Y1, e1⟩ : ∃ y : am_M, y = W_ N3 rt 0 a := ⟨_, rfl⟩
  obtain ⟨Y2, e2⟩ : ∃ y : am_M, y = W_ Y1 rt 1 b := ⟨_, rfl⟩
  obtain ⟨N4, e3⟩ : ∃ y : am_M, y = W_ Y2 rt 5 0 := ⟨_, rfl⟩
  obtain ⟨Y4, e4⟩ : ∃ y : am_M, y = W_ N4 rt 2 (toD M) := ⟨_, rfl⟩
  obtain ⟨N5, e5⟩ : ∃ y : am_M, y = W_ Y4 rt 3 hour := ⟨_, rfl⟩
  have mr : rt ∈ [32, 33, 34, 35, 36, rt] := by simp only [List.mem_cons, true_or, or_true]
  have k4 : Ke [32, 33, 34, 35, 36, rt] M N4 := by rw [e3, e2, e1]; exact ((k3.w mr).w mr).w mr
  have k5 : Ke [32, 33, 34, 35, 36, rt] M N5 := by rw [e5, e4]; exact (k4.w mr).w mr
  have q5 : Ke [rt] N3 N5 := by
    rw [e5, e4, e3, e2, e1]
    exact ((((Ke.refl.w (List.mem_singleton.mpr rfl)).w (List.mem_singleton.mpr rfl)).w (List.mem_singleton.mpr rfl)).w (List.mem_singleton.mpr rfl)).w (List.mem_singleton.mpr rfl)
  have s18 : A N4 18 0 = toD M := (k4.a (by simp only [List.mem_cons, List.not_mem_nil, or_false]; omega)).trans h8.2
  refine ⟨N3, N4, N5, t1, (k3.a (by simp only [List.mem_cons, List.not_mem_nil, or_false]; omega)).trans hR, ?_, s18, ?_, k5.ag (by show (stN 32 && (stN 33 && (stN 34 && (stN 35 && (stN 36 && (stN rt && true)))))) = true; rw [hr.2.2.1]; rfl), fset_k t3 (fun c z c0 c1 => q5.a (by simp only [List.mem_singleton]; omega)), k5, ?_, ?_, ?_, ?_, ?_⟩
  · refine s_Route_begin hF hg hr.1 ?_
    simp (config := { maxSteps := 1000000 }) (disch := (first | omega | decide | assumption)) only [ltm_s, ok_n, rd_i, rd_j, fd_i, fd_j, wr_i, wr_j, fw_i, fw_j, ci_s, cj_s, cv_s, dv_n, dw_n, rt_1, rt_b, rt_20, rt_21, okb_0, okb_1, okb_b, nar_0, nar_1, nar_b, i_0, i_1, j_0, j_1, i_lit, j_lit, i_n, iI_add, iI_sub, iI_mul, iI_neg, jI_add, jI_sub, jI_mul, jI_neg, sh_1, an_1, xo_1, di_p, dj_p, i_64A, i_64, j_32, lq_ge, lq_lt, lq_le, lq_gt, lq_eq, i_lt, i_le, i_eq, j_eq, iI_A, jI_J, iI_b, iI_v, jI_v, ↓reduceIte, ite_true, ite_false, Int.reduceEq, Int.reduceLT, Int.reduceLE, Int.reduceAdd, Int.reduceSub, Int.reduceMul, Int.reduceNeg, not_true_eq_false, not_false_eq_true, e1.symm, e2.symm, e3.symm]
  · refine s_Route_setTime hF hg hr.1 ?_
    simp (config := { maxSteps := 1000000 }) (disch := (first | omega | decide | assumption)) only [ltm_s, ok_n, rd_i, rd_j, fd_i, fd_j, wr_i, wr_j, fw_i, fw_j, ci_s, cj_s, cv_s, dv_n, dw_n, rt_1, rt_b, rt_20, rt_21, okb_0, okb_1, okb_b, nar_0, nar_1, nar_b, i_0, i_1, j_0, j_1, i_lit, j_lit, i_n, iI_add, iI_sub, iI_mul, iI_neg, jI_add, jI_sub, jI_mul, jI_neg, sh_1, an_1, xo_1, di_p, dj_p, i_64A, i_64, j_32, lq_ge, lq_lt, lq_le, lq_gt, lq_eq, i_lt, i_le, i_eq, j_eq, iI_A, jI_J, iI_b, iI_v, jI_v, ↓reduceIte, ite_true, ite_false, Int.reduceEq, Int.reduceLT, Int.reduceLE, Int.reduceAdd, Int.reduceSub, Int.reduceMul, Int.reduceNeg, not_true_eq_false, not_false_eq_true, e4.symm, e5.symm]
  · rw [e5, A_Wo (by omega) (by omega) (by omega), e4, A_Wo (by omega) (by omega) (by omega), e3]; exact A_Ws (by omega) (by omega)
  · rw [e5, A_Wo (by omega) (by omega) (by omega), e4, A_Wo (by omega) (by omega) (by omega), e3, A_Wo (by omega) (by omega) (by omega), e2, A_Wo (by omega) (by omega) (by omega), e1]; exact A_Ws (by omega) (by omega)
  · rw [e5, A_Wo (by omega) (by omega) (by omega), e4, A_Wo (by omega) (by omega) (by omega), e3, A_Wo (by omega) (by omega) (by omega), e2]; exact A_Ws (by omega) (by omega)
  · rw [e5, A_Wo (by omega) (by omega) (by omega), e4]; exact A_Ws (by omega) (by omega)
  · rw [e5]; exact A_Ws (by omega) (by omega)
/-- the model's own cells -/
def mQ : List (Nat × Nat) := [(219, 36), (219, 75), (219, 76), (219, 77), (219, 78), (219, 81), (219, 82)]
/-- the model's way -/
theorem say_m (hF : F = am_F T0 g) (hg : GG g) {a b hour cd m fd rtd n : Int} {x how wd lg : Int → Int} (f01 : fd = 0 ∨ fd = 1) (k4 : I4 N) (da : 0 ≤ a ∧ a ≤ nD N - 1) (db : 0 ≤ b ∧ b ≤ nD N - 1) (hab : ¬ a = b) (hv : 0 ≤ hour ∧ hour ≤ 23) (n37 : ¬ A N 219 37 = 10) (hmt : Mt x n N) (cd0 : 0 ≤ cd ∧ cd ≤ 300)
    (om : ∀ N : am_M, Mt x n N → ∃ N' : am_M, F 236 0 [.ref 219] [] N = some (some (.int (iI (-1))), N') ∧ Ch [266, 267] [(219, 75), (219, 76), (219, 77), (219, 78), (219, 81), (219, 82)] N N' ∧ A N' 219 81 = 1 - fd ∧ A N' 219 82 = 1 - rtd ∧ A N' 219 78 = m ∧ ∀ j : Int, 0 ≤ j → j < m → A N' 266 j = how j ∧ J N' 267 j = wd j)
    (hb : ∀ X : am_M, Ch [266, 267] mQ N X → Bs M X)
    (dm : ∀ M1 X : am_M, Bs M M1 → Ag M1 X → A X 219 81 = 1 - fd → A X 219 82 = 1 - rtd → A X 219 78 = m → (∀ j : Int, 0 ≤ j → j < m → A X 266 j = how j ∧ J X 267 j = wd j) → ∃ (e v : Int) (X3 X' : am_M), e = 2 * A X 228 a + fd ∧ X3 = W_ X 268 0 e ∧ A X3 268 0 = e ∧ A X3 219 14 = toD M ∧ F 184 0 [.ref 219, .int (iI e), .int (iI (toD M)), .int (iI hour), .int (iI (toD M))] [] X3 = some (some (.int (iI v)), X3) ∧ Ch [268] [] X X' ∧ Ag M1 X' ∧ (v = 0 ∧ cd = 1 ∧ X' = X3 ∨ v = 1 ∧ (¬ cd = 0 → F 252 124 [.ref 219, .int (iI a), .int (iI b), .int (iI hour), .int (iI 1)] [] X3 = some (some (.int (iI (-1000 - cd))), X')) ∧ (cd = 0 → (∀ j : Int, 0 ≤ j → j ≤ m → A X' 268 j = lg j) ∧ ∀ (Y : am_M) (y : Int), F 186 0 [.ref 219, .int (iI a), .int (iI b), .int (iI hour)] [] X' = some (none, Y) → A Y 219 37 = y → 0 ≤ y → y ≤ 100 → F 252 124 [.ref 219, .int (iI a), .int (iI b), .int (iI hour), .int (iI 1)] [] X3 = some (some (.int (iI (y - 1))), Y)))) :
    ∃ X2 X' : am_M, Ch [266, 267] mQ N X2 ∧ Ch [268] [] X2 X' ∧ A X2 219 36 = 0 ∧ A X2 219 78 = m ∧ Bs M X2 ∧ (¬ cd = 0 → F 252 0 [.ref 219, .int (iI a), .int (iI b), .int (iI hour)] [] N = some (some (.int (iI (-1000 - cd))), X')) ∧ (cd = 0 → (∀ j : Int, 0 ≤ j → j ≤ m → A X' 268 j = lg j) ∧ ∀ (Y : am_M) (y : Int), F 186 0 [.ref 219, .int (iI a), .int (iI b), .int (iI hour)] [] X' = some (none, Y) → A Y 219 37 = y → 0 ≤ y → y ≤ 100 → F 252 0 [.ref 219, .int (iI a), .int (iI b), .int (iI hour)] [] N = some (some (.int (iI (y - 1))), Y)) := by
  have hd := k4.1
  obtain ⟨X1, m1, m2, m3, m4, m5, m6⟩ := om N hmt
  obtain ⟨X2, e2⟩ : ∃ y : am_M, y = W_ X1 219 36 0 := ⟨_, rfl⟩
  have c2 : Ch [266, 267] mQ N X2 := by rw [e2]; exact (m2.mono rfl).wm (Or.inr (by decide))
  have f : ∀ z : Int, 0 ≤ z → ¬ z = 36 → A X2 219 z = A X1 219 z := fun z z0 z1 => by rw [e2, A_Wo (by omega) z0 z1]
  have bs := hb X2 c2
  have q81 : A X2 219 81 = 1 - fd := by rw [f 81 (by omega) (by omega)]; exact m3
  have q82 : A X2 219 82 = 1 - rtd := by rw [f 82 (by omega) (by omega)]; exact m4
  have q78 : A X2 219 78 = m := by rw [f 78 (by omega) (by omega)]; exact m5
  obtain ⟨e, v, X3, X', t1, t2, t3, t4, t5, t6, t7, t8⟩ := dm X2 X2 bs (Ag.refl X2) q81 q82 q78 (fun j j0 j1 => by
    rw [e2, A_Wn (by decide), J_W]; exact m6 j j0 j1)
  have iA := m_isDoor hF hg (Ag.refl N) k4 (v := a) (by omega) (by omega)
  rw [bI_t da] at iA
  have iB := m_isDoor hF hg (Ag.refl N) k4 (v := b) (by omega) (by omega)
  rw [bI_t db] at iB
  have iH := m_isHour hF hg (M := N) (v := hour) (by omega) (by omega)
  rw [bI_t hv] at iH
  have w28 : A X2 228 a = A N 228 a := c2.a rfl
  have wr := k4.2.2 a da.1 (by omega)
  have wr2 := A_lo X2 228 a
  have rest : ∀ R : am_R, (if v = 0 then some (some (.int (iI (-1001))), X3) else F 252 124 [.ref 219, .int (iI a), .int (iI b), .int (iI hour), .int (iI 1)] [] X3) = some R → F 252 0 [.ref 219, .int (iI a), .int (iI b), .int (iI hour)] [] N = some R := fun R hR => by
    have a8 : a < 8 := by omega
    refine s_Model_say hF hg ?_
    rcases f01 with q | q
    · have x81 : A X2 219 81 = 1 := by omega
      have te : 2 * A X2 228 a + 0 = e := by omega
      rcases t8 with ⟨u, -⟩ | ⟨u, -⟩
      · rw [u] at t5
        rw [if_pos u] at hR
        simp (config := { maxSteps := 1000000 }) (disch := (first | omega | decide | assumption)) only [ltm_s, ok_n, rd_i, rd_j, fd_i, fd_j, wr_i, wr_j, fw_i, fw_j, ci_s, cj_s, cv_s, dv_n, dw_n, rt_1, rt_b, rt_20, rt_21, okb_0, okb_1, okb_b, nar_0, nar_1, nar_b, i_0, i_1, j_0, j_1, i_lit, j_lit, i_n, iI_add, iI_sub, iI_mul, iI_neg, jI_add, jI_sub, jI_mul, jI_neg, sh_1, an_1, xo_1, di_p, dj_p, i_64A, i_64, j_32, lq_ge, lq_lt, lq_le, lq_gt, lq_eq, i_lt, i_le, i_eq, j_eq, iI_A, jI_J, iI_b, iI_v, jI_v, ↓reduceIte, ite_true, ite_false, Int.reduceEq, Int.reduceLT, Int.reduceLE, Int.reduceAdd, Int.reduceSub, Int.reduceMul, Int.reduceNeg, not_true_eq_false, not_false_eq_true, iA, iB, hab, iH, n37, m1, e2.symm, x81, te, t2.symm, t3, t4, t5]
        exact hR
      · rw [u] at t5
        rw [if_neg (by omega)] at hR
        simp (config := { maxSteps := 1000000 }) (disch := (first | omega | decide | assumption)) only [ltm_s, ok_n, rd_i, rd_j, fd_i, fd_j, wr_i, wr_j, fw_i, fw_j, ci_s, cj_s, cv_s, dv_n, dw_n, rt_1, rt_b, rt_20, rt_21, okb_0, okb_1, okb_b, nar_0, nar_1, nar_b, i_0, i_1, j_0, j_1, i_lit, j_lit, i_n, iI_add, iI_sub, iI_mul, iI_neg, jI_add, jI_sub, jI_mul, jI_neg, sh_1, an_1, xo_1, di_p, dj_p, i_64A, i_64, j_32, lq_ge, lq_lt, lq_le, lq_gt, lq_eq, i_lt, i_le, i_eq, j_eq, iI_A, jI_J, iI_b, iI_v, jI_v, ↓reduceIte, ite_true, ite_false, Int.reduceEq, Int.reduceLT, Int.reduceLE, Int.reduceAdd, Int.reduceSub, Int.reduceMul, Int.reduceNeg, not_true_eq_false, not_false_eq_true, iA, iB, hab, iH, n37, m1, e2.symm, x81, te, t2.symm, t3, t4, t5]
        exact hR
    · have x81 : A X2 219 81 = 0 := by omega
      have te : 2 * A X2 228 a + 1 = e := by omega
      rcases t8 with ⟨u, -⟩ | ⟨u, -⟩
      · rw [u] at t5
        rw [if_pos u] at hR
        simp (config := { maxSteps := 1000000 }) (disch := (first | omega | decide | assumption)) only [ltm_s, ok_n, rd_i, rd_j, fd_i, fd_j, wr_i, wr_j, fw_i, fw_j, ci_s, cj_s, cv_s, dv_n, dw_n, rt_1, rt_b, rt_20, rt_21, okb_0, okb_1, okb_b, nar_0, nar_1, nar_b, i_0, i_1, j_0, j_1, i_lit, j_lit, i_n, iI_add, iI_sub, iI_mul, iI_neg, jI_add, jI_sub, jI_mul, jI_neg, sh_1, an_1, xo_1, di_p, dj_p, i_64A, i_64, j_32, lq_ge, lq_lt, lq_le, lq_gt, lq_eq, i_lt, i_le, i_eq, j_eq, iI_A, jI_J, iI_b, iI_v, jI_v, ↓reduceIte, ite_true, ite_false, Int.reduceEq, Int.reduceLT, Int.reduceLE, Int.reduceAdd, Int.reduceSub, Int.reduceMul, Int.reduceNeg, not_true_eq_false, not_false_eq_true, iA, iB, hab, iH, n37, m1, e2.symm, x81, te, t2.symm, t3, t4, t5]
        exact hR
      · rw [u] at t5
        rw [if_neg (by omega)] at hR
        simp (config := { maxSteps := 1000000 }) (disch := (first | omega | decide | assumption)) only [ltm_s, ok_n, rd_i, rd_j, fd_i, fd_j, wr_i, wr_j, fw_i, fw_j, ci_s, cj_s, cv_s, dv_n, dw_n, rt_1, rt_b, rt_20, rt_21, okb_0, okb_1, okb_b, nar_0, nar_1, nar_b, i_0, i_1, j_0, j_1, i_lit, j_lit, i_n, iI_add, iI_sub, iI_mul, iI_neg, jI_add, jI_sub, jI_mul, jI_neg, sh_1, an_1, xo_1, di_p, dj_p, i_64A, i_64, j_32, lq_ge, lq_lt, lq_le, lq_gt, lq_eq, i_lt, i_le, i_eq, j_eq, iI_A, jI_J, iI_b, iI_v, jI_v, ↓reduceIte, ite_true, ite_false, Int.reduceEq, Int.reduceLT, Int.reduceLE, Int.reduceAdd, Int.reduceSub, Int.reduceMul, Int.reduceNeg, not_true_eq_false, not_false_eq_true, iA, iB, hab, iH, n37, m1, e2.symm, x81, te, t2.symm, t3, t4, t5]
        exact hR
  refine ⟨X2, X', c2, t6, by rw [e2]; exact A_Ws (by omega) (by omega), q78, bs, fun h => rest _ ?_, fun h => ?_⟩
  · rcases t8 with ⟨u, u2, u3⟩ | ⟨u, u2, -⟩
    · rw [if_pos u, u2, u3]; rfl
    · rw [if_neg (by omega)]; exact u2 h
  · rcases t8 with ⟨u, u2, u3⟩ | ⟨u, -, u3⟩
    · omega
    · obtain ⟨w1, w2⟩ := u3 h
      refine ⟨w1, fun Y y hY hy y0 y1 => rest _ ?_⟩
      rw [if_neg (by omega)]
      exact w2 Y y hY hy y0 y1
end By
