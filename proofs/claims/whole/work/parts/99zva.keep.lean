/-! SAY: the model behind it, and what holds -/
section Bk
variable {M N X Y : am_M} {g : am_G} {F : am_FT}
def fQ : List (Nat × Nat) := [(0, 9), (219, 36), (219, 37), (219, 67), (219, 68), (219, 69), (219, 70), (219, 75), (219, 76), (219, 77), (219, 78), (219, 81), (219, 82)]
/-- the frames of a kept run -/
theorem say_fr {N2 N7 N8 N9 : am_M} {R : Int} {rt w : Nat} (R1 : 91 ≤ rt) (R2 : rt < 110) (w1 : 47 ≤ w) (w2 : w < 57) (c12 : Ch [64, 65] [(61, 1), (61, 2), (63, 0), (63, 1), (63, 2)] M N2) (y5 : Ch (rt :: (rt + 1) :: sB) [] N2 N7) (y6 : Ch [w, 43, 44, 45, 57] [(42, 2)] N7 N8) (e9 : N9 = W_ N8 0 9 R) : Ch (rt :: (rt + 1) :: w :: kB) kQ M N9 ∧ Ch kW kQ N2 N9 ∧ A N9 219 37 = A M 219 37 ∧ A N9 219 36 = A M 219 36 := by
  have u5 : Ch (rt :: (rt + 1) :: w :: kB) kQ N2 N7 := y5.fit (fun y hy => by
    unfold sB at hy
    unfold kB
    simp only [List.mem_cons, List.not_mem_nil, or_false] at hy ⊢
    omega) rfl
  have u6 : Ch (rt :: (rt + 1) :: w :: kB) kQ N7 N8 := y6.fit (fun y hy => by
    unfold kB
    simp only [List.mem_cons, List.not_mem_nil, or_false] at hy ⊢
    omega) rfl
  have u9 : Ch (rt :: (rt + 1) :: w :: kB) kQ N2 N9 := by
    rw [e9]
    exact (u5.trans u6).wm (Or.inr (by decide))
  have u0 : Ch (rt :: (rt + 1) :: w :: kB) kQ M N2 := c12.fit (fun y hy => by
    unfold kB
    simp only [List.mem_cons, List.not_mem_nil, or_false] at hy ⊢
    omega) rfl
  have f : ∀ z : Int, 0 ≤ z → z = 36 ∨ z = 37 → A N9 219 z = A M 219 z := fun z z0 z1 => by
    rw [e9, A_Wn (by decide)]
    refine (congrArg Int32.toInt (y6 219 z.toNat (by simp only [List.mem_cons, List.not_mem_nil, or_false]; omega) (by simp only [List.mem_singleton, Prod.mk.injEq]; omega)).1).trans ?_
    refine (congrArg Int32.toInt (y5 219 z.toNat (by unfold sB; simp only [List.mem_cons, List.not_mem_nil, or_false]; omega) (List.not_mem_nil)).1).trans ?_
    rcases z1 with e | e <;> subst e
    · exact c12.f (a := 219) (z := 36) rfl
    · exact c12.f (a := 219) (z := 37) rfl
  exact ⟨u0.trans u9, u9.sub (kW_f R1 R2 w1 w2), f 37 (by omega) (Or.inr rfl), f 36 (by omega) (Or.inl rfl)⟩
theorem say_K (hF : F = am_F T0 g) (hg : GG g) (hI : Inv M) {N2 N7 N8 N9 : am_M} {a b hour m fd rtd R cd : Int} {rt w : Nat} {x how wd lg : Int → Int} (c12 : Ch [64, 65] [(61, 1), (61, 2), (63, 0), (63, 1), (63, 2)] M N2) (z61 : A N2 61 1 = 0) (da : 0 ≤ a ∧ a ≤ nD M - 1) (db : 0 ≤ b ∧ b ≤ nD M - 1) (q2 : ¬ a = b) (hv : 0 ≤ hour ∧ hour ≤ 23) (o2 : fd = 0 ∨ fd = 1) (m0 : 0 ≤ m) (m1 : m ≤ 20) (hR : A M 219 37 = R) (R0 : 0 ≤ R) (R1 : R < 10) (ert : rt = 91 + 2 * R.toNat) (ew : w = 47 + 1 * R.toNat) (hmt : Mt x (A M 219 36) M) (qc : cd = 0) (d1 : Drv N2 a b m lg) (d2 : lg m / 2 = A N2 228 b) (d3 : m = 0 → 0 < ahd_ N2 a b (lg 0)) (e9 : N9 = W_ N8 0 9 (R + 1)) (y5 : Ch (rt :: (rt + 1) :: sB) [] N2 N7) (y6 : Ch [w, 43, 44, 45, 57] [(42, 2)] N7 N8) (y7 : Lks N7 N8 R w lg m) (i7 : Imk N7) (g0 : A N7 rt 0 = a) (g1 : A N7 rt 1 = b) (g2 : A N7 rt 2 = toD N2) (g3 : A N7 rt 3 = hour) (g5 : A N7 rt 5 = m + 1) (g6 : A N7 rt 6 = twT N2 a b m lg) (g7 : A N7 rt 7 = feT N2 a b hour m lg) (gl : ∀ j : Int, 0 ≤ j → j ≤ m → A N7 (rt + 1) j = lg j)
    (om : ∀ N : am_M, Mt x (A M 219 36) N → ∃ N' : am_M, F 236 0 [.ref 219] [] N = some (some (.int (iI (-1))), N') ∧ Ch [266, 267] [(219, 75), (219, 76), (219, 77), (219, 78), (219, 81), (219, 82)] N N' ∧ A N' 219 81 = 1 - fd ∧ A N' 219 82 = 1 - rtd ∧ A N' 219 78 = m ∧ ∀ j : Int, 0 ≤ j → j < m → A N' 266 j = how j ∧ J N' 267 j = wd j)
    (dm : ∀ M1 X : am_M, Bs N2 M1 → Ag M1 X → A X 219 81 = 1 - fd → A X 219 82 = 1 - rtd → A X 219 78 = m → (∀ j : Int, 0 ≤ j → j < m → A X 266 j = how j ∧ J X 267 j = wd j) → ∃ (e v : Int) (X3 X' : am_M), e = 2 * A X 228 a + fd ∧ X3 = W_ X 268 0 e ∧ A X3 268 0 = e ∧ A X3 219 14 = toD N2 ∧ F 184 0 [.ref 219, .int (iI e), .int (iI (toD N2)), .int (iI hour), .int (iI (toD N2))] [] X3 = some (some (.int (iI v)), X3) ∧ Ch [268] [] X X' ∧ Ag M1 X' ∧ (v = 0 ∧ cd = 1 ∧ X' = X3 ∨ v = 1 ∧ (¬ cd = 0 → F 252 124 [.ref 219, .int (iI a), .int (iI b), .int (iI hour), .int (iI 1)] [] X3 = some (some (.int (iI (-1000 - cd))), X')) ∧ (cd = 0 → (∀ j : Int, 0 ≤ j → j ≤ m → A X' 268 j = lg j) ∧ ∀ (Y : am_M) (y : Int), F 186 0 [.ref 219, .int (iI a), .int (iI b), .int (iI hour)] [] X' = some (none, Y) → A Y 219 37 = y → 0 ≤ y → y ≤ 100 → F 252 124 [.ref 219, .int (iI a), .int (iI b), .int (iI hour), .int (iI 1)] [] X3 = some (some (.int (iI (y - 1))), Y)))) :
    ∃ Y : am_M, F 252 0 [.ref 219, .int (iI a), .int (iI b), .int (iI hour)] [] N9 = some (some (.int (iI R)), Y) ∧ Inv Y := by
  have hI' := hI
  obtain ⟨h1, h2, h3, h4, h5, h6, h7, h8, h9, h10, h11, h12, h13, h14, h15, h16, h17, h18, h19, hm, ht⟩ := hI
  have rt9 : 91 ≤ rt := by omega
  have rt1 : rt < 110 := by omega
  have w47 : 47 ≤ w := by omega
  have w57 : w < 57 := by omega
  obtain ⟨cM9, c29, f37, f36⟩ := say_fr rt9 rt1 w47 w57 c12 y5 y6 e9
  have cK9 : Ch kW kQ M N9 := cM9.sub (kW_f rt9 rt1 w47 w57)
  have nWe : nW N2 = nW M := c12.f (a := 219) (z := 4) rfl
  have nD9 : nD N9 = nD M := cK9.f (a := 219) (z := 10) rfl
  obtain ⟨X2, X', z1, z2, z3, z4, -, -, z6⟩ := say_m hF hg o2 (N := N9) (M := N2) (a := a) (b := b) (hour := hour) (cd := cd) (m := m) (lg := lg) (cK9.i4 rfl h4) (by rw [nD9]; exact da) (by rw [nD9]; exact db) q2 hv (by rw [f37, hR]; omega) ⟨f36, fun p p0 p1 => (cK9.a (a := 246) rfl).trans (hmt.2 p p0 p1)⟩ (by omega) om (fun X hX => bs_ch (c29.trans (hX.mono rfl)) rfl rfl rfl rfl rfl rfl rfl rfl (c12.i1 rfl h1) (c12.i2 rfl h2) (c12.i4 rfl h4) (c12.i5 rfl h5) (c12.i6 rfl h6) (c12.i7 rfl h7) (c12.i8 rfl h8)) dm
  obtain ⟨z7, z8⟩ := z6 qc
  have cX : Ch kW kQ M X' := (cK9.trans (z1.mono rfl)).trans (z2.mono rfl)
  have sX : Sm N2 X' := ((c29.trans (z1.mono rfl)).trans (z2.mono rfl)).sm rfl
  have nDX : nD X' = nD M := cX.f (a := 219) (z := 10) rfl
  have x37 : A X' 219 37 = R := by
    rw [z2.f (a := 219) (z := 37) rfl, z1.f (a := 219) (z := 37) rfl, f37, hR]
  have x78 : A X' 219 78 = m := (z2.f (a := 219) (z := 78) rfl).trans z4
  have e228 : ∀ z : Int, A X' 228 z = A N2 228 z := sX.2.2.2.2.2.2.2.2.2.2.2.2.2.2.2.1
  have aX := sX.ahd_E
  obtain ⟨Y, b1, b2, b3, b4, ⟨b5, b6, b7, b8, b9, b10⟩, b11, b12, b13, b14⟩ := m_keepsSaid hF hg (cX.i1 rfl h1) (cX.i2 rfl h2) (cX.i4 rfl h4) (cX.i8 rfl h8) (hour := hour) hv.1 (by omega) da.1 (by omega) db.1 (by omega) m0 m1 R0 R1 (drv_sm sX d1) (by rw [e228]; exact d2) (fun q => by rw [aX]; exact d3 q) x37 x78 z7
  rw [sm_feT sX] at b9
  rw [sm_twT sX] at b10
  have tdX : toD X' = toD N2 := sX.2.2.2.1
  rw [tdX] at b7
  have fin := z8 Y (R + 1) b1 b3 (by omega) (by omega)
  rw [show R + 1 - 1 = R by omega] at fin
  refine ⟨Y, fin, ?_⟩
  -- all that holds
  have u9 : Ch [247, 248, 249, 266, 267, 268] fQ N9 Y := ((z1.mono rfl).trans (z2.mono rfl)).trans (b2.mono rfl)
  have c8Y : Ch [247, 248, 249, 266, 267, 268] fQ N8 Y := by
    refine Ch.trans ?_ u9
    rw [e9]; exact Ch.refl.wm (Or.inr (by decide))
  have cf : Ch (rt :: (rt + 1) :: w :: kB) kQ M Y := cM9.trans ((u9.mono (W' := kB) (Q' := kQ) rfl).sub (fun y hy => List.mem_cons_of_mem _ (List.mem_cons_of_mem _ (List.mem_cons_of_mem _ hy))))
  have cY : Ch kW kQ M Y := cf.sub (kW_f rt9 rt1 w47 w57)
  have rY : ∀ (c : Nat) (z : Int), 1 ≤ c → c ≤ 218 → A Y c z = A N8 c z := fun c z c0 c1 => congrArg Int32.toInt (c8Y c z.toNat (by
    simp only [List.mem_cons, List.not_mem_nil, or_false]; omega) (by
    unfold fQ
    simp only [List.mem_cons, Prod.mk.injEq, List.not_mem_nil, or_false]; omega)).1
  have r8 : ∀ (c : Nat) (z : Int), 91 ≤ c → c ≤ 218 → A Y c z = A N7 c z := fun c z c0 c1 => (rY c z (by omega) c1).trans (congrArg Int32.toInt (y6 c z.toNat (by
    simp only [List.mem_cons, List.not_mem_nil, or_false]; omega) (by
    simp only [List.mem_singleton, Prod.mk.injEq]; omega)).1)
  have c7 : Ch (rt :: (rt + 1) :: sB) [(61, 1), (61, 2), (63, 0), (63, 1), (63, 2)] M N7 := by
    refine (c12.sub (fun y hy => ?_)).trans y5.more
    unfold sB
    simp only [List.mem_cons, List.not_mem_nil, or_false] at hy ⊢
    omega
  have r7 : ∀ (c : Nat) (z : Int), 38 ≤ c → c < 61 → A N7 c z = A M c z := fun c z c0 c1 => congrArg Int32.toInt (c7 c z.toNat (by
    unfold sB
    simp only [List.mem_cons, List.not_mem_nil, or_false]; omega) (by
    simp only [List.mem_cons, Prod.mk.injEq, List.not_mem_nil, or_false]; omega)).1
  have rX : ∀ (c : Nat) (z : Int), c = 247 ∨ c = 248 ∨ c = 249 → A X' c z = A M c z := fun c z hc => by
    have u1 : A X' c z = A N9 c z := by
      rcases hc with e | e | e <;> subst e <;> exact (z2.a rfl).trans (z1.a rfl)
    have u2 : A N9 c z = A N7 c z := by
      rw [e9, A_Wn (by omega)]
      exact congrArg Int32.toInt (y6 c z.toNat (by simp only [List.mem_cons, List.not_mem_nil, or_false]; omega) (by simp only [List.mem_singleton, Prod.mk.injEq]; omega)).1
    have u3 : A N7 c z = A M c z := congrArg Int32.toInt (c7 c z.toNat (by
      unfold sB
      simp only [List.mem_cons, List.not_mem_nil, or_false]; omega) (by
      simp only [List.mem_cons, Prod.mk.injEq, List.not_mem_nil, or_false]; omega)).1
    rw [u1, u2, u3]
  have lks : Lks M Y R w lg m := Lks_c y7 (r7 42 2 (by omega) (by omega)) (fun z => r7 45 z (by omega) (by omega)) (fun z => r7 57 z (by omega) (by omega)) (rY 42 2 (by omega) (by omega)) (fun c z hc => rY c z (by omega) (by omega))
  have a9 : A N9 0 9 = R + 1 := by rw [e9]; exact A_Ws (by omega) (by omega)
  have y9 : A Y 0 9 = R + 1 := by
    rw [b2.f (a := 0) (z := 9) rfl, z2.f (a := 0) (z := 9) rfl, z1.f (a := 0) (z := 9) rfl]; exact a9
  have i5 : Imk Y := by
    have u8 : Ch (rt :: (rt + 1) :: w :: nB) kQ N7 N8 := y6.fit (fun y hy => by
      unfold nB
      simp only [List.mem_cons, List.not_mem_nil, or_false] at hy ⊢
      omega) rfl
    have u9 : Ch (rt :: (rt + 1) :: w :: nB) kQ N8 Y := c8Y.fit (fun y hy => by
      unfold nB
      simp only [List.mem_cons, List.not_mem_nil, or_false] at hy ⊢
      omega) rfl
    exact ((u8.trans u9).sub (nW_f rt9 rt1 w47 w57)).imk rfl i7
  have z61' : A Y 61 1 = 0 := by
    rw [rY 61 1 (by omega) (by omega)]
    refine (congrArg Int32.toInt (y6 61 (1 : Int).toNat (by simp only [List.mem_cons, List.not_mem_nil, or_false]; omega) (by decide)).1).trans ?_
    exact (congrArg Int32.toInt (y5 61 (1 : Int).toNat (by unfold sB; simp only [List.mem_cons, List.not_mem_nil, or_false]; omega) (List.not_mem_nil)).1).trans z61
  have fin := say_inv h2 h13 h14 h15 hR R1 ert ew m0 m1 (fun j j0 j1 => by rw [← nWe]; exact d1.1 j j0 j1) cf (fun y hy => by
    unfold kB at hy
    simp only [List.mem_cons, List.not_mem_nil, or_false] at hy
    omega) kQ_1 (cY.f (a := 219) (z := 4) rfl) (cY.f (a := 219) (z := 41) rfl) (cY.f (a := 0) (z := 11) rfl) b3 y9 (by rw [r8 _ _ (by omega) (by omega)]; exact g5) (fun j j0 j1 => by rw [r8 _ _ (by omega) (by omega)]; exact gl j j0 j1) (by rw [b5, r8 _ _ (by omega) (by omega)]; exact g0) (by rw [b6, r8 _ _ (by omega) (by omega)]; exact g1) (by rw [b7, r8 _ _ (by omega) (by omega)]; exact g2) (by rw [b8, r8 _ _ (by omega) (by omega)]; exact g3) (by rw [b9, r8 _ _ (by omega) (by omega)]; exact g7) (by rw [b10, r8 _ _ (by omega) (by omega)]; exact g6) b4 b11 (fun z z0 z1 => by rw [b12 z z0 z1, rX _ _ (Or.inl rfl)]) (fun z z0 z1 => by rw [b13 z z0 z1, rX _ _ (Or.inr (Or.inl rfl))]) (fun z z0 z1 => by rw [b14 z z0 z1, rX _ _ (Or.inr (Or.inr rfl))]) lks
  exact say_yes hI' cY fin i5 (by rw [b2.f (a := 219) (z := 36) rfl, z2.f (a := 219) (z := 36) rfl]; exact z3) z61'
theorem say_D (hF : F = am_F T0 g) (hg : GG g) (hI : Inv M) {N2 N6 : am_M} {a b hour m fd rtd R cd : Int} {rt : Nat} {x how wd lg : Int → Int} (c12 : Ch [64, 65] [(61, 1), (61, 2), (63, 0), (63, 1), (63, 2)] M N2) (z61 : A N2 61 1 = 0) (da : 0 ≤ a ∧ a ≤ nD M - 1) (db : 0 ≤ b ∧ b ≤ nD M - 1) (q2 : ¬ a = b) (hv : 0 ≤ hour ∧ hour ≤ 23) (o2 : fd = 0 ∨ fd = 1) (hR : A M 219 37 = R) (R0 : 0 ≤ R) (R1 : R < 10) (ert : rt = 91 + 2 * R.toNat) (hmt : Mt x (A M 219 36) M) (cd0 : 0 ≤ cd ∧ cd ≤ 300) (qc : ¬ cd = 0) (cB : Ch (rt :: (rt + 1) :: sB) [] N2 N6) (i6 : Imk N6)
    (om : ∀ N : am_M, Mt x (A M 219 36) N → ∃ N' : am_M, F 236 0 [.ref 219] [] N = some (some (.int (iI (-1))), N') ∧ Ch [266, 267] [(219, 75), (219, 76), (219, 77), (219, 78), (219, 81), (219, 82)] N N' ∧ A N' 219 81 = 1 - fd ∧ A N' 219 82 = 1 - rtd ∧ A N' 219 78 = m ∧ ∀ j : Int, 0 ≤ j → j < m → A N' 266 j = how j ∧ J N' 267 j = wd j)
    (dm : ∀ M1 X : am_M, Bs N2 M1 → Ag M1 X → A X 219 81 = 1 - fd → A X 219 82 = 1 - rtd → A X 219 78 = m → (∀ j : Int, 0 ≤ j → j < m → A X 266 j = how j ∧ J X 267 j = wd j) → ∃ (e v : Int) (X3 X' : am_M), e = 2 * A X 228 a + fd ∧ X3 = W_ X 268 0 e ∧ A X3 268 0 = e ∧ A X3 219 14 = toD N2 ∧ F 184 0 [.ref 219, .int (iI e), .int (iI (toD N2)), .int (iI hour), .int (iI (toD N2))] [] X3 = some (some (.int (iI v)), X3) ∧ Ch [268] [] X X' ∧ Ag M1 X' ∧ (v = 0 ∧ cd = 1 ∧ X' = X3 ∨ v = 1 ∧ (¬ cd = 0 → F 252 124 [.ref 219, .int (iI a), .int (iI b), .int (iI hour), .int (iI 1)] [] X3 = some (some (.int (iI (-1000 - cd))), X')) ∧ (cd = 0 → (∀ j : Int, 0 ≤ j → j ≤ m → A X' 268 j = lg j) ∧ ∀ (Y : am_M) (y : Int), F 186 0 [.ref 219, .int (iI a), .int (iI b), .int (iI hour)] [] X' = some (none, Y) → A Y 219 37 = y → 0 ≤ y → y ≤ 100 → F 252 124 [.ref 219, .int (iI a), .int (iI b), .int (iI hour), .int (iI 1)] [] X3 = some (some (.int (iI (y - 1))), Y)))) :
    ∃ Y : am_M, F 252 0 [.ref 219, .int (iI a), .int (iI b), .int (iI hour)] [] N6 = some (some (.int (iI (-1000 - cd))), Y) ∧ Inv Y := by
  have hI' := hI
  obtain ⟨h1, h2, h3, h4, h5, h6, h7, h8, h9, h10, h11, h12, h13, h14, h15, h16, h17, h18, h19, hm, ht⟩ := hI
  have rt9 : 91 ≤ rt := by omega
  have rt1 : rt < 110 := by omega
  have cM6 : Ch (rt :: (rt + 1) :: sB) sQ M N6 := by
    refine (c12.fit (fun y hy => ?_) rfl).trans cB.more
    unfold sB
    simp only [List.mem_cons, List.not_mem_nil, or_false] at hy ⊢
    omega
  have cS6 : Ch sW sQ M N6 := cM6.sub (sW_f rt9 rt1)
  have c26 : Ch sW sQ N2 N6 := cB.more.sub (sW_f rt9 rt1)
  have nD6 : nD N6 = nD M := cS6.f (a := 219) (z := 10) rfl
  have e37 : A N6 219 37 = A M 219 37 := cS6.f (a := 219) (z := 37) rfl
  have e36 : A N6 219 36 = A M 219 36 := by
    refine (congrArg Int32.toInt (cB 219 (36 : Int).toNat (by unfold sB; simp only [List.mem_cons, List.not_mem_nil, or_false]; omega) (List.not_mem_nil)).1).trans ?_
    exact c12.f (a := 219) (z := 36) rfl
  obtain ⟨X2, X', z1, z2, z3, z4, -, z6, -⟩ := say_m hF hg o2 (N := N6) (M := N2) (a := a) (b := b) (hour := hour) (cd := cd) (m := m) (lg := lg) (cS6.i4 rfl h4) (by rw [nD6]; exact da) (by rw [nD6]; exact db) q2 hv (by rw [e37, hR]; omega) ⟨e36, fun p p0 p1 => (cS6.a (a := 246) rfl).trans (hmt.2 p p0 p1)⟩ cd0 om (fun X hX => bs_ch (c26.trans (hX.mono rfl)) rfl rfl rfl rfl rfl rfl rfl rfl (c12.i1 rfl h1) (c12.i2 rfl h2) (c12.i4 rfl h4) (c12.i5 rfl h5) (c12.i6 rfl h6) (c12.i7 rfl h7) (c12.i8 rfl h8)) dm
  have cX : Ch sW sQ M X' := (cS6.trans (z1.mono rfl)).trans (z2.mono rfl)
  have u6 : Ch [266, 267, 268] mQ N6 X' := (z1.mono rfl).trans (z2.mono rfl)
  refine ⟨X', z6 qc, say_no hI' cX (i13_old h13 h2 hR ert (fun c z c0 c1 c2 c3 => ?_) cX) (u6.imk rfl i6) ((z2.f (a := 219) (z := 36) rfl).trans z3) ?_⟩
  · refine (congrArg Int32.toInt (u6 c z.toNat (by simp only [List.mem_cons, List.not_mem_nil, or_false]; omega) (by
        unfold mQ
        simp only [List.mem_cons, Prod.mk.injEq, List.not_mem_nil, or_false]; omega)).1).trans ?_
    exact congrArg Int32.toInt (cM6 c z.toNat (by unfold sB; simp only [List.mem_cons, List.not_mem_nil, or_false]; omega) (by
        unfold sQ
        simp only [List.mem_cons, Prod.mk.injEq, List.not_mem_nil, or_false]; omega)).1
  · refine (u6.f (a := 61) (z := 1) rfl).trans ?_
    exact (congrArg Int32.toInt (cB 61 (1 : Int).toNat (by unfold sB; simp only [List.mem_cons, List.not_mem_nil, or_false]; omega) (List.not_mem_nil)).1).trans z61
end Bk
