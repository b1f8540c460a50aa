/-! SAY, asked of both: the end -/
section Bz
variable {M N X Y : am_M} {g : am_G} {F : am_FT}
def nB : List Nat := [37, 43, 44, 45, 57, 64, 65, 247, 248, 249, 266, 267, 268]
def nW_L : List Nat := nB ++ (List.range' 47 10 ++ List.range' 91 20)
theorem nW_f {rt w : Nat} (h : 91 ≤ rt) (h2 : rt < 110) (h3 : 47 ≤ w) (h4 : w < 57) : ∀ b : Nat, b ∈ rt :: (rt + 1) :: w :: nB → b ∈ nW_L := fun b hb => by
  unfold nW_L
  rcases List.mem_cons.mp hb with e | hb
  · rw [e]; exact List.mem_append.mpr (Or.inr (List.mem_append.mpr (Or.inr (mRg h (by omega)))))
  rcases List.mem_cons.mp hb with e | hb
  · rw [e]; exact List.mem_append.mpr (Or.inr (List.mem_append.mpr (Or.inr (mRg (by omega) (by omega)))))
  rcases List.mem_cons.mp hb with e | hb
  · rw [e]; exact List.mem_append.mpr (Or.inr (List.mem_append.mpr (Or.inl (mRg h3 (by omega)))))
  exact List.mem_append.mpr (Or.inl hb)
/-- the same rows, more cells -/
theorem Ch.more {W : List Nat} {Q' : List (Nat × Nat)} (h : Ch W [] M N) : Ch W Q' M N := fun a k ha _ => h a k ha (List.not_mem_nil)
theorem kQ_1 : ∀ q : Nat × Nat, q ∈ kQ → q.1 < 47 ∨ q.1 = 61 ∨ q.1 = 63 ∨ q.1 = 219 := by decide
theorem drv_sm (h : Sm M X) {a b m : Int} {lg : Int → Int} (d : Drv M a b m lg) : Drv X a b m lg := by
  obtain ⟨d1, d2, d3⟩ := d
  have e228 : ∀ z : Int, A X 228 z = A M 228 z := h.2.2.2.2.2.2.2.2.2.2.2.2.2.2.2.1
  refine ⟨fun j j0 j1 => by rw [h.nWE]; exact d1 j j0 j1, fun j j0 j1 => by rw [h.folE]; exact d2 j j0 j1, by rw [e228]; exact d3⟩
theorem sm_twT (h : Sm M X) {a b m : Int} {lg : Int → Int} : twT X a b m lg = twT M a b m lg := sm_tws h _ _
theorem sm_feT (h : Sm M X) {a b hour m : Int} {lg : Int → Int} : feT X a b hour m lg = feT M a b hour m lg := by
  have e1 := h.ahd_E
  have e2 := h.fdrE
  have e3 := h.tdrE
  have e4 := sm_fes h (hour := hour) (lg := lg) m.toNat 0
  unfold feT
  rw [e1, e2, e3, e4]
/-- the component keeps a run -/
theorem say_k (hF : F = am_F T0 g) (hg : GG g) (h1 : I1 M) (h2 : I2 M) (h4 : I4 M) (h14 : L14 M) {a b hour m R : Int} {rt w : Nat} {lg : Int → Int} (v0 : 0 ≤ hour) (v1 : hour < 24) (a0 : 0 ≤ a) (a1 : a < nD M) (b0 : 0 ≤ b) (b1 : b < nD M) (m0 : 0 ≤ m) (m1 : m ≤ 20) (R0 : 0 ≤ R) (R1 : R < 10) (hrt : rt = 91 + 2 * R.toNat) (hw : w = 47 + 1 * R.toNat) (h42 : 0 ≤ A M 42 2 ∧ A M 42 2 ≤ 20 * R) (h9 : A M 0 9 = R) (hD : Drv M a b m lg) (hE : lg m / 2 = A M 228 b) (hA : Ag M N) (hc : Ch (rt :: (rt + 1) :: sB) [] M N) (h34 : ∀ w : Int, 0 ≤ w → w < nW M → A N 34 w = prc M w hour) (hL : A N rt 5 = m + 1) (ha : A N rt 0 = a) (hb : A N rt 1 = b) (hleg : ∀ j : Int, 0 ≤ j → j ≤ m → A N (rt + 1) j = lg j) :
    ∃ N7 N8 : am_M, F 169 0 [.ref 32, .ref rt] [] N = some (none, N7) ∧ A N7 0 9 = R ∧ F 174 0 [.ref 42, .int (iI R), .ref rt] [] N7 = some (none, N8) ∧ A N8 0 9 = R ∧ Ch (rt :: (rt + 1) :: sB) [] M N7 ∧ Ch [w, 43, 44, 45, 57] [(42, 2)] N7 N8 ∧ Lks N7 N8 R w lg m ∧ Ke [37, rt, rt + 1] N N7 ∧ A N7 rt 6 = twT M a b m lg ∧ A N7 rt 7 = feT M a b hour m lg ∧ (∀ z : Int, A N7 (rt + 1) z = A N (rt + 1) z) ∧ ∀ z : Int, 0 ≤ z → z ≠ 6 → z ≠ 7 → A N7 rt z = A N rt z := by
  have hn := h2.1
  have hr := rok_91 hg (r := R.toNat) (by omega)
  rw [← hrt] at hr
  obtain ⟨N7, t1, t2, t3, t4, t5, t6⟩ := c_measureS hF hg hr h1 h2 h4 v0 v1 a0 a1 b0 b1 m0 m1 hD hE hA h34 hL ha hb hleg
  have c7 : Ch (rt :: (rt + 1) :: sB) [] M N7 := hc.trans (t2.ch.sub (fun x hx => by
    unfold sB
    simp only [List.mem_cons, List.not_mem_nil, or_false] at hx ⊢
    omega))
  have rd : ∀ (c : Nat) (z : Int), c < 58 → ¬ (32 ≤ c ∧ c ≤ 37) → A N7 c z = A M c z := fun c z c0 c1 => congrArg Int32.toInt (c7 c z.toNat (by
    unfold sB
    simp only [List.mem_cons, List.not_mem_nil, or_false]; omega) (List.not_mem_nil)).1
  have e43 : ∀ z : Int, A N7 43 z = A M 43 z := fun z => rd 43 z (by omega) (by omega)
  have e44 : ∀ z : Int, A N7 44 z = A M 44 z := fun z => rd 44 z (by omega) (by omega)
  have e45 : ∀ z : Int, A N7 45 z = A M 45 z := fun z => rd 45 z (by omega) (by omega)
  have e42 : A N7 42 2 = A M 42 2 := rd 42 2 (by omega) (by omega)
  have l7 : L14 N7 := by
    unfold L14
    simp only [e42, e43, e44, e45]
    exact h14
  obtain ⟨N8, u1, u2, u3⟩ := c_addRun hF hg hr.1 (lg := lg) hw R0 R1 m0 m1 (by omega) (fun j j0 j1 => by have := hD.1 j j0 j1; omega) (by rw [t6 5 (by omega) (by omega) (by omega)]; exact hL) (fun j j0 j1 => by rw [t5]; exact hleg j j0 j1) l7 (by rw [e42]; exact h42)
  have g9 : A N7 0 9 = R := (rd 0 9 (by omega) (by omega)).trans h9
  exact ⟨N7, N8, t1, g9, u1, (congrArg Int32.toInt (u2 0 (9 : Int).toNat (by
    simp only [List.mem_cons, List.not_mem_nil, or_false]; omega) (by decide)).1).trans g9, c7, u2, u3, t2, t3, t4, t5, t6⟩
/-- the component's way behind the text -/
def sayT (F : am_FT) (a b hour ft : Int32) (N : am_M) : Option am_R :=
  if ft < 0 then
    am_cv (F 218 0 [.ref 32, .int (fI N 18 0), .int hour, .int (fI N 18 0)] [] N) fun M8 =>
    am_ok 10 ((fI M8 0 9)) <|
    am_cv (F 67 0 [.ref (91 + 2 * ((fI M8 0 9)).toNatClampNeg), .int a, .int b] [] M8) fun M9 =>
    am_cv (F 69 0 [.ref (91 + 2 * ((fI M8 0 9)).toNatClampNeg), .int (fI M9 18 0), .int hour] [] M9) fun M10 =>
    am_ci (F 249 0 [.ref 32, .ref 63, .ref (91 + 2 * ((fI M8 0 9)).toNatClampNeg)] [] M10) fun x12 M11 =>
    if x12 = 0 then
      am_cv (F 169 0 [.ref 32, .ref (91 + 2 * ((fI M8 0 9)).toNatClampNeg)] [] M11) fun M13 =>
      am_cv (F 174 0 [.ref 42, .int (fI M13 0 9), .ref (91 + 2 * ((fI M8 0 9)).toNatClampNeg)] [] M13) fun M14 =>
      am_lt (fW M14 0 9 (((fI M14 0 9) + 1))) fun M15 =>
      am_rt 1 (((fI M15 0 9) - 1)) M15
    else
      am_rt 1 (((-1000) - x12)) M11
  else
    am_rt 1 (((-100) - ft)) N
theorem say_g (hF : F = am_F T0 g) (hg : GG g) {a b hour ft : Int} {N1 N2 : am_M} {R : am_R} (a1 : -2147483648 ≤ a) (a2 : a < 2147483648) (b1 : -2147483648 ≤ b) (b2 : b < 2147483648) (hab : ¬ a = b) (cd : F 149 0 [.ref 0, .int (iI a), .int (iI b)] [] M = some (some (.int (iI 0)), M)) (ch : F 150 0 [.int (iI hour)] [] M = some (some (.int (iI 0)), M)) (r9 : A M 0 9 < 10) (c1 : F 231 0 [.ref 63, .ref 61] [] M = some (some (.int (iI ft)), N1)) (cl : F 78 0 [.ref 61] [] N1 = some (none, N2)) (hT : sayT F (iI a) (iI b) (iI hour) (iI ft) N2 = some R) : F 263 0 [.ref 0, .int (iI a), .int (iI b), .int (iI hour)] [] M = some R := by
  have hab' : ¬ (iI a : Int32) = iI b := by
    rw [i_eq, iI_v a1 a2, iI_v b1 b2]
    exact hab
  have q9 : fI M 0 9 < 10 := by
    rw [fd_i, show (10 : Int32) = iI 10 from rfl, i_lt, iI_A, iI_v (by omega) (by omega)]
    exact r9
  refine s_RunSayer_say hF hg ?_
  refine ci_in cd ?_
  rw [if_pos tr_e00, if_neg hab']
  refine ci_in ch ?_
  rw [if_pos tr_e00, if_pos q9]
  refine ci_in c1 ?_
  refine cv_in cl ?_
  exact hT
theorem m1_lt : (iI (-1) : Int32) < 0 := by decide
theorem say_t {a b hour td R cd : Int} {rt : Nat} {N2 N3 N4 N5 N6 : am_M} {Z : Option am_R} (hrt : rt = 91 + 2 * R.toNat) (R0 : 0 ≤ R) (R1 : R < 10) (g18 : A N2 18 0 = td) (s1 : F 218 0 [.ref 32, .int (iI td), .int (iI hour), .int (iI td)] [] N2 = some (none, N3)) (s2 : A N3 0 9 = R) (s3 : F 67 0 [.ref rt, .int (iI a), .int (iI b)] [] N3 = some (none, N4)) (s4 : A N4 18 0 = td) (s5 : F 69 0 [.ref rt, .int (iI td), .int (iI hour)] [] N4 = some (none, N5)) (t1 : F 249 0 [.ref 32, .ref 63, .ref rt] [] N5 = some (some (.int (iI cd)), N6))
    (hZ : (if (iI cd : Int32) = 0 then
      am_cv (F 169 0 [.ref 32, .ref rt] [] N6) fun M13 =>
      am_cv (F 174 0 [.ref 42, .int (fI M13 0 9), .ref rt] [] M13) fun M14 =>
      am_lt (fW M14 0 9 (((fI M14 0 9) + 1))) fun M15 =>
      am_rt 1 (((fI M15 0 9) - 1)) M15
    else
      am_rt 1 (((-1000) - (iI cd))) N6) = Z) (hZ' : ∃ R : am_R, Z = some R) : sayT F (iI a) (iI b) (iI hour) (iI (-1)) N2 = Z := by
  obtain ⟨R', eR'⟩ := hZ'
  rw [eR'] at hZ ⊢
  have q18 : fI N2 18 0 = iI td := by rw [fd_i, g18]
  have q9 : fI N3 0 9 = iI R := by rw [fd_i, s2]
  have q4 : fI N4 18 0 = iI td := by rw [fd_i, s4]
  have e : 91 + 2 * (iI R).toNatClampNeg = rt := by rw [iI_n (by omega) (by omega)]; exact hrt.symm
  unfold sayT
  rw [if_pos m1_lt, q18]
  refine cv_in s1 ?_
  rw [q9, e]
  refine ok_in rfl R0 (by omega) (by omega) ?_
  refine cv_in s3 ?_
  rw [q4]
  refine cv_in s5 ?_
  refine ci_in t1 ?_
  exact hZ
/-- what the component does once the text is read -/
theorem say_C (hF : F = am_F T0 g) (hg : GG g) {N2 : am_M} (k1 : I1 N2) (k2 : I2 N2) (k4 : I4 N2) (k6 : I6 N2) (k7 : I7 N2) (k8 : I8 N2) (km : Imk N2) (l3 : L14 N2) {a b hour m fd rtd R cd : Int} {rt w : Nat} {how wd lg : Int → Int} (v0 : 0 ≤ hour) (v1 : hour < 24) (a0 : 0 ≤ a) (a1 : a < nD N2) (b0 : 0 ≤ b) (b1 : b < nD N2) (m0 : 0 ≤ m) (m1 : m ≤ 20) (R0 : 0 ≤ R) (R1 : R < 10) (ert : rt = 91 + 2 * R.toNat) (ew : w = 47 + 1 * R.toNat) (h42 : 0 ≤ A N2 42 2 ∧ A N2 42 2 ≤ 20 * R) (g9 : A N2 0 9 = R) (w1 : A N2 63 0 = fd) (w2 : A N2 63 1 = rtd) (w3 : A N2 63 2 = m) (w4 : ∀ j : Int, 0 ≤ j → j < m → A N2 64 j = how j ∧ J N2 65 j = wd j) (p1 : 0 ≤ cd ∧ cd ≤ 300) (p2 : cd = 0 → Drv N2 a b m lg ∧ lg m / 2 = A N2 228 b ∧ (m = 0 → 0 < ahd_ N2 a b (lg 0)))
    (pc : ∀ N : am_M, Ag N2 N → fset N2 (-1, toD N2, hour, toD N2) N → A N 63 0 = fd → A N 63 1 = rtd → A N 63 2 = m → (∀ j : Int, 0 ≤ j → j < m → A N 64 j = how j ∧ J N 65 j = wd j) → A N rt 5 = 0 → A N rt 0 = a → A N rt 1 = b → ∃ N' : am_M, F 249 0 [.ref 32, .ref 63, .ref rt] [] N = some (some (.int (iI cd)), N') ∧ Ke [rt, rt + 1] N N' ∧ (∀ z : Int, 0 ≤ z → ¬ z = 5 → A N' rt z = A N rt z) ∧ (cd = 0 → A N' rt 5 = m + 1 ∧ ∀ j : Int, 0 ≤ j → j ≤ m → A N' (rt + 1) j = lg j)) :
    (¬ cd = 0 → ∃ N6 : am_M, sayT F (iI a) (iI b) (iI hour) (iI (-1)) N2 = some (some (.int (iI (-1000 - cd))), N6) ∧ Ch (rt :: (rt + 1) :: sB) [] N2 N6 ∧ Imk N6) ∧
    (cd = 0 → ∃ N7 N8 N9 : am_M, sayT F (iI a) (iI b) (iI hour) (iI (-1)) N2 = some (some (.int (iI R)), N9) ∧ N9 = W_ N8 0 9 (R + 1) ∧ Ch (rt :: (rt + 1) :: sB) [] N2 N7 ∧ Ch [w, 43, 44, 45, 57] [(42, 2)] N7 N8 ∧ Lks N7 N8 R w lg m ∧ Imk N7 ∧ (A N7 rt 0 = a ∧ A N7 rt 1 = b ∧ A N7 rt 2 = toD N2 ∧ A N7 rt 3 = hour ∧ A N7 rt 5 = m + 1 ∧ A N7 rt 6 = twT N2 a b m lg ∧ A N7 rt 7 = feT N2 a b hour m lg) ∧ ∀ j : Int, 0 ≤ j → j ≤ m → A N7 (rt + 1) j = lg j) := by
  have hn := k2.1
  have hd := k4.1
  have hr := rok_91 hg (r := R.toNat) (by omega)
  rw [← ert] at hr
  have rt9 : 91 ≤ rt := by omega
  have rt1 : rt < 110 := by omega
  have g18 : A N2 18 0 = toD N2 := k8.2
  obtain ⟨N3, N4, N5, s1, s2, s3, s4, s5, s6, s7, s8, s9, s10, s11, s12, s14⟩ := say_c hF hg k2 k6 k7 k8 km (a := a) (b := b) (hour := hour) v0 v1 g9 R0 R1 ert a0 (by omega) b0 (by omega)
  have r5 : ∀ (c : Nat) (z : Int), 37 ≤ c → c ≠ rt → A N5 c z = A N2 c z := fun c z c0 c1 => s8.a (by simp only [List.mem_cons, List.not_mem_nil, or_false]; omega)
  have j5 : ∀ (c : Nat) (z : Int), 37 ≤ c → c ≠ rt → J N5 c z = J N2 c z := fun c z c0 c1 => s8.j (by simp only [List.mem_cons, List.not_mem_nil, or_false]; omega)
  obtain ⟨N6, t1, t2, t3, t4⟩ := pc N5 s6 s7 (by rw [r5 _ _ (by omega) (by omega)]; exact w1) (by rw [r5 _ _ (by omega) (by omega)]; exact w2) (by rw [r5 _ _ (by omega) (by omega)]; exact w3) (fun j j0 j1 => by rw [r5 _ _ (by omega) (by omega), j5 _ _ (by omega) (by omega)]; exact w4 j j0 j1) s9 s10 s11
  have cB : Ch (rt :: (rt + 1) :: sB) [] N2 N6 := (s8.ch.sub (fun y hy => by
    unfold sB
    simp only [List.mem_cons, List.not_mem_nil, or_false] at hy ⊢
    omega)).trans (t2.ch.sub (fun y hy => by
    simp only [List.mem_cons, List.not_mem_nil, or_false] at hy ⊢
    omega))
  have imk5 : Imk N5 := s7.1
  have i6 : Imk N6 := (t2.ch.sub (W' := List.range' 91 20) (fun y hy => by
    simp only [List.mem_cons, List.not_mem_nil, or_false] at hy
    exact mRg (by omega) (by omega))).imk rfl imk5
  refine ⟨fun qc => ⟨N6, ?_, cB, i6⟩, fun qc => ?_⟩
  · refine say_t ert R0 R1 g18 s1 s2 s3 s4 s5 t1 ?_ ⟨_, rfl⟩
    have qn : ¬ (iI cd : Int32) = 0 := by
      rw [show (0 : Int32) = iI 0 from rfl, i_eq, iI_v (by omega) (by omega), iI_v (by omega) (by omega)]
      exact qc
    rw [if_neg qn, show (-1000 : Int32) = iI (-1000) by decide, iI_sub]
    rfl
  · obtain ⟨v1', v2⟩ := t4 qc
    obtain ⟨d1, d2, d3⟩ := p2 qc
    have A6 : Ag N2 N6 := s6.trans (t2.ag (by show (stN rt && (stN (rt + 1) && true)) = true; rw [hr.2.2.1, hr.2.2.2]; rfl))
    have r6 : ∀ (c : Nat) (z : Int), c ≠ rt → c ≠ rt + 1 → A N6 c z = A N5 c z := fun c z c0 c1 => t2.a (by simp only [List.mem_cons, List.not_mem_nil, or_false]; omega)
    obtain ⟨N7, N8, y1, y2, y3, y4, y5, y6, y7, yK, y8, y9, y10, y11⟩ := say_k hF hg k1 k2 k4 l3 (hour := hour) v0 v1 a0 a1 b0 b1 m0 m1 R0 R1 ert ew h42 g9 d1 d2 A6 cB (fun w w0 w1 => by rw [r6 _ _ (by omega) (by omega)]; exact s7.2.2.1 w w0 w1) v1' (by rw [t3 0 (by omega) (by omega)]; exact s10) (by rw [t3 1 (by omega) (by omega)]; exact s11) v2
    obtain ⟨N9, e9⟩ : ∃ y : am_M, y = W_ N8 0 9 (R + 1) := ⟨_, rfl⟩
    have a9 : A N9 0 9 = R + 1 := by rw [e9]; exact A_Ws (by omega) (by omega)
    have i7 : Imk N7 := (yK.ch.sub (W' := 37 :: List.range' 91 20) (fun y hy => by
      simp only [List.mem_cons, List.not_mem_nil, or_false] at hy ⊢
      rcases hy with e | e | e
      · exact Or.inl e
      · exact Or.inr (mRg (by omega) (by omega))
      · exact Or.inr (mRg (by omega) (by omega)))).imk rfl i6
    refine ⟨N7, N8, N9, ?_, e9, y5, y6, y7, i7, ⟨?_, ?_, ?_, ?_, ?_, y8, y9⟩, fun j j0 j1 => by rw [y10]; exact v2 j j0 j1⟩
    · refine say_t ert R0 R1 g18 s1 s2 s3 s4 s5 t1 ?_ ⟨_, rfl⟩
      have q7 : fI N7 0 9 = iI R := by rw [fd_i, y2]
      have q8 : fW N8 0 9 (fI N8 0 9 + 1) = N9 := by
        rw [fd_i, y4, show (1 : Int32) = iI 1 from rfl, iI_add, fw_i, e9]
      have q9 : fI N9 0 9 - 1 = iI R := by
        rw [fd_i, a9, show (1 : Int32) = iI 1 from rfl, iI_sub, show R + 1 - 1 = R by omega]
      rw [qc, if_pos tr_e00]
      refine cv_in y1 ?_
      rw [q7]
      refine cv_in y3 ?_
      rw [q8, ltm_s, q9]
      rfl
    · rw [y11 0 (by omega) (by omega) (by omega), t3 0 (by omega) (by omega)]; exact s10
    · rw [y11 1 (by omega) (by omega) (by omega), t3 1 (by omega) (by omega)]; exact s11
    · rw [y11 2 (by omega) (by omega) (by omega), t3 2 (by omega) (by omega)]; exact s12
    · rw [y11 3 (by omega) (by omega) (by omega), t3 3 (by omega) (by omega)]; exact s14
    · rw [y11 5 (by omega) (by omega) (by omega)]; exact v1'
end Bz
