/-! A TEST of a rule, read by both -/
/-- the field that begins so: the last one, if none does -/
def fld (c : Int) : Int := if c = 115 then 0 else if c = 119 then 1 else if c = 111 then 2 else if c = 116 then 3 else if c = 102 then 4 else 5
theorem fld_r (c : Int) : 0 ≤ fld c ∧ fld c ≤ 5 := by
  unfold fld
  (repeat' split) <;> omega
/-- the first letter of a field's name -/
def fl1 (f : Nat) : Int := (tx (2 + f)).getD 0 0
theorem fl1_h : ∀ f : Nat, f < 6 → ∃ cs : List Int, tx (2 + f) = fl1 f :: cs
  | 0, _ => ⟨_, rfl⟩
  | 1, _ => ⟨_, rfl⟩
  | 2, _ => ⟨_, rfl⟩
  | 3, _ => ⟨_, rfl⟩
  | 4, _ => ⟨_, rfl⟩
  | 5, _ => ⟨_, rfl⟩
  | n + 6, h => by omega
theorem fld_n {c : Int} {f : Nat} (h : (f : Int) < fld c) : ¬ c = fl1 f := by
  have hf := fld_r c
  have h5 : f = 0 ∨ f = 1 ∨ f = 2 ∨ f = 3 ∨ f = 4 := by omega
  have v0 : fl1 0 = 115 := rfl
  have v1 : fl1 1 = 119 := rfl
  have v2 : fl1 2 = 111 := rfl
  have v3 : fl1 3 = 116 := rfl
  have v4 : fl1 4 = 102 := rfl
  intro e
  rcases h5 with rfl | rfl | rfl | rfl | rfl
  · rw [v0] at e
    unfold fld at h
    rw [if_pos e] at h
    omega
  · rw [v1] at e
    unfold fld at h
    rw [if_neg (by omega), if_pos e] at h
    omega
  · rw [v2] at e
    unfold fld at h
    rw [if_neg (by omega), if_neg (by omega), if_pos e] at h
    omega
  · rw [v3] at e
    unfold fld at h
    rw [if_neg (by omega), if_neg (by omega), if_neg (by omega), if_pos e] at h
    omega
  · rw [v4] at e
    unfold fld at h
    rw [if_neg (by omega), if_neg (by omega), if_neg (by omega), if_neg (by omega), if_pos e] at h
    omega
theorem fld_e {c : Int} {f : Nat} (h : (f : Int) = fld c) (h5 : f < 5) : c = fl1 f := by
  have v0 : fl1 0 = 115 := rfl
  have v1 : fl1 1 = 119 := rfl
  have v2 : fl1 2 = 111 := rfl
  have v3 : fl1 3 = 116 := rfl
  have v4 : fl1 4 = 102 := rfl
  have hf : f = 0 ∨ f = 1 ∨ f = 2 ∨ f = 3 ∨ f = 4 := by omega
  unfold fld at h
  rcases hf with rfl | rfl | rfl | rfl | rfl
  · rw [v0]; revert h; (repeat' split) <;> intro h <;> omega
  · rw [v1]; revert h; (repeat' split) <;> intro h <;> omega
  · rw [v2]; revert h; (repeat' split) <;> intro h <;> omega
  · rw [v3]; revert h; (repeat' split) <;> intro h <;> omega
  · rw [v4]; revert h; (repeat' split) <;> intro h <;> omega
/-- a sign as the class keeps it -/
def sgs (s : Int) : Int := if s = 0 then 0 else if s = 1 then -1 else 1
section Ts
variable {M N : am_M} {g : am_G} {F : am_FT} {x : Int → Int} {n : Int}
theorem c_fieldName (hF : F = am_F T0 g) {f : Nat} (hf : f < 6) : F 15 0 [.int (iI (f : Int))] [] N = some (some (.ref (1000001 + (2 + f))), N) := by
  refine e_Exam_fieldName hF ?_
  have h : f = 0 ∨ f = 1 ∨ f = 2 ∨ f = 3 ∨ f = 4 ∨ f = 5 := by omega
  rcases h with rfl | rfl | rfl | rfl | rfl | rfl <;> rfl
theorem cr_s {β : Type} {a : Nat} {M' : am_M} {q : Option am_R} {κ : Nat → am_M → Option β} (h : q = some (some (.ref a), M')) : am_cr q κ = κ a M' := by rw [h]; rfl
/-- once the place has moved no other field is tried -/
theorem c_skip (hF : F = am_F T0 g) (hg : GG g) {a : Nat} {i st p : Int} (hp : A N 61 2 = p) (hne : ¬ p = st) (s1 : -2147483648 ≤ st) (s2 : st < 2147483648) : ∀ (m f : Nat), f + m = 6 → F 269 8 [.ref a, .ref 61, .int (iI i), .int (iI st), .int (iI (f : Int))] [] N = some (some (.int (iI 0)), N) := by
  have g61 := gk_61 hg
  have pr : -2147483648 ≤ p ∧ p < 2147483648 := by
    rw [← hp]; exact ⟨A_lo _ _ _, A_hi _ _ _⟩
  intro m
  induction m with
  | zero =>
    intro f hf
    refine e_Rule_readTest_8 hF ?_
    rw [if_pos (by
      rw [i_le, iI_v (by omega) (by omega)]
      have : (6 : Int32).toInt = 6 := rfl
      omega)]
    rfl
  | succ m ih =>
    intro f hf
    refine e_Rule_readTest_8 hF ?_
    have er : rI N 61 2 = iI p := by rw [← hp]; exact (iI_of _).symm
    rw [if_neg (by
      rw [i_le, iI_v (by omega) (by omega)]
      have : (6 : Int32).toInt = 6 := rfl
      omega), cl_gI g61, er, if_neg (by
      rw [i_eq, iI_v pr.1 pr.2, iI_v s1 s2]; exact hne), i_1, iI_add]
    exact ih (f + 1) (by omega)
/-- the class's comparison -/
theorem c_cmp (hF : F = am_F T0 g) (hg : GG g) (ht : Tp x n) {a : Nat} (ha : isRu g a) (a0 : 112 ≤ a) (a1 : a + 3 < 137) (hc : Ct x n N) {p i : Int} (hp : A N 61 2 = p) (p0 : 0 ≤ p) (p1 : p ≤ n) (i0 : 0 ≤ i) (i3 : i < 3) :
    ∃ (b s v p' : Int) (N' : am_M), F 261 0 [.ref a, .ref 61, .int (iI i)] [] N = some (some (.int (iI b)), N') ∧ Ch [a + 2, a + 3] [(61, 2)] N N' ∧ A N' 61 2 = p' ∧ (∀ j : Int, 0 ≤ j → ¬ j = i → A N' (a + 2) j = A N (a + 2) j ∧ A N' (a + 3) j = A N (a + 3) j) ∧ (0 ≤ p' ∧ p' ≤ n) ∧
      ((x p = 61 ∨ x p = 60 ∨ x p = 62) ∧ s = (if x p = 61 then 0 else if x p = 60 then 1 else 2) ∧ p' = nmp x 4 (p + 1) ∧ ((48 ≤ x (p + 1) ∧ x (p + 1) ≤ 57) ∧ b = 1 ∧ v = nmv x 4 (p + 1) 0 ∧ A N' (a + 2) i = sgs s ∧ A N' (a + 3) i = v ∨ ¬ (48 ≤ x (p + 1) ∧ x (p + 1) ≤ 57) ∧ b = 0) ∨ ¬ (x p = 61 ∨ x p = 60 ∨ x p = 62) ∧ b = 0 ∧ p' = p) := by
  have hn := ht.1
  have nv := nmv_r (x := x) (p := p + 1)
  have k61 : a + 2 ≠ 61 ∧ a + 3 ≠ 61 := by omega
  -- after the sign
  have fin : ∀ (s : Int) (X : am_M), 0 ≤ s → s ≤ 2 → p < n → Ct x n X → Ch [] [(61, 2)] N X → A X 61 2 = p + 1 → ∃ (b v : Int) (Y X2 N' : am_M), Y = W_ X (a + 2) i (sgs s) ∧ F 164 0 [.ref 61] [] Y = some (some (.int (iI (if 48 ≤ x (p + 1) ∧ x (p + 1) ≤ 57 then nmv x 4 (p + 1) 0 else -1))), X2) ∧ N' = W_ X2 (a + 3) i (if 48 ≤ x (p + 1) ∧ x (p + 1) ≤ 57 then nmv x 4 (p + 1) 0 else -1) ∧ A N' (a + 3) i = (if 48 ≤ x (p + 1) ∧ x (p + 1) ≤ 57 then nmv x 4 (p + 1) 0 else -1) ∧ Ch [a + 2, a + 3] [(61, 2)] N N' ∧ A N' 61 2 = nmp x 4 (p + 1) ∧ (∀ j : Int, 0 ≤ j → ¬ j = i → A N' (a + 2) j = A N (a + 2) j ∧ A N' (a + 3) j = A N (a + 3) j) ∧ A N' (a + 2) i = sgs s := fun s X s0 s2 hpn hX cX pX => by
    have ss : -1 ≤ sgs s ∧ sgs s ≤ 1 := by
      unfold sgs
      (repeat' split) <;> omega
    have cY : Ch [a + 2, a + 3] [(61, 2)] X (W_ X (a + 2) i (sgs s)) := Ch.refl.wm (Or.inl (by simp only [List.mem_cons, true_or]))
    have hY : Ct x n (W_ X (a + 2) i (sgs s)) := by
      refine ⟨by rw [A_Wn (by omega)]; exact hX.1, fun q q0 q1 => by rw [A_Wn (by omega)]; exact hX.2 q q0 q1⟩
    obtain ⟨X2, n1, n2, n3⟩ := c_number hF hg ht hY (p := p + 1) (by rw [A_Wn (by omega)]; exact pX) (by omega) (by omega)
    have cN : Ch [a + 2, a + 3] [(61, 2)] N (W_ X2 (a + 3) i (if 48 ≤ x (p + 1) ∧ x (p + 1) ≤ 57 then nmv x 4 (p + 1) 0 else -1)) := ((((cX.sub (fun b hb => by cases hb))).trans cY).trans (n2.sub (fun b hb => by cases hb))).wm (Or.inl (by simp only [List.mem_cons, true_or, or_true]))
    have rd : ∀ (z : Nat) (j : Int), z ≠ 61 → A X2 z j = A (W_ X (a + 2) i (sgs s)) z j := fun z j hz => congrArg Int32.toInt (n2 z j.toNat (by simp only [List.not_mem_nil, not_false_eq_true]) (by simp only [List.mem_singleton, Prod.mk.injEq]; exact fun h => hz h.1)).1
    have rx : ∀ (z : Nat) (j : Int), z ≠ 61 → A X z j = A N z j := fun z j hz => congrArg Int32.toInt (cX z j.toNat (by simp only [List.not_mem_nil, not_false_eq_true]) (by simp only [List.mem_singleton, Prod.mk.injEq]; exact fun h => hz h.1)).1
    refine ⟨0, 0, _, X2, _, rfl, n1, rfl, ?_, cN, ?_, fun j j0 j1 => ⟨?_, ?_⟩, ?_⟩
    · split
      · exact A_Ws (by omega) (by omega)
      · exact A_Ws (by omega) (by omega)
    · rw [A_Wn (by omega)]; exact n3
    · rw [A_Wn (by omega), rd _ _ k61.1, A_Wo i0 j0 j1, rx _ _ k61.1]
    · rw [A_Wo i0 j0 j1, rd _ _ k61.2, A_Wn (by omega), rx _ _ k61.2]
    · rw [A_Wn (by omega), rd _ _ k61.1, A_Ws (by omega) (by omega)]
  have pn : (x p = 61 ∨ x p = 60 ∨ x p = 62) → p < n := fun h => by
    by_cases y : p < n
    · exact y
    · have := ht.2.2 p (Or.inr (by omega)); omega
  have m8 : tx 8 = [61] := rfl
  have m9 : tx 9 = [60] := rfl
  have m10 : tx 10 = [62] := rfl
  obtain ⟨N1, q1, q2, q3⟩ := c_text hF hg ht (k := 8) (by decide) hc hp p0 p1
  rw [m8] at q1 q3
  have c1 : Ct x n N1 := hc.ch (q2.mono rfl)
  by_cases e1 : x p = 61
  · have hpn := pn (Or.inl e1)
    rw [mtk_y e1] at q1
    rw [mtp_y e1] at q3
    have t1 : mtk x [] (p + 1) = 1 := rfl
    have t2 : mtp x [] (p + 1) = p + 1 := rfl
    rw [t1] at q1
    rw [t2] at q3
    obtain ⟨-, -, Y, X2, N', y1, y2, y3, y4, y5, y6, y7, y8⟩ := fin 0 N1 (by omega) (by omega) hpn c1 q2 q3
    have nr := nmp_r ht (r := 4) (p := p + 1) (by omega) (by omega)
    have y1' : W_ N1 (a + 2) i 0 = Y := y1.symm
    by_cases d : 48 ≤ x (p + 1) ∧ x (p + 1) ≤ 57
    · rw [if_pos d] at y2 y3 y4
      refine ⟨1, 0, nmv x 4 (p + 1) 0, nmp x 4 (p + 1), N', ?_, y5, y6, y7, ⟨by omega, by omega⟩, Or.inl ⟨Or.inl e1, by rw [if_pos e1], rfl, Or.inl ⟨d, rfl, rfl, y8, y4⟩⟩⟩
      refine s_Rule_readComparison hF hg ha ?_
      have u : ¬ nmv x 4 (p + 1) 0 < 0 := by omega
      simp (config := { maxSteps := 1000000 }) (disch := (first | omega | decide | assumption)) only [ltm_s, ok_n, rd_i, rd_j, fd_i, fd_j, wr_i, wr_j, fw_i, fw_j, ci_s, cj_s, cv_s, dv_n, dw_n, rt_1, rt_b, rt_20, rt_21, okb_0, okb_1, okb_b, nar_0, nar_1, nar_b, i_0, i_1, j_0, j_1, i_lit, j_lit, i_n, iI_add, iI_sub, iI_mul, iI_neg, jI_add, jI_sub, jI_mul, jI_neg, sh_1, an_1, xo_1, di_p, dj_p, i_64A, i_64, j_32, lq_ge, lq_lt, lq_le, lq_gt, lq_eq, i_lt, i_le, i_eq, j_eq, iI_A, jI_J, iI_b, iI_v, jI_v, ↓reduceIte, ite_true, ite_false, Int.reduceEq, Int.reduceLT, Int.reduceLE, Int.reduceAdd, Int.reduceSub, Int.reduceMul, Int.reduceNeg, not_true_eq_false, not_false_eq_true, q1, y1', y2, y3.symm, y4, u]
    · rw [if_neg d] at y2 y3 y4
      refine ⟨0, 0, 0, nmp x 4 (p + 1), N', ?_, y5, y6, y7, ⟨by omega, by omega⟩, Or.inl ⟨Or.inl e1, by rw [if_pos e1], rfl, Or.inr ⟨d, rfl⟩⟩⟩
      refine s_Rule_readComparison hF hg ha ?_
      simp (config := { maxSteps := 1000000 }) (disch := (first | omega | decide | assumption)) only [ltm_s, ok_n, rd_i, rd_j, fd_i, fd_j, wr_i, wr_j, fw_i, fw_j, ci_s, cj_s, cv_s, dv_n, dw_n, rt_1, rt_b, rt_20, rt_21, okb_0, okb_1, okb_b, nar_0, nar_1, nar_b, i_0, i_1, j_0, j_1, i_lit, j_lit, i_n, iI_add, iI_sub, iI_mul, iI_neg, jI_add, jI_sub, jI_mul, jI_neg, sh_1, an_1, xo_1, di_p, dj_p, i_64A, i_64, j_32, lq_ge, lq_lt, lq_le, lq_gt, lq_eq, i_lt, i_le, i_eq, j_eq, iI_A, jI_J, iI_b, iI_v, jI_v, ↓reduceIte, ite_true, ite_false, Int.reduceEq, Int.reduceLT, Int.reduceLE, Int.reduceAdd, Int.reduceSub, Int.reduceMul, Int.reduceNeg, not_true_eq_false, not_false_eq_true, q1, y1', y2, y3.symm, y4]
  rw [mtk_n e1] at q1
  rw [mtp_n e1] at q3
  obtain ⟨N2, r1, r2, r3⟩ := c_text hF hg ht (k := 9) (by decide) c1 q3 p0 p1
  rw [m9] at r1 r3
  have c2 : Ct x n N2 := c1.ch (r2.mono rfl)
  by_cases e2 : x p = 60
  · have hpn := pn (Or.inr (Or.inl e2))
    rw [mtk_y e2] at r1
    rw [mtp_y e2] at r3
    have t1 : mtk x [] (p + 1) = 1 := rfl
    have t2 : mtp x [] (p + 1) = p + 1 := rfl
    rw [t1] at r1
    rw [t2] at r3
    obtain ⟨-, -, Y, X2, N', y1, y2, y3, y4, y5, y6, y7, y8⟩ := fin 1 N2 (by omega) (by omega) hpn c2 (q2.trans r2) r3
    have nr := nmp_r ht (r := 4) (p := p + 1) (by omega) (by omega)
    have y1' : W_ N2 (a + 2) i (-1) = Y := y1.symm
    by_cases d : 48 ≤ x (p + 1) ∧ x (p + 1) ≤ 57
    · rw [if_pos d] at y2 y3 y4
      refine ⟨1, 1, nmv x 4 (p + 1) 0, nmp x 4 (p + 1), N', ?_, y5, y6, y7, ⟨by omega, by omega⟩, Or.inl ⟨Or.inr (Or.inl e2), by rw [if_neg e1, if_pos e2], rfl, Or.inl ⟨d, rfl, rfl, y8, y4⟩⟩⟩
      refine s_Rule_readComparison hF hg ha ?_
      have u : ¬ nmv x 4 (p + 1) 0 < 0 := by omega
      simp (config := { maxSteps := 1000000 }) (disch := (first | omega | decide | assumption)) only [ltm_s, ok_n, rd_i, rd_j, fd_i, fd_j, wr_i, wr_j, fw_i, fw_j, ci_s, cj_s, cv_s, dv_n, dw_n, rt_1, rt_b, rt_20, rt_21, okb_0, okb_1, okb_b, nar_0, nar_1, nar_b, i_0, i_1, j_0, j_1, i_lit, j_lit, i_n, iI_add, iI_sub, iI_mul, iI_neg, jI_add, jI_sub, jI_mul, jI_neg, sh_1, an_1, xo_1, di_p, dj_p, i_64A, i_64, j_32, lq_ge, lq_lt, lq_le, lq_gt, lq_eq, i_lt, i_le, i_eq, j_eq, iI_A, jI_J, iI_b, iI_v, jI_v, ↓reduceIte, ite_true, ite_false, Int.reduceEq, Int.reduceLT, Int.reduceLE, Int.reduceAdd, Int.reduceSub, Int.reduceMul, Int.reduceNeg, not_true_eq_false, not_false_eq_true, q1, r1, y1', y2, y3.symm, y4, u]
    · rw [if_neg d] at y2 y3 y4
      refine ⟨0, 1, 0, nmp x 4 (p + 1), N', ?_, y5, y6, y7, ⟨by omega, by omega⟩, Or.inl ⟨Or.inr (Or.inl e2), by rw [if_neg e1, if_pos e2], rfl, Or.inr ⟨d, rfl⟩⟩⟩
      refine s_Rule_readComparison hF hg ha ?_
      simp (config := { maxSteps := 1000000 }) (disch := (first | omega | decide | assumption)) only [ltm_s, ok_n, rd_i, rd_j, fd_i, fd_j, wr_i, wr_j, fw_i, fw_j, ci_s, cj_s, cv_s, dv_n, dw_n, rt_1, rt_b, rt_20, rt_21, okb_0, okb_1, okb_b, nar_0, nar_1, nar_b, i_0, i_1, j_0, j_1, i_lit, j_lit, i_n, iI_add, iI_sub, iI_mul, iI_neg, jI_add, jI_sub, jI_mul, jI_neg, sh_1, an_1, xo_1, di_p, dj_p, i_64A, i_64, j_32, lq_ge, lq_lt, lq_le, lq_gt, lq_eq, i_lt, i_le, i_eq, j_eq, iI_A, jI_J, iI_b, iI_v, jI_v, ↓reduceIte, ite_true, ite_false, Int.reduceEq, Int.reduceLT, Int.reduceLE, Int.reduceAdd, Int.reduceSub, Int.reduceMul, Int.reduceNeg, not_true_eq_false, not_false_eq_true, q1, r1, y1', y2, y3.symm, y4]
  rw [mtk_n e2] at r1
  rw [mtp_n e2] at r3
  obtain ⟨N3, w1, w2, w3⟩ := c_text hF hg ht (k := 10) (by decide) c2 r3 p0 p1
  rw [m10] at w1 w3
  have c3 : Ct x n N3 := c2.ch (w2.mono rfl)
  by_cases e3 : x p = 62
  · have hpn := pn (Or.inr (Or.inr e3))
    rw [mtk_y e3] at w1
    rw [mtp_y e3] at w3
    have t1 : mtk x [] (p + 1) = 1 := rfl
    have t2 : mtp x [] (p + 1) = p + 1 := rfl
    rw [t1] at w1
    rw [t2] at w3
    obtain ⟨-, -, Y, X2, N', y1, y2, y3, y4, y5, y6, y7, y8⟩ := fin 2 N3 (by omega) (by omega) hpn c3 (q2.trans (r2.trans w2)) w3
    have nr := nmp_r ht (r := 4) (p := p + 1) (by omega) (by omega)
    have y1' : W_ N3 (a + 2) i 1 = Y := y1.symm
    by_cases d : 48 ≤ x (p + 1) ∧ x (p + 1) ≤ 57
    · rw [if_pos d] at y2 y3 y4
      refine ⟨1, 2, nmv x 4 (p + 1) 0, nmp x 4 (p + 1), N', ?_, y5, y6, y7, ⟨by omega, by omega⟩, Or.inl ⟨Or.inr (Or.inr e3), by rw [if_neg e1, if_neg e2], rfl, Or.inl ⟨d, rfl, rfl, y8, y4⟩⟩⟩
      refine s_Rule_readComparison hF hg ha ?_
      have u : ¬ nmv x 4 (p + 1) 0 < 0 := by omega
      simp (config := { maxSteps := 1000000 }) (disch := (first | omega | decide | assumption)) only [ltm_s, ok_n, rd_i, rd_j, fd_i, fd_j, wr_i, wr_j, fw_i, fw_j, ci_s, cj_s, cv_s, dv_n, dw_n, rt_1, rt_b, rt_20, rt_21, okb_0, okb_1, okb_b, nar_0, nar_1, nar_b, i_0, i_1, j_0, j_1, i_lit, j_lit, i_n, iI_add, iI_sub, iI_mul, iI_neg, jI_add, jI_sub, jI_mul, jI_neg, sh_1, an_1, xo_1, di_p, dj_p, i_64A, i_64, j_32, lq_ge, lq_lt, lq_le, lq_gt, lq_eq, i_lt, i_le, i_eq, j_eq, iI_A, jI_J, iI_b, iI_v, jI_v, ↓reduceIte, ite_true, ite_false, Int.reduceEq, Int.reduceLT, Int.reduceLE, Int.reduceAdd, Int.reduceSub, Int.reduceMul, Int.reduceNeg, not_true_eq_false, not_false_eq_true, q1, r1, w1, y1', y2, y3.symm, y4, u]
    · rw [if_neg d] at y2 y3 y4
      refine ⟨0, 2, 0, nmp x 4 (p + 1), N', ?_, y5, y6, y7, ⟨by omega, by omega⟩, Or.inl ⟨Or.inr (Or.inr e3), by rw [if_neg e1, if_neg e2], rfl, Or.inr ⟨d, rfl⟩⟩⟩
      refine s_Rule_readComparison hF hg ha ?_
      simp (config := { maxSteps := 1000000 }) (disch := (first | omega | decide | assumption)) only [ltm_s, ok_n, rd_i, rd_j, fd_i, fd_j, wr_i, wr_j, fw_i, fw_j, ci_s, cj_s, cv_s, dv_n, dw_n, rt_1, rt_b, rt_20, rt_21, okb_0, okb_1, okb_b, nar_0, nar_1, nar_b, i_0, i_1, j_0, j_1, i_lit, j_lit, i_n, iI_add, iI_sub, iI_mul, iI_neg, jI_add, jI_sub, jI_mul, jI_neg, sh_1, an_1, xo_1, di_p, dj_p, i_64A, i_64, j_32, lq_ge, lq_lt, lq_le, lq_gt, lq_eq, i_lt, i_le, i_eq, j_eq, iI_A, jI_J, iI_b, iI_v, jI_v, ↓reduceIte, ite_true, ite_false, Int.reduceEq, Int.reduceLT, Int.reduceLE, Int.reduceAdd, Int.reduceSub, Int.reduceMul, Int.reduceNeg, not_true_eq_false, not_false_eq_true, q1, r1, w1, y1', y2, y3.symm, y4]
  rw [mtk_n e3] at w1
  rw [mtp_n e3] at w3
  have cN : Ch [] [(61, 2)] N N3 := q2.trans (r2.trans w2)
  have rx : ∀ (z : Nat) (j : Int), z ≠ 61 → A N3 z j = A N z j := fun z j hz => congrArg Int32.toInt (cN z j.toNat (by simp only [List.not_mem_nil, not_false_eq_true]) (by simp only [List.mem_singleton, Prod.mk.injEq]; exact fun h => hz h.1)).1
  refine ⟨0, 0, 0, p, N3, ?_, cN.sub (fun b hb => by cases hb), w3, fun j j0 j1 => ⟨rx _ _ k61.1, rx _ _ k61.2⟩, ⟨p0, p1⟩, Or.inr ⟨by omega, rfl, rfl⟩⟩
  refine s_Rule_readComparison hF hg ha ?_
  simp (config := { maxSteps := 1000000 }) (disch := (first | omega | decide | assumption)) only [ltm_s, ok_n, rd_i, rd_j, fd_i, fd_j, wr_i, wr_j, fw_i, fw_j, ci_s, cj_s, cv_s, dv_n, dw_n, rt_1, rt_b, rt_20, rt_21, okb_0, okb_1, okb_b, nar_0, nar_1, nar_b, i_0, i_1, j_0, j_1, i_lit, j_lit, i_n, iI_add, iI_sub, iI_mul, iI_neg, jI_add, jI_sub, jI_mul, jI_neg, sh_1, an_1, xo_1, di_p, dj_p, i_64A, i_64, j_32, lq_ge, lq_lt, lq_le, lq_gt, lq_eq, i_lt, i_le, i_eq, j_eq, iI_A, jI_J, iI_b, iI_v, jI_v, ↓reduceIte, ite_true, ite_false, Int.reduceEq, Int.reduceLT, Int.reduceLE, Int.reduceAdd, Int.reduceSub, Int.reduceMul, Int.reduceNeg, not_true_eq_false, not_false_eq_true, q1, r1, w1]
end Ts
