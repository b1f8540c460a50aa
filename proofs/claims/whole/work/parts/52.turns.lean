/-! TURNS: how one leg is turned into out of another, by both -/
noncomputable def cn (C : Int → Prop) : Nat → Int
  | 0 => 0
  | n + 1 => cn C n + bI (C (n : Int))
theorem cn_cg {C D : Int → Prop} : ∀ {n : Nat}, (∀ k : Int, 0 ≤ k → k < (n : Int) → (C k ↔ D k)) → cn C n = cn D n
  | 0, _ => rfl
  | n + 1, h => by
    show cn C n + bI (C n) = cn D n + bI (D n)
    rw [cn_cg fun k h0 h1 => h k h0 (by omega), bI_cg (h n (by omega) (by omega))]
theorem cn_b {C : Int → Prop} : ∀ (n : Nat), 0 ≤ cn C n ∧ cn C n ≤ (n : Int)
  | 0 => ⟨Int.le_refl _, Int.le_refl _⟩
  | n + 1 => by
    have h := cn_b (C := C) n
    show 0 ≤ cn C n + bI (C n) ∧ cn C n + bI (C n) ≤ ((n + 1 : Nat) : Int)
    rcases bI_01 (P := C n) with e | e <;> rw [e] <;> omega
theorem cn_m {C : Int → Prop} {m : Nat} : ∀ {n : Nat}, m ≤ n → cn C m ≤ cn C n ∧ cn C n - cn C m ≤ (n : Int) - m
  | 0, h => by rw [show m = 0 by omega]; omega
  | n + 1, h => by
    by_cases e : m = n + 1
    · rw [e]; omega
    · have ih := cn_m (C := C) (m := m) (n := n) (by omega)
      show cn C m ≤ cn C n + bI (C n) ∧ cn C n + bI (C n) - cn C m ≤ ((n + 1 : Nat) : Int) - m
      rcases bI_01 (P := C n) with e | e <;> rw [e] <;> omega
theorem cn_no {C : Int → Prop} {m : Nat} : ∀ {n : Nat}, m ≤ n → (∀ k : Int, (m : Int) ≤ k → k < (n : Int) → ¬ C k) → cn C n = cn C m
  | 0, h, _ => by rw [show m = 0 by omega]
  | n + 1, h, hc => by
    by_cases e : m = n + 1
    · rw [e]
    · show cn C n + bI (C n) = _
      rw [bI_f (hc n (by omega) (by omega)), cn_no (n := n) (by omega) fun k h0 h1 => hc k h0 (by omega)]
      omega
/-- counted along a rising row -/
theorem cn_row {P : Int → Prop} {o : Int → Int} : ∀ (c n : Nat), (∀ k l : Int, 0 ≤ k → k < l → l < (c : Int) → o k < o l) → (∀ k : Int, 0 ≤ k → k < (c : Int) → 0 ≤ o k ∧ o k < (n : Int)) → cn (fun k => P (o k)) c = cn (fun g => (∃ k : Int, 0 ≤ k ∧ k < (c : Int) ∧ o k = g) ∧ P g) n
  | 0, n, _, _ => by
    have h := cn_no (C := fun g => (∃ k : Int, 0 ≤ k ∧ k < ((0 : Nat) : Int) ∧ o k = g) ∧ P g) (m := 0) (n := n) (Nat.zero_le _) (fun k _ _ ⟨⟨k, h0, h1, _⟩, _⟩ => by omega)
    rw [h]
    rfl
  | c + 1, n, hr, hb => by
    have hm := hb c (by omega) (by omega)
    have em : ((o c).toNat : Int) = o c := Int.toNat_of_nonneg hm.1
    have ih := cn_row (P := P) (o := o) c (o c).toNat (fun k l h0 h1 h2 => hr k l h0 h1 (by omega)) (fun k h0 h1 => ⟨(hb k h0 (by omega)).1, by rw [em]; exact hr k c h0 h1 (by omega)⟩)
    show cn (fun k => P (o k)) c + bI (P (o c)) = _
    rw [ih, cn_no (C := fun g => (∃ k : Int, 0 ≤ k ∧ k < ((c + 1 : Nat) : Int) ∧ o k = g) ∧ P g) (m := (o c).toNat + 1) (n := n) (by omega) (fun k h0 h1 ⟨⟨l, l0, l1, e⟩, _⟩ => by
      by_cases el : l = c
      · rw [el] at e; omega
      · have := hr l c l0 (by omega) (by omega); omega)]
    show _ = cn _ (o c).toNat + bI _
    rw [em]
    have e1 : bI ((∃ k : Int, 0 ≤ k ∧ k < ((c + 1 : Nat) : Int) ∧ o k = o c) ∧ P (o c)) = bI (P (o c)) := bI_cg ⟨fun h => h.2, fun h => ⟨⟨c, by omega, by omega, rfl⟩, h⟩⟩
    rw [e1]
    congr 1
    refine cn_cg fun g h0 h1 => ?_
    rw [em] at h1
    constructor
    · rintro ⟨⟨k, k0, k1, e⟩, hp⟩
      exact ⟨⟨k, k0, by omega, e⟩, hp⟩
    · rintro ⟨⟨k, k0, k1, e⟩, hp⟩
      refine ⟨⟨k, k0, ?_, e⟩, hp⟩
      by_cases ek : k = c
      · rw [ek] at e; omega
      · omega
noncomputable section
/-- in which part of a round, from the look back along e, leg g lies -/
def qt (M : am_M) (e f : Int) : Int := if 0 < crs M e f then 1 else if crs M e f < 0 then 3 else if dt M e f < 0 then 0 else 2
def ahd (M : am_M) (e f h : Int) : Prop := (qt M e f = qt M e h → crs M f h < 0 ∨ crs M f h = 0 ∧ f < h) ∧ (¬ qt M e f = qt M e h → qt M e f < qt M e h)
def trn (M : am_M) (e f : Int) : Int :=
  if rg M (en M e) = 0 then (if crs M e f < 0 then 1 else if crs M e f = 0 then (if dt M e f < 0 then 0 else 2) else 0)
  else 3 + cn (fun h => ¬ h = f ∧ fol M e h ∧ ahd M e h f) (2 * nW M).toNat
def fh (M : am_M) (e f : Int) : Prop := 0 < crs M e f ∨ crs M e f = 0 ∧ dt M e f < 0
end
theorem sq_z {a b : Int} (h : a * a + b * b = 0) : a = 0 ∧ b = 0 := by
  have h1 : 0 ≤ a * a := by rcases Int.le_total 0 a with q | q; exact Int.mul_nonneg q q; exact Int.mul_nonneg_of_nonpos_of_nonpos q q
  have h2 : 0 ≤ b * b := by rcases Int.le_total 0 b with q | q; exact Int.mul_nonneg q q; exact Int.mul_nonneg_of_nonpos_of_nonpos q q
  have h3 : a * a = 0 := by omega
  have h4 : b * b = 0 := by omega
  exact ⟨by rcases Int.mul_eq_zero.mp h3 with q | q <;> exact q, by rcases Int.mul_eq_zero.mp h4 with q | q <;> exact q⟩
theorem sq_p {a b : Int} (h : ¬ (a = 0 ∧ b = 0)) : 0 < a * a + b * b := by
  have h1 : 0 ≤ a * a := by rcases Int.le_total 0 a with q | q; exact Int.mul_nonneg q q; exact Int.mul_nonneg_of_nonpos_of_nonpos q q
  have h2 : 0 ≤ b * b := by rcases Int.le_total 0 b with q | q; exact Int.mul_nonneg q q; exact Int.mul_nonneg_of_nonpos_of_nonpos q q
  by_cases e : a * a + b * b = 0
  · exact absurd (sq_z e) h
  · omega
section Tu
variable {M0 M : am_M} {g : am_G} {F : am_FT}
theorem dx_r (h1 : I1 M0) (h2 : I2 M0) {e : Int} (e0 : 0 ≤ e) (e1 : e < 2 * nW M0) : -99 ≤ dx M0 e ∧ dx M0 e ≤ 99 ∧ -99 ≤ dy M0 e ∧ dy M0 e ≤ 99 := by
  have a := (h2.2.2.2 e e0 e1).1
  have b := en_r h2 e0 e1
  have c := h1.2.2.1 _ a.1 a.2
  have d := h1.2.2.1 _ b.1 b.2
  unfold dx dy
  omega
theorem mul_r {a b : Int} (a0 : -99 ≤ a) (a1 : a ≤ 99) (b0 : -99 ≤ b) (b1 : b ≤ 99) : -9801 ≤ a * b ∧ a * b ≤ 9801 := by
  have h1 := Int.mul_nonneg (show 0 ≤ 99 - a by omega) (show 0 ≤ 99 - b by omega)
  have h2 := Int.mul_nonneg (show 0 ≤ 99 + a by omega) (show 0 ≤ 99 + b by omega)
  have h3 := Int.mul_nonneg (show 0 ≤ 99 - a by omega) (show 0 ≤ 99 + b by omega)
  have h4 := Int.mul_nonneg (show 0 ≤ 99 + a by omega) (show 0 ≤ 99 - b by omega)
  have e1 : (99 - a) * (99 - b) = 9801 - 99 * a - 99 * b + a * b := by grind
  have e2 : (99 + a) * (99 + b) = 9801 + 99 * a + 99 * b + a * b := by grind
  have e3 : (99 - a) * (99 + b) = 9801 - 99 * a + 99 * b - a * b := by grind
  have e4 : (99 + a) * (99 - b) = 9801 + 99 * a - 99 * b - a * b := by grind
  omega
theorem crs_r (h1 : I1 M0) (h2 : I2 M0) {e f : Int} (e0 : 0 ≤ e) (e1 : e < 2 * nW M0) (f0 : 0 ≤ f) (f1 : f < 2 * nW M0) : -20000 ≤ crs M0 e f ∧ crs M0 e f ≤ 20000 := by
  obtain ⟨a1, a2, a3, a4⟩ := dx_r h1 h2 e0 e1
  obtain ⟨b1, b2, b3, b4⟩ := dx_r h1 h2 f0 f1
  have c1 := mul_r a1 a2 b3 b4
  have c2 := mul_r a3 a4 b1 b2
  unfold crs
  omega
theorem dt_r (h1 : I1 M0) (h2 : I2 M0) {e f : Int} (e0 : 0 ≤ e) (e1 : e < 2 * nW M0) (f0 : 0 ≤ f) (f1 : f < 2 * nW M0) : -20000 ≤ dt M0 e f ∧ dt M0 e f ≤ 20000 := by
  obtain ⟨a1, a2, a3, a4⟩ := dx_r h1 h2 e0 e1
  obtain ⟨b1, b2, b3, b4⟩ := dx_r h1 h2 f0 f1
  have c1 := mul_r a1 a2 b1 b2
  have c2 := mul_r a3 a4 b3 b4
  unfold dt
  omega
theorem vec_nz (h1 : I1 M0) (h2 : I2 M0) {e : Int} (e0 : 0 ≤ e) (e1 : e < 2 * nW M0) : ¬ (dx M0 e = 0 ∧ dy M0 e = 0) := by
  rintro ⟨a, b⟩
  obtain ⟨c1, c2, -⟩ := h2.2.2.2 e e0 e1
  have c3 := en_r h2 e0 e1
  unfold dx at a
  unfold dy at b
  exact c2 (h1.2.2.2 _ _ c1.1 c1.2 c3.1 c3.2 (by omega) (by omega))
theorem dt_nz (h1 : I1 M0) (h2 : I2 M0) {e f : Int} (e0 : 0 ≤ e) (e1 : e < 2 * nW M0) (f0 : 0 ≤ f) (f1 : f < 2 * nW M0) (hc : crs M0 e f = 0) : ¬ dt M0 e f = 0 := by
  intro hd
  have a := sq_p (vec_nz h1 h2 e0 e1)
  have b := sq_p (vec_nz h1 h2 f0 f1)
  have k := Int.mul_pos a b
  unfold crs at hc
  unfold dt at hd
  generalize dx M0 e = x at *
  generalize dy M0 e = y at *
  generalize dx M0 f = u at *
  generalize dy M0 f = v at *
  have id : (x * x + y * y) * (u * u + v * v) = (x * v - y * u) * (x * v - y * u) + (x * u + y * v) * (x * u + y * v) := by grind
  rw [id, hc, hd] at k
  omega
theorem crs_id {e f h : Int} : (dx M0 e * dx M0 e + dy M0 e * dy M0 e) * crs M0 f h = dt M0 e f * crs M0 e h - crs M0 e f * dt M0 e h := by
  unfold crs dt; grind
theorem mul_neg {a b : Int} (ha : 0 < a) (h : a * b < 0) : b < 0 := by
  by_cases q : b < 0
  · exact q
  · have q : 0 ≤ b := by omega
    have := Int.mul_nonneg (Int.le_of_lt ha) q; omega
theorem mul_pos' {a b : Int} (ha : 0 < a) (h : 0 < a * b) : 0 < b := by
  by_cases q : 0 < b
  · exact q
  · have := Int.mul_nonneg (Int.le_of_lt ha) (show 0 ≤ -b by omega)
    rw [Int.mul_neg] at this; omega
/-- two ways to say which exit comes first -/
theorem ahd_iff (h1 : I1 M0) (h2 : I2 M0) {e f h : Int} (e0 : 0 ≤ e) (e1 : e < 2 * nW M0) (f0 : 0 ≤ f) (f1 : f < 2 * nW M0) (k0 : 0 ≤ h) (k1 : h < 2 * nW M0) : ahd M0 e f h ↔ ((fh M0 e f ↔ fh M0 e h) → crs M0 f h < 0 ∨ crs M0 f h = 0 ∧ f < h) ∧ (¬ (fh M0 e f ↔ fh M0 e h) → fh M0 e f) := by
  have p := sq_p (vec_nz h1 h2 e0 e1)
  have id := crs_id (M0 := M0) (e := e) (f := f) (h := h)
  have nf := dt_nz h1 h2 e0 e1 f0 f1
  have nh := dt_nz h1 h2 e0 e1 k0 k1
  unfold ahd qt fh
  generalize dx M0 e * dx M0 e + dy M0 e * dy M0 e = s at *
  generalize crs M0 f h = z at *
  generalize crs M0 e f = a at *
  generalize crs M0 e h = b at *
  generalize dt M0 e f = u at *
  generalize dt M0 e h = v at *
  have F1 : a = 0 → u < 0 → 0 < b → z < 0 := fun ha hu hb => mul_neg p (by rw [id, ha, Int.zero_mul]; have := Int.mul_neg_of_neg_of_pos hu hb; omega)
  have F2 : 0 < a → b = 0 → v < 0 → 0 < z := fun ha hb hv => mul_pos' p (by rw [id, hb, Int.mul_zero]; have := Int.mul_neg_of_pos_of_neg ha hv; omega)
  have F3 : a = 0 → 0 < u → b < 0 → z < 0 := fun ha hu hb => mul_neg p (by rw [id, ha, Int.zero_mul]; have := Int.mul_neg_of_pos_of_neg hu hb; omega)
  have F4 : a < 0 → b = 0 → 0 < v → 0 < z := fun ha hb hv => mul_pos' p (by rw [id, hb, Int.mul_zero]; have := Int.mul_neg_of_neg_of_pos ha hv; omega)
  clear id p h1 h2
  (repeat' split) <;> omega
theorem c_isInFirstHalf (hF : F = am_F T0 g) (hg : GG g) (hA : Ag M0 M) (h1 : I1 M0) (h2 : I2 M0) {e f : Int} (e0 : 0 ≤ e) (e1 : e < 2 * nW M0) (f0 : 0 ≤ f) (f1 : f < 2 * nW M0) : F 87 0 [.ref 1, .int (iI (e + 1 - 2 * (e % 2))), .int (iI f)] [] M = some (some (.int (iI (bI (fh M0 e f)))), M) := by
  have hx := xo_r e0 e1
  have a : crs M0 (xo e) f = - crs M0 e f := by unfold crs; rw [dx_xo, dy_xo]; grind
  have b : dt M0 (xo e) f = - dt M0 e f := by unfold dt; rw [dx_xo, dy_xo]; grind
  have ra := crs_r h1 h2 e0 e1 f0 f1
  have rb := dt_r h1 h2 e0 e1 f0 f1
  unfold xo at hx a b
  refine s_City_isInFirstHalf hF hg ?_
  simp (disch := (first | omega | decide | assumption)) only [ltm_s, ok_n, rd_i, rd_j, fd_i, fd_j, wr_i, wr_j, fw_i, fw_j, ci_s, cj_s, cv_s, dv_n, dw_n, rt_1, rt_b, rt_20, rt_21, okb_0, okb_1, okb_b, nar_0, nar_1, nar_b, i_0, i_1, j_0, j_1, i_lit, j_lit, i_n, iI_add, iI_sub, iI_mul, iI_neg, jI_add, jI_sub, jI_mul, jI_neg, sh_1, an_1, xo_1, di_p, dj_p, i_64A, i_64, j_32, lq_ge, lq_lt, lq_le, lq_gt, lq_eq, i_lt, i_le, i_eq, j_eq, iI_A, jI_J, iI_b, iI_v, jI_v, ↓reduceIte, ite_true, ite_false, Int.reduceEq, Int.reduceLT, Int.reduceLE, Int.reduceAdd, Int.reduceSub, Int.reduceMul, Int.reduceNeg, not_true_eq_false, not_false_eq_true, agA hA, agJA hA, ag hA, v_nJ, v_nW, v_nD, v_toD, v_px, v_py, v_rg, v_kd, v_ft, v_on, v_bg, v_en, @nJ_ M0, @nW_ M0, @nD_ M0, @toD_ M0, @px_ M0, @py_ M0, @rg_ M0, @kd_ M0, @ft_ M0, @on_ M0, bt_, c_cross hF hg hA h2, c_dot hF hg hA h2, a, b]
  unfold fh
  (repeat' split) <;> first | (rw [bI_t (by omega)]) | (rw [bI_f (by omega)])
/-- what one exit adds -/
def exi (M : am_M) (e f h : Int) : Prop := ¬ h = f ∧ ¬ h / 2 = e / 2 ∧ ahd M e h f
theorem c_exits_l (hF : F = am_F T0 g) (hg : GG g) (hA : Ag M0 M) (h1 : I1 M0) (h2 : I2 M0) (h3 : I3 M0) {e f j : Int} (e0 : 0 ≤ e) (e1 : e < 2 * nW M0) (f0 : 0 ≤ f) (f1 : f < 2 * nW M0) (j0 : 0 ≤ j) (j1 : j < 24) : ∀ (n k : Nat) (acc : Int), (k : Int) + n = A M0 17 j → F 166 22 [.ref 1, .int (iI e), .int (iI f), .int (iI j), .int (iI acc), .int (iI (bI (fh M0 e f))), .int (iI k)] [] M = some (some (.int (iI (acc + cn (fun k => exi M0 e f (A M0 16 (j * 40 + k))) (A M0 17 j).toNat - cn (fun k => exi M0 e f (A M0 16 (j * 40 + k))) k))), M)
  | 0, k, acc, h => by
    have hc := (h3 j j0 j1).1
    have hn := h2.1
    refine s_City_exitsAhead_22 hF hg ?_
    simp (disch := (first | omega | decide | assumption)) only [ltm_s, ok_n, rd_i, rd_j, fd_i, fd_j, wr_i, wr_j, fw_i, fw_j, ci_s, cj_s, cv_s, dv_n, dw_n, rt_1, rt_b, rt_20, rt_21, okb_0, okb_1, okb_b, nar_0, nar_1, nar_b, i_0, i_1, j_0, j_1, i_lit, j_lit, i_n, iI_add, iI_sub, iI_mul, iI_neg, jI_add, jI_sub, jI_mul, jI_neg, sh_1, an_1, xo_1, di_p, dj_p, i_64A, i_64, j_32, lq_ge, lq_lt, lq_le, lq_gt, lq_eq, i_lt, i_le, i_eq, j_eq, iI_A, jI_J, iI_b, iI_v, jI_v, ↓reduceIte, ite_true, ite_false, Int.reduceEq, Int.reduceLT, Int.reduceLE, Int.reduceAdd, Int.reduceSub, Int.reduceMul, Int.reduceNeg, not_true_eq_false, not_false_eq_true, agA hA, agJA hA, ag hA, v_nJ, v_nW, v_nD, v_toD, v_px, v_py, v_rg, v_kd, v_ft, v_on, v_bg, v_en, @nJ_ M0, @nW_ M0, @nD_ M0, @toD_ M0, @px_ M0, @py_ M0, @rg_ M0, @kd_ M0, @ft_ M0, @on_ M0, bt_]
    rw [if_pos (by omega), show (A M0 17 j).toNat = k by omega, show acc + cn (fun k => exi M0 e f (A M0 16 (j * 40 + k))) k - cn (fun k => exi M0 e f (A M0 16 (j * 40 + k))) k = acc by omega]
  | n + 1, k, acc, h => by
    have hc := (h3 j j0 j1).1
    have hn := h2.1
    obtain ⟨⟨g0, g1⟩, gb⟩ := (h3 j j0 j1).2.2.1 k (by omega) (by omega)
    have ek : ((k + 1 : Nat) : Int) = (k : Int) + 1 := by omega
    have ih0 := c_exits_l hF hg hA h1 h2 h3 e0 e1 f0 f1 j0 j1 n (k + 1) acc (by omega)
    have ih1 := c_exits_l hF hg hA h1 h2 h3 e0 e1 f0 f1 j0 j1 n (k + 1) (acc + 1) (by omega)
    rw [ek] at ih0 ih1
    have cs : cn (fun k => exi M0 e f (A M0 16 (j * 40 + k))) (k + 1) = cn (fun k => exi M0 e f (A M0 16 (j * 40 + k))) k + bI (exi M0 e f (A M0 16 (j * 40 + k))) := rfl
    rw [cs] at ih0 ih1
    have hi := ahd_iff h1 h2 (f := A M0 16 (j * 40 + k)) (h := f) e0 e1 g0 g1 f0 f1
    have ra := crs_r h1 h2 g0 g1 f0 f1
    generalize hG : A M0 16 (j * 40 + (k : Int)) = G at *
    have fin0 : ¬ exi M0 e f G → acc + cn (fun k => exi M0 e f (A M0 16 (j * 40 + k))) (A M0 17 j).toNat - (cn (fun k => exi M0 e f (A M0 16 (j * 40 + k))) k + bI (exi M0 e f G)) = acc + cn (fun k => exi M0 e f (A M0 16 (j * 40 + k))) (A M0 17 j).toNat - cn (fun k => exi M0 e f (A M0 16 (j * 40 + k))) k := fun q => by rw [bI_f q]; omega
    have fin1 : exi M0 e f G → acc + 1 + cn (fun k => exi M0 e f (A M0 16 (j * 40 + k))) (A M0 17 j).toNat - (cn (fun k => exi M0 e f (A M0 16 (j * 40 + k))) k + bI (exi M0 e f G)) = acc + cn (fun k => exi M0 e f (A M0 16 (j * 40 + k))) (A M0 17 j).toNat - cn (fun k => exi M0 e f (A M0 16 (j * 40 + k))) k := fun q => by rw [bI_t q]; omega
    refine s_City_exitsAhead_22 hF hg ?_
    have hlt : ¬ A M0 17 j ≤ (k : Int) := by omega
    by_cases p1 : G = f
    · simp (disch := (first | omega | decide | assumption)) only [ltm_s, ok_n, rd_i, rd_j, fd_i, fd_j, wr_i, wr_j, fw_i, fw_j, ci_s, cj_s, cv_s, dv_n, dw_n, rt_1, rt_b, rt_20, rt_21, okb_0, okb_1, okb_b, nar_0, nar_1, nar_b, i_0, i_1, j_0, j_1, i_lit, j_lit, i_n, iI_add, iI_sub, iI_mul, iI_neg, jI_add, jI_sub, jI_mul, jI_neg, sh_1, an_1, xo_1, di_p, dj_p, i_64A, i_64, j_32, lq_ge, lq_lt, lq_le, lq_gt, lq_eq, i_lt, i_le, i_eq, j_eq, iI_A, jI_J, iI_b, iI_v, jI_v, ↓reduceIte, ite_true, ite_false, Int.reduceEq, Int.reduceLT, Int.reduceLE, Int.reduceAdd, Int.reduceSub, Int.reduceMul, Int.reduceNeg, not_true_eq_false, not_false_eq_true, agA hA, agJA hA, ag hA, v_nJ, v_nW, v_nD, v_toD, v_px, v_py, v_rg, v_kd, v_ft, v_on, v_bg, v_en, @nJ_ M0, @nW_ M0, @nD_ M0, @toD_ M0, @px_ M0, @py_ M0, @rg_ M0, @kd_ M0, @ft_ M0, @on_ M0, bt_, c_outLeg hF hg hA, hG, hlt, ih0]
      rw [if_pos p1, fin0 (fun q => q.1 p1)]
    · by_cases p2 : G / 2 = e / 2
      · simp (disch := (first | omega | decide | assumption)) only [ltm_s, ok_n, rd_i, rd_j, fd_i, fd_j, wr_i, wr_j, fw_i, fw_j, ci_s, cj_s, cv_s, dv_n, dw_n, rt_1, rt_b, rt_20, rt_21, okb_0, okb_1, okb_b, nar_0, nar_1, nar_b, i_0, i_1, j_0, j_1, i_lit, j_lit, i_n, iI_add, iI_sub, iI_mul, iI_neg, jI_add, jI_sub, jI_mul, jI_neg, sh_1, an_1, xo_1, di_p, dj_p, i_64A, i_64, j_32, lq_ge, lq_lt, lq_le, lq_gt, lq_eq, i_lt, i_le, i_eq, j_eq, iI_A, jI_J, iI_b, iI_v, jI_v, ↓reduceIte, ite_true, ite_false, Int.reduceEq, Int.reduceLT, Int.reduceLE, Int.reduceAdd, Int.reduceSub, Int.reduceMul, Int.reduceNeg, not_true_eq_false, not_false_eq_true, agA hA, agJA hA, ag hA, v_nJ, v_nW, v_nD, v_toD, v_px, v_py, v_rg, v_kd, v_ft, v_on, v_bg, v_en, @nJ_ M0, @nW_ M0, @nD_ M0, @toD_ M0, @px_ M0, @py_ M0, @rg_ M0, @kd_ M0, @ft_ M0, @on_ M0, bt_, c_outLeg hF hg hA, hG, p1, hlt, ih0]
        rw [if_pos p2, fin0 (fun q => q.2.1 p2)]
      · by_cases q1 : fh M0 e G <;> by_cases q2 : fh M0 e f
        · rw [bI_t q2] at ih0 ih1
          simp (disch := (first | omega | decide | assumption)) only [ltm_s, ok_n, rd_i, rd_j, fd_i, fd_j, wr_i, wr_j, fw_i, fw_j, ci_s, cj_s, cv_s, dv_n, dw_n, rt_1, rt_b, rt_20, rt_21, okb_0, okb_1, okb_b, nar_0, nar_1, nar_b, i_0, i_1, j_0, j_1, i_lit, j_lit, i_n, iI_add, iI_sub, iI_mul, iI_neg, jI_add, jI_sub, jI_mul, jI_neg, sh_1, an_1, xo_1, di_p, dj_p, i_64A, i_64, j_32, lq_ge, lq_lt, lq_le, lq_gt, lq_eq, i_lt, i_le, i_eq, j_eq, iI_A, jI_J, iI_b, iI_v, jI_v, ↓reduceIte, ite_true, ite_false, Int.reduceEq, Int.reduceLT, Int.reduceLE, Int.reduceAdd, Int.reduceSub, Int.reduceMul, Int.reduceNeg, not_true_eq_false, not_false_eq_true, agA hA, agJA hA, ag hA, v_nJ, v_nW, v_nD, v_toD, v_px, v_py, v_rg, v_kd, v_ft, v_on, v_bg, v_en, @nJ_ M0, @nW_ M0, @nD_ M0, @toD_ M0, @px_ M0, @py_ M0, @rg_ M0, @kd_ M0, @ft_ M0, @on_ M0, bt_, c_outLeg hF hg hA, hG, p1, p2, hlt, ih0, ih1, c_isInFirstHalf hF hg hA h1 h2, bI_t q1, bI_t q2, c_cross hF hg hA h2]
          have hf := iff_of_true q1 q2
          have hi' : ahd M0 e G f ↔ (crs M0 G f < 0 ∨ crs M0 G f = 0 ∧ G < f) := ⟨fun q => (hi.mp q).1 hf, fun q => hi.mpr ⟨fun _ => q, fun x => absurd hf x⟩⟩
          (repeat' split) <;> first | (rw [fin0 (fun q => by have := hi'.mp q.2.2; clear hi; omega)]) | (rw [fin1 ⟨p1, p2, hi'.mpr (by clear hi hi'; omega)⟩])
        · rw [bI_f q2] at ih0 ih1
          simp (disch := (first | omega | decide | assumption)) only [ltm_s, ok_n, rd_i, rd_j, fd_i, fd_j, wr_i, wr_j, fw_i, fw_j, ci_s, cj_s, cv_s, dv_n, dw_n, rt_1, rt_b, rt_20, rt_21, okb_0, okb_1, okb_b, nar_0, nar_1, nar_b, i_0, i_1, j_0, j_1, i_lit, j_lit, i_n, iI_add, iI_sub, iI_mul, iI_neg, jI_add, jI_sub, jI_mul, jI_neg, sh_1, an_1, xo_1, di_p, dj_p, i_64A, i_64, j_32, lq_ge, lq_lt, lq_le, lq_gt, lq_eq, i_lt, i_le, i_eq, j_eq, iI_A, jI_J, iI_b, iI_v, jI_v, ↓reduceIte, ite_true, ite_false, Int.reduceEq, Int.reduceLT, Int.reduceLE, Int.reduceAdd, Int.reduceSub, Int.reduceMul, Int.reduceNeg, not_true_eq_false, not_false_eq_true, agA hA, agJA hA, ag hA, v_nJ, v_nW, v_nD, v_toD, v_px, v_py, v_rg, v_kd, v_ft, v_on, v_bg, v_en, @nJ_ M0, @nW_ M0, @nD_ M0, @toD_ M0, @px_ M0, @py_ M0, @rg_ M0, @kd_ M0, @ft_ M0, @on_ M0, bt_, c_outLeg hF hg hA, hG, p1, p2, hlt, ih0, ih1, c_isInFirstHalf hF hg hA h1 h2, bI_t q1, bI_f q2, c_cross hF hg hA h2]
          rw [fin1 ⟨p1, p2, hi.mpr ⟨fun q => absurd (q.mp q1) q2, fun _ => q1⟩⟩]
        · rw [bI_t q2] at ih0 ih1
          simp (disch := (first | omega | decide | assumption)) only [ltm_s, ok_n, rd_i, rd_j, fd_i, fd_j, wr_i, wr_j, fw_i, fw_j, ci_s, cj_s, cv_s, dv_n, dw_n, rt_1, rt_b, rt_20, rt_21, okb_0, okb_1, okb_b, nar_0, nar_1, nar_b, i_0, i_1, j_0, j_1, i_lit, j_lit, i_n, iI_add, iI_sub, iI_mul, iI_neg, jI_add, jI_sub, jI_mul, jI_neg, sh_1, an_1, xo_1, di_p, dj_p, i_64A, i_64, j_32, lq_ge, lq_lt, lq_le, lq_gt, lq_eq, i_lt, i_le, i_eq, j_eq, iI_A, jI_J, iI_b, iI_v, jI_v, ↓reduceIte, ite_true, ite_false, Int.reduceEq, Int.reduceLT, Int.reduceLE, Int.reduceAdd, Int.reduceSub, Int.reduceMul, Int.reduceNeg, not_true_eq_false, not_false_eq_true, agA hA, agJA hA, ag hA, v_nJ, v_nW, v_nD, v_toD, v_px, v_py, v_rg, v_kd, v_ft, v_on, v_bg, v_en, @nJ_ M0, @nW_ M0, @nD_ M0, @toD_ M0, @px_ M0, @py_ M0, @rg_ M0, @kd_ M0, @ft_ M0, @on_ M0, bt_, c_outLeg hF hg hA, hG, p1, p2, hlt, ih0, ih1, c_isInFirstHalf hF hg hA h1 h2, bI_f q1, bI_t q2, c_cross hF hg hA h2]
          rw [fin0 (fun q => q1 ((hi.mp q.2.2).2 (fun x => q1 (x.mpr q2))))]
        · rw [bI_f q2] at ih0 ih1
          simp (disch := (first | omega | decide | assumption)) only [ltm_s, ok_n, rd_i, rd_j, fd_i, fd_j, wr_i, wr_j, fw_i, fw_j, ci_s, cj_s, cv_s, dv_n, dw_n, rt_1, rt_b, rt_20, rt_21, okb_0, okb_1, okb_b, nar_0, nar_1, nar_b, i_0, i_1, j_0, j_1, i_lit, j_lit, i_n, iI_add, iI_sub, iI_mul, iI_neg, jI_add, jI_sub, jI_mul, jI_neg, sh_1, an_1, xo_1, di_p, dj_p, i_64A, i_64, j_32, lq_ge, lq_lt, lq_le, lq_gt, lq_eq, i_lt, i_le, i_eq, j_eq, iI_A, jI_J, iI_b, iI_v, jI_v, ↓reduceIte, ite_true, ite_false, Int.reduceEq, Int.reduceLT, Int.reduceLE, Int.reduceAdd, Int.reduceSub, Int.reduceMul, Int.reduceNeg, not_true_eq_false, not_false_eq_true, agA hA, agJA hA, ag hA, v_nJ, v_nW, v_nD, v_toD, v_px, v_py, v_rg, v_kd, v_ft, v_on, v_bg, v_en, @nJ_ M0, @nW_ M0, @nD_ M0, @toD_ M0, @px_ M0, @py_ M0, @rg_ M0, @kd_ M0, @ft_ M0, @on_ M0, bt_, c_outLeg hF hg hA, hG, p1, p2, hlt, ih0, ih1, c_isInFirstHalf hF hg hA h1 h2, bI_f q1, bI_f q2, c_cross hF hg hA h2]
          have hf := iff_of_false q1 q2
          have hi' : ahd M0 e G f ↔ (crs M0 G f < 0 ∨ crs M0 G f = 0 ∧ G < f) := ⟨fun q => (hi.mp q).1 hf, fun q => hi.mpr ⟨fun _ => q, fun x => absurd hf x⟩⟩
          (repeat' split) <;> first | (rw [fin0 (fun q => by have := hi'.mp q.2.2; clear hi; omega)]) | (rw [fin1 ⟨p1, p2, hi'.mpr (by clear hi hi'; omega)⟩])
theorem c_exitsAhead (hF : F = am_F T0 g) (hg : GG g) (hA : Ag M0 M) (h1 : I1 M0) (h2 : I2 M0) (h3 : I3 M0) {e f : Int} (e0 : 0 ≤ e) (e1 : e < 2 * nW M0) (f0 : 0 ≤ f) (f1 : f < 2 * nW M0) : F 166 0 [.ref 1, .int (iI e), .int (iI f)] [] M = some (some (.int (iI (cn (fun h => ¬ h = f ∧ fol M0 e h ∧ ahd M0 e h f) (2 * nW M0).toNat))), M) := by
  have hn := h2.1
  have hj := en_r h2 e0 e1
  have hJ := h1.1
  obtain ⟨hc, -, c3, c4, c5⟩ := h3 (en M0 e) (by omega) (by omega)
  have L := c_exits_l hF hg hA h1 h2 h3 e0 e1 f0 f1 (j := en M0 e) (by omega) (by omega) (A M0 17 (en M0 e)).toNat 0 0 (by omega)
  have e00 : ((0 : Nat) : Int) = 0 := rfl
  rw [e00] at L
  refine s_City_exitsAhead hF hg ?_
  simp (disch := (first | omega | decide | assumption)) only [ltm_s, ok_n, rd_i, rd_j, fd_i, fd_j, wr_i, wr_j, fw_i, fw_j, ci_s, cj_s, cv_s, dv_n, dw_n, rt_1, rt_b, rt_20, rt_21, okb_0, okb_1, okb_b, nar_0, nar_1, nar_b, i_0, i_1, j_0, j_1, i_lit, j_lit, i_n, iI_add, iI_sub, iI_mul, iI_neg, jI_add, jI_sub, jI_mul, jI_neg, sh_1, an_1, xo_1, di_p, dj_p, i_64A, i_64, j_32, lq_ge, lq_lt, lq_le, lq_gt, lq_eq, i_lt, i_le, i_eq, j_eq, iI_A, jI_J, iI_b, iI_v, jI_v, ↓reduceIte, ite_true, ite_false, Int.reduceEq, Int.reduceLT, Int.reduceLE, Int.reduceAdd, Int.reduceSub, Int.reduceMul, Int.reduceNeg, not_true_eq_false, not_false_eq_true, agA hA, agJA hA, ag hA, v_nJ, v_nW, v_nD, v_toD, v_px, v_py, v_rg, v_kd, v_ft, v_on, v_bg, v_en, @nJ_ M0, @nW_ M0, @nD_ M0, @toD_ M0, @px_ M0, @py_ M0, @rg_ M0, @kd_ M0, @ft_ M0, @on_ M0, bt_, c_endOf hF hg hA h2, c_isInFirstHalf hF hg hA h1 h2, L]
  have k1 := cn_row (P := fun h => exi M0 e f h) (o := fun k => A M0 16 (en M0 e * 40 + k)) (A M0 17 (en M0 e)).toNat (2 * nW M0).toNat (fun k l h0 h1 h2 => c4 k l h0 h1 (by omega)) (fun k h0 h1 => by have := (c3 k h0 (by omega)).1; omega)
  have k2 : cn (fun h => (∃ k : Int, 0 ≤ k ∧ k < ((A M0 17 (en M0 e)).toNat : Int) ∧ A M0 16 (en M0 e * 40 + k) = h) ∧ exi M0 e f h) (2 * nW M0).toNat = cn (fun h => ¬ h = f ∧ fol M0 e h ∧ ahd M0 e h f) (2 * nW M0).toNat := cn_cg fun h g0 g1 => by
    unfold exi fol
    constructor
    · rintro ⟨⟨k, k0, k1, ek⟩, a, b, c⟩
      have := (c3 k k0 (by omega)).2
      rw [ek] at this
      exact ⟨a, ⟨this, fun q => b q.symm⟩, c⟩
    · rintro ⟨a, ⟨b1, b2⟩, c⟩
      obtain ⟨k, k0, k1, ek⟩ := c5 h g0 (by omega) b1
      exact ⟨⟨k, k0, by omega, ek⟩, a, fun q => b2 q.symm, c⟩
  rw [show cn (fun k => exi M0 e f (A M0 16 (en M0 e * 40 + k))) (A M0 17 (en M0 e)).toNat = _ from k1.trans k2]
  refine congrArg (fun z => some (some (Value.int (iI z)), M)) ?_
  show 0 + _ - 0 = _
  omega
theorem c_howTurned (hF : F = am_F T0 g) (hg : GG g) (hA : Ag M0 M) (h1 : I1 M0) (h2 : I2 M0) (h3 : I3 M0) {e f : Int} (e0 : 0 ≤ e) (e1 : e < 2 * nW M0) (f0 : 0 ≤ f) (f1 : f < 2 * nW M0) : F 216 0 [.ref 1, .int (iI e), .int (iI f)] [] M = some (some (.int (iI (trn M0 e f))), M) := by
  have hj := en_r h2 e0 e1
  have hJ := h1.1
  have hr := (h1.2.2.1 _ hj.1 hj.2).2.2
  have h4 := hr.2.2.2
  have ra := crs_r h1 h2 e0 e1 f0 f1
  have rb := dt_r h1 h2 e0 e1 f0 f1
  have nz := dt_nz h1 h2 e0 e1 f0 f1
  refine s_City_howTurned hF hg ?_
  simp (disch := (first | omega | decide | assumption)) only [ltm_s, ok_n, rd_i, rd_j, fd_i, fd_j, wr_i, wr_j, fw_i, fw_j, ci_s, cj_s, cv_s, dv_n, dw_n, rt_1, rt_b, rt_20, rt_21, okb_0, okb_1, okb_b, nar_0, nar_1, nar_b, i_0, i_1, j_0, j_1, i_lit, j_lit, i_n, iI_add, iI_sub, iI_mul, iI_neg, jI_add, jI_sub, jI_mul, jI_neg, sh_1, an_1, xo_1, di_p, dj_p, i_64A, i_64, j_32, lq_ge, lq_lt, lq_le, lq_gt, lq_eq, i_lt, i_le, i_eq, j_eq, iI_A, jI_J, iI_b, iI_v, jI_v, ↓reduceIte, ite_true, ite_false, Int.reduceEq, Int.reduceLT, Int.reduceLE, Int.reduceAdd, Int.reduceSub, Int.reduceMul, Int.reduceNeg, not_true_eq_false, not_false_eq_true, agA hA, agJA hA, ag hA, v_nJ, v_nW, v_nD, v_toD, v_px, v_py, v_rg, v_kd, v_ft, v_on, v_bg, v_en, @nJ_ M0, @nW_ M0, @nD_ M0, @toD_ M0, @px_ M0, @py_ M0, @rg_ M0, @kd_ M0, @ft_ M0, @on_ M0, bt_, c_endOf hF hg hA h2, c_exitsAhead hF hg hA h1 h2 h3, c_cross hF hg hA h2, c_dot hF hg hA h2, h4]
  unfold trn
  (repeat' split) <;> first | rfl | (exfalso; omega) | (refine congrArg (fun z => some (some (Value.int (iI z)), M)) ?_; omega)
theorem m_quarter (hF : F = am_F T0 g) (hg : GG g) {a b c d : Int} (r1 : -20000 ≤ a * d - b * c ∧ a * d - b * c ≤ 20000) (r2 : -20000 ≤ a * c + b * d ∧ a * c + b * d ≤ 20000) : F 132 0 [.int (iI a), .int (iI b), .int (iI c), .int (iI d)] [] M = some (some (.int (iI (if a * d - b * c < 0 then 1 else if 0 < a * d - b * c then 3 else if 0 < a * c + b * d then 0 else 2))), M) := by
  refine s_Model_quarter hF hg ?_
  simp (disch := (first | omega | decide | assumption)) only [ltm_s, ok_n, rd_i, rd_j, fd_i, fd_j, wr_i, wr_j, fw_i, fw_j, ci_s, cj_s, cv_s, dv_n, dw_n, rt_1, rt_b, rt_20, rt_21, okb_0, okb_1, okb_b, nar_0, nar_1, nar_b, i_0, i_1, j_0, j_1, i_lit, j_lit, i_n, iI_add, iI_sub, iI_mul, iI_neg, jI_add, jI_sub, jI_mul, jI_neg, sh_1, an_1, xo_1, di_p, dj_p, i_64A, i_64, j_32, lq_ge, lq_lt, lq_le, lq_gt, lq_eq, i_lt, i_le, i_eq, j_eq, iI_A, jI_J, iI_b, iI_v, jI_v, ↓reduceIte, ite_true, ite_false, Int.reduceEq, Int.reduceLT, Int.reduceLE, Int.reduceAdd, Int.reduceSub, Int.reduceMul, Int.reduceNeg, not_true_eq_false, not_false_eq_true, m_crs hF hg]
  (repeat' split) <;> first | rfl | (exfalso; omega) | (refine congrArg (fun z => some (some (Value.int (iI z)), M)) ?_; omega)
theorem m_isAhead (hF : F = am_F T0 g) (hg : GG g) (hA : Ag M0 M) (h1 : I1 M0) (h2 : I2 M0) {e f h : Int} (e0 : 0 ≤ e) (e1 : e < 2 * nW M0) (f0 : 0 ≤ f) (f1 : f < 2 * nW M0) (k0 : 0 ≤ h) (k1 : h < 2 * nW M0) : F 183 0 [.ref 219, .int (iI e), .int (iI f), .int (iI h)] [] M = some (some (.int (iI (bI (ahd M0 e f h)))), M) := by
  have hn := h2.1
  have ra := crs_r h1 h2 e0 e1 f0 f1
  have rb := dt_r h1 h2 e0 e1 f0 f1
  have rc := crs_r h1 h2 e0 e1 k0 k1
  have rd := dt_r h1 h2 e0 e1 k0 k1
  have re := crs_r h1 h2 f0 f1 k0 k1
  have q : ∀ f : Int, (-dx M0 e) * dy M0 f - (-dy M0 e) * dx M0 f = - crs M0 e f ∧ (-dx M0 e) * dx M0 f + (-dy M0 e) * dy M0 f = - dt M0 e f := fun f => by
    unfold crs dt
    constructor <;> grind
  have q1 := m_quarter (M := M) hF hg (a := -dx M0 e) (b := -dy M0 e) (c := dx M0 f) (d := dy M0 f) (by rw [(q f).1]; omega) (by rw [(q f).2]; omega)
  have q2 := m_quarter (M := M) hF hg (a := -dx M0 e) (b := -dy M0 e) (c := dx M0 h) (d := dy M0 h) (by rw [(q h).1]; omega) (by rw [(q h).2]; omega)
  rw [(q f).1, (q f).2] at q1
  rw [(q h).1, (q h).2] at q2
  have w1 : (if -crs M0 e f < 0 then (1 : Int) else if 0 < -crs M0 e f then 3 else if 0 < -dt M0 e f then 0 else 2) = qt M0 e f := by
    unfold qt; (repeat' split) <;> omega
  have w2 : (if -crs M0 e h < 0 then (1 : Int) else if 0 < -crs M0 e h then 3 else if 0 < -dt M0 e h then 0 else 2) = qt M0 e h := by
    unfold qt; (repeat' split) <;> omega
  rw [w1] at q1
  rw [w2] at q2
  have v1 : 0 ≤ qt M0 e f ∧ qt M0 e f ≤ 3 := by unfold qt; (repeat' split) <;> omega
  have v2 : 0 ≤ qt M0 e h ∧ qt M0 e h ≤ 3 := by unfold qt; (repeat' split) <;> omega
  have ec : dx M0 f * dy M0 h - dy M0 f * dx M0 h = crs M0 f h := rfl
  refine s_Model_isAhead hF hg ?_
  simp (disch := (first | omega | decide | assumption)) only [ltm_s, ok_n, rd_i, rd_j, fd_i, fd_j, wr_i, wr_j, fw_i, fw_j, ci_s, cj_s, cv_s, dv_n, dw_n, rt_1, rt_b, rt_20, rt_21, okb_0, okb_1, okb_b, nar_0, nar_1, nar_b, i_0, i_1, j_0, j_1, i_lit, j_lit, i_n, iI_add, iI_sub, iI_mul, iI_neg, jI_add, jI_sub, jI_mul, jI_neg, sh_1, an_1, xo_1, di_p, dj_p, i_64A, i_64, j_32, lq_ge, lq_lt, lq_le, lq_gt, lq_eq, i_lt, i_le, i_eq, j_eq, iI_A, jI_J, iI_b, iI_v, jI_v, ↓reduceIte, ite_true, ite_false, Int.reduceEq, Int.reduceLT, Int.reduceLE, Int.reduceAdd, Int.reduceSub, Int.reduceMul, Int.reduceNeg, not_true_eq_false, not_false_eq_true, agA hA, agJA hA, ag hA, v_nJ, v_nW, v_nD, v_toD, v_px, v_py, v_rg, v_kd, v_ft, v_on, v_bg, v_en, @nJ_ M0, @nW_ M0, @nD_ M0, @toD_ M0, @px_ M0, @py_ M0, @rg_ M0, @kd_ M0, @ft_ M0, @on_ M0, bt_, m_dx hF hg hA h1 h2, m_dy hF hg hA h1 h2, q1, q2, m_crs hF hg, ec]
  unfold ahd
  (repeat' split) <;> first | (rw [bI_t (by omega)]) | (rw [bI_f (by omega)])
theorem m_turned_l (hF : F = am_F T0 g) (hg : GG g) (hA : Ag M0 M) (h1 : I1 M0) (h2 : I2 M0) {e f : Int} (e0 : 0 ≤ e) (e1 : e < 2 * nW M0) (f0 : 0 ≤ f) (f1 : f < 2 * nW M0) : ∀ (n k : Nat) (acc : Int), (k : Int) + n = 2 * nW M0 → F 228 86 [.ref 219, .int (iI e), .int (iI f), .int (iI acc), .int (iI k)] [] M = some (some (.int (iI (acc + cn (fun h => ¬ h = f ∧ fol M0 e h ∧ ahd M0 e h f) (2 * nW M0).toNat - cn (fun h => ¬ h = f ∧ fol M0 e h ∧ ahd M0 e h f) k))), M)
  | 0, k, acc, h => by
    have hn := h2.1
    refine s_Model_turned_86 hF hg ?_
    simp (disch := (first | omega | decide | assumption)) only [ltm_s, ok_n, rd_i, rd_j, fd_i, fd_j, wr_i, wr_j, fw_i, fw_j, ci_s, cj_s, cv_s, dv_n, dw_n, rt_1, rt_b, rt_20, rt_21, okb_0, okb_1, okb_b, nar_0, nar_1, nar_b, i_0, i_1, j_0, j_1, i_lit, j_lit, i_n, iI_add, iI_sub, iI_mul, iI_neg, jI_add, jI_sub, jI_mul, jI_neg, sh_1, an_1, xo_1, di_p, dj_p, i_64A, i_64, j_32, lq_ge, lq_lt, lq_le, lq_gt, lq_eq, i_lt, i_le, i_eq, j_eq, iI_A, jI_J, iI_b, iI_v, jI_v, ↓reduceIte, ite_true, ite_false, Int.reduceEq, Int.reduceLT, Int.reduceLE, Int.reduceAdd, Int.reduceSub, Int.reduceMul, Int.reduceNeg, not_true_eq_false, not_false_eq_true, agA hA, agJA hA, ag hA, v_nJ, v_nW, v_nD, v_toD, v_px, v_py, v_rg, v_kd, v_ft, v_on, v_bg, v_en, @nJ_ M0, @nW_ M0, @nD_ M0, @toD_ M0, @px_ M0, @py_ M0, @rg_ M0, @kd_ M0, @ft_ M0, @on_ M0, bt_]
    rw [if_pos (by omega), show (2 * nW M0).toNat = k by omega]
    first | rfl | (exfalso; omega) | (refine congrArg (fun z => some (some (Value.int (iI z)), M)) ?_; omega)
  | n + 1, k, acc, h => by
    have hn := h2.1
    have ek : ((k + 1 : Nat) : Int) = (k : Int) + 1 := by omega
    have ih0 := m_turned_l hF hg hA h1 h2 e0 e1 f0 f1 n (k + 1) acc (by omega)
    have ih1 := m_turned_l hF hg hA h1 h2 e0 e1 f0 f1 n (k + 1) (acc + 1) (by omega)
    rw [ek] at ih0 ih1
    have cs : cn (fun h => ¬ h = f ∧ fol M0 e h ∧ ahd M0 e h f) (k + 1) = cn (fun h => ¬ h = f ∧ fol M0 e h ∧ ahd M0 e h f) k + bI (¬ (k : Int) = f ∧ fol M0 e k ∧ ahd M0 e k f) := rfl
    rw [cs] at ih0 ih1
    have hlt : ¬ 2 * nW M0 ≤ (k : Int) := by omega
    refine s_Model_turned_86 hF hg ?_
    by_cases p : (k : Int) = f
    · rw [bI_f (fun q => q.1 p)] at ih0 ih1
      simp (disch := (first | omega | decide | assumption)) only [ltm_s, ok_n, rd_i, rd_j, fd_i, fd_j, wr_i, wr_j, fw_i, fw_j, ci_s, cj_s, cv_s, dv_n, dw_n, rt_1, rt_b, rt_20, rt_21, okb_0, okb_1, okb_b, nar_0, nar_1, nar_b, i_0, i_1, j_0, j_1, i_lit, j_lit, i_n, iI_add, iI_sub, iI_mul, iI_neg, jI_add, jI_sub, jI_mul, jI_neg, sh_1, an_1, xo_1, di_p, dj_p, i_64A, i_64, j_32, lq_ge, lq_lt, lq_le, lq_gt, lq_eq, i_lt, i_le, i_eq, j_eq, iI_A, jI_J, iI_b, iI_v, jI_v, ↓reduceIte, ite_true, ite_false, Int.reduceEq, Int.reduceLT, Int.reduceLE, Int.reduceAdd, Int.reduceSub, Int.reduceMul, Int.reduceNeg, not_true_eq_false, not_false_eq_true, agA hA, agJA hA, ag hA, v_nJ, v_nW, v_nD, v_toD, v_px, v_py, v_rg, v_kd, v_ft, v_on, v_bg, v_en, @nJ_ M0, @nW_ M0, @nD_ M0, @toD_ M0, @px_ M0, @py_ M0, @rg_ M0, @kd_ M0, @ft_ M0, @on_ M0, bt_, hlt, ih0, Int.add_zero]
      rw [if_pos p]
    · by_cases q1 : fol M0 e k
      · by_cases q2 : ahd M0 e k f
        · rw [bI_t ⟨p, q1, q2⟩] at ih0 ih1
          simp (disch := (first | omega | decide | assumption)) only [ltm_s, ok_n, rd_i, rd_j, fd_i, fd_j, wr_i, wr_j, fw_i, fw_j, ci_s, cj_s, cv_s, dv_n, dw_n, rt_1, rt_b, rt_20, rt_21, okb_0, okb_1, okb_b, nar_0, nar_1, nar_b, i_0, i_1, j_0, j_1, i_lit, j_lit, i_n, iI_add, iI_sub, iI_mul, iI_neg, jI_add, jI_sub, jI_mul, jI_neg, sh_1, an_1, xo_1, di_p, dj_p, i_64A, i_64, j_32, lq_ge, lq_lt, lq_le, lq_gt, lq_eq, i_lt, i_le, i_eq, j_eq, iI_A, jI_J, iI_b, iI_v, jI_v, ↓reduceIte, ite_true, ite_false, Int.reduceEq, Int.reduceLT, Int.reduceLE, Int.reduceAdd, Int.reduceSub, Int.reduceMul, Int.reduceNeg, not_true_eq_false, not_false_eq_true, agA hA, agJA hA, ag hA, v_nJ, v_nW, v_nD, v_toD, v_px, v_py, v_rg, v_kd, v_ft, v_on, v_bg, v_en, @nJ_ M0, @nW_ M0, @nD_ M0, @toD_ M0, @px_ M0, @py_ M0, @rg_ M0, @kd_ M0, @ft_ M0, @on_ M0, bt_, hlt, ih0, ih1, Int.add_zero, m_follows hF hg hA h1 h2, m_isAhead hF hg hA h1 h2, bI_t q1, bI_t q2, p]
          first | rfl | (exfalso; omega) | (refine congrArg (fun z => some (some (Value.int (iI z)), M)) ?_; omega)
        · rw [bI_f (fun q => q2 q.2.2)] at ih0 ih1
          simp (disch := (first | omega | decide | assumption)) only [ltm_s, ok_n, rd_i, rd_j, fd_i, fd_j, wr_i, wr_j, fw_i, fw_j, ci_s, cj_s, cv_s, dv_n, dw_n, rt_1, rt_b, rt_20, rt_21, okb_0, okb_1, okb_b, nar_0, nar_1, nar_b, i_0, i_1, j_0, j_1, i_lit, j_lit, i_n, iI_add, iI_sub, iI_mul, iI_neg, jI_add, jI_sub, jI_mul, jI_neg, sh_1, an_1, xo_1, di_p, dj_p, i_64A, i_64, j_32, lq_ge, lq_lt, lq_le, lq_gt, lq_eq, i_lt, i_le, i_eq, j_eq, iI_A, jI_J, iI_b, iI_v, jI_v, ↓reduceIte, ite_true, ite_false, Int.reduceEq, Int.reduceLT, Int.reduceLE, Int.reduceAdd, Int.reduceSub, Int.reduceMul, Int.reduceNeg, not_true_eq_false, not_false_eq_true, agA hA, agJA hA, ag hA, v_nJ, v_nW, v_nD, v_toD, v_px, v_py, v_rg, v_kd, v_ft, v_on, v_bg, v_en, @nJ_ M0, @nW_ M0, @nD_ M0, @toD_ M0, @px_ M0, @py_ M0, @rg_ M0, @kd_ M0, @ft_ M0, @on_ M0, bt_, hlt, ih0, ih1, Int.add_zero, m_follows hF hg hA h1 h2, m_isAhead hF hg hA h1 h2, bI_t q1, bI_f q2, p]
      · rw [bI_f (fun q => q1 q.2.1)] at ih0 ih1
        simp (disch := (first | omega | decide | assumption)) only [ltm_s, ok_n, rd_i, rd_j, fd_i, fd_j, wr_i, wr_j, fw_i, fw_j, ci_s, cj_s, cv_s, dv_n, dw_n, rt_1, rt_b, rt_20, rt_21, okb_0, okb_1, okb_b, nar_0, nar_1, nar_b, i_0, i_1, j_0, j_1, i_lit, j_lit, i_n, iI_add, iI_sub, iI_mul, iI_neg, jI_add, jI_sub, jI_mul, jI_neg, sh_1, an_1, xo_1, di_p, dj_p, i_64A, i_64, j_32, lq_ge, lq_lt, lq_le, lq_gt, lq_eq, i_lt, i_le, i_eq, j_eq, iI_A, jI_J, iI_b, iI_v, jI_v, ↓reduceIte, ite_true, ite_false, Int.reduceEq, Int.reduceLT, Int.reduceLE, Int.reduceAdd, Int.reduceSub, Int.reduceMul, Int.reduceNeg, not_true_eq_false, not_false_eq_true, agA hA, agJA hA, ag hA, v_nJ, v_nW, v_nD, v_toD, v_px, v_py, v_rg, v_kd, v_ft, v_on, v_bg, v_en, @nJ_ M0, @nW_ M0, @nD_ M0, @toD_ M0, @px_ M0, @py_ M0, @rg_ M0, @kd_ M0, @ft_ M0, @on_ M0, bt_, hlt, ih0, ih1, Int.add_zero, m_follows hF hg hA h1 h2, bI_f q1, p]
theorem m_turned (hF : F = am_F T0 g) (hg : GG g) (hA : Ag M0 M) (h1 : I1 M0) (h2 : I2 M0) {e f : Int} (e0 : 0 ≤ e) (e1 : e < 2 * nW M0) (f0 : 0 ≤ f) (f1 : f < 2 * nW M0) : F 228 0 [.ref 219, .int (iI e), .int (iI f)] [] M = some (some (.int (iI (trn M0 e f))), M) := by
  have hn := h2.1
  have hj := en_r h2 e0 e1
  have hJ := h1.1
  have hr := (h1.2.2.1 _ hj.1 hj.2).2.2.1
  have ra := crs_r h1 h2 e0 e1 f0 f1
  have rb := dt_r h1 h2 e0 e1 f0 f1
  have ec : dx M0 e * dy M0 f - dy M0 e * dx M0 f = crs M0 e f := rfl
  have ed : dx M0 e * dx M0 f + dy M0 e * dy M0 f = dt M0 e f := rfl
  have L := m_turned_l hF hg hA h1 h2 e0 e1 f0 f1 (2 * nW M0).toNat 0 3 (by omega)
  have e00 : ((0 : Nat) : Int) = 0 := rfl
  rw [e00] at L
  refine s_Model_turned hF hg ?_
  simp (disch := (first | omega | decide | assumption)) only [ltm_s, ok_n, rd_i, rd_j, fd_i, fd_j, wr_i, wr_j, fw_i, fw_j, ci_s, cj_s, cv_s, dv_n, dw_n, rt_1, rt_b, rt_20, rt_21, okb_0, okb_1, okb_b, nar_0, nar_1, nar_b, i_0, i_1, j_0, j_1, i_lit, j_lit, i_n, iI_add, iI_sub, iI_mul, iI_neg, jI_add, jI_sub, jI_mul, jI_neg, sh_1, an_1, xo_1, di_p, dj_p, i_64A, i_64, j_32, lq_ge, lq_lt, lq_le, lq_gt, lq_eq, i_lt, i_le, i_eq, j_eq, iI_A, jI_J, iI_b, iI_v, jI_v, ↓reduceIte, ite_true, ite_false, Int.reduceEq, Int.reduceLT, Int.reduceLE, Int.reduceAdd, Int.reduceSub, Int.reduceMul, Int.reduceNeg, not_true_eq_false, not_false_eq_true, agA hA, agJA hA, ag hA, v_nJ, v_nW, v_nD, v_toD, v_px, v_py, v_rg, v_kd, v_ft, v_on, v_bg, v_en, @nJ_ M0, @nW_ M0, @nD_ M0, @toD_ M0, @px_ M0, @py_ M0, @rg_ M0, @kd_ M0, @ft_ M0, @on_ M0, bt_, m_end hF hg hA h2, m_dx hF hg hA h1 h2, m_dy hF hg hA h1 h2, m_crs hF hg, ec, ed, L]
  unfold trn
  (repeat' split) <;> first | rfl | (exfalso; omega) | (refine congrArg (fun z => some (some (Value.int (iI z)), M)) ?_; show _ - cn _ 0 = _; show _ - 0 = _; omega)
end Tu
