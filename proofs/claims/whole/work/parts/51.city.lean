/-! WHAT STAYS while a call is at work; the city, by both -/
def stb (a k : Nat) : Bool := Nat.blt a 32 || ((Nat.blt 41 a && (Nat.blt a 58 && !(Nat.beq a 42 && Nat.beq k 7))) || (([72, 73, 74, 77, 78, 79, 82, 83, 84, 87, 88, 89] : List Nat).elem a || ((Nat.blt 219 a && Nat.blt a 262) || (Nat.beq a 219 && Nat.blt k 56))))
def Ag (M0 M : am_M) : Prop := ∀ a k : Nat, stb a k = true → M.1 a k = M0.1 a k ∧ M.2 a k = M0.2 a k
theorem Ag.refl (M : am_M) : Ag M M := fun _ _ _ => ⟨rfl, rfl⟩
theorem Ag.trans {M0 M1 M2 : am_M} (h : Ag M0 M1) (h2 : Ag M1 M2) : Ag M0 M2 := fun a k hs => ⟨(h2 a k hs).1.trans (h a k hs).1, (h2 a k hs).2.trans (h a k hs).2⟩
theorem ag {M0 M : am_M} (h : Ag M0 M) {a : Nat} {z : Int} (hs : stb a z.toNat = true) : A M a z = A M0 a z := congrArg Int32.toInt (h a z.toNat hs).1
theorem agJ {M0 M : am_M} (h : Ag M0 M) {a : Nat} {z : Int} (hs : stb a z.toNat = true) : J M a z = J M0 a z := congrArg Int64.toInt (h a z.toNat hs).2
def stA (a : Nat) : Bool := Nat.blt a 32 || ((Nat.blt 42 a && Nat.blt a 58) || (([72, 73, 74, 77, 78, 79, 82, 83, 84, 87, 88, 89] : List Nat).elem a || (Nat.blt 219 a && Nat.blt a 262)))
theorem stA_b {a : Nat} (h : stA a = true) (k : Nat) : stb a k = true := by
  unfold stA at h
  unfold stb
  simp only [Bool.or_eq_true, Bool.and_eq_true] at h ⊢
  rcases h with h | ⟨h1, h2⟩ | h | h
  · exact Or.inl h
  · refine Or.inr (Or.inl ⟨?_, h2, ?_⟩)
    · have := Nat.le_of_ble_eq_true h1
      exact Nat.ble_eq_true_of_le (by omega)
    · have := Nat.le_of_ble_eq_true h1
      have hne : Nat.beq a 42 = false := by
        cases hb : Nat.beq a 42 with
        | true => have := Nat.eq_of_beq_eq_true hb; omega
        | false => rfl
      rw [hne]; rfl
  · exact Or.inr (Or.inr (Or.inl h))
  · exact Or.inr (Or.inr (Or.inr (Or.inl h)))
theorem agA {M0 M : am_M} (h : Ag M0 M) {a : Nat} {z : Int} (hs : stA a = true) : A M a z = A M0 a z := ag h (stA_b hs _)
theorem agJA {M0 M : am_M} (h : Ag M0 M) {a : Nat} {z : Int} (hs : stA a = true) : J M a z = J M0 a z := agJ h (stA_b hs _)
theorem Ag.w {M0 M : am_M} (h : Ag M0 M) {a : Nat} {z v : Int} (hs : stb a z.toNat = false) : Ag M0 (W_ M a z v) := fun b k hb => by
  refine ⟨?_, (h b k hb).2⟩
  show (if b = a ∧ k = z.toNat then _ else M.1 b k) = _
  rw [if_neg fun q => by rw [q.1, q.2, hs] at hb; cases hb]
  exact (h b k hb).1
theorem Ag.x {M0 M : am_M} (h : Ag M0 M) {a : Nat} {z v : Int} (hs : stb a z.toNat = false) : Ag M0 (X_ M a z v) := fun b k hb => by
  refine ⟨(h b k hb).1, ?_⟩
  show (if b = a ∧ k = z.toNat then _ else M.2 b k) = _
  rw [if_neg fun q => by rw [q.1, q.2, hs] at hb; cases hb]
  exact (h b k hb).2
-- numbers
noncomputable section
def nJ (M : am_M) : Int := A M 219 0
def nW (M : am_M) : Int := A M 219 4
def nD (M : am_M) : Int := A M 219 10
def toD (M : am_M) : Int := A M 219 14
def px (M : am_M) (j : Int) : Int := A M 220 j
def py (M : am_M) (j : Int) : Int := A M 221 j
def rg (M : am_M) (j : Int) : Int := A M 222 j
def kd (M : am_M) (w : Int) : Int := A M 223 w
def ft (M : am_M) (w : Int) : Int := A M 226 w
def on (M : am_M) (w : Int) : Int := A M 227 w
def bg (M : am_M) (e : Int) : Int := if e % 2 = 0 then A M 224 (e / 2) else A M 225 (e / 2)
def en (M : am_M) (e : Int) : Int := if e % 2 = 0 then A M 225 (e / 2) else A M 224 (e / 2)
def dx (M : am_M) (e : Int) : Int := px M (en M e) - px M (bg M e)
def dy (M : am_M) (e : Int) : Int := py M (en M e) - py M (bg M e)
def crs (M : am_M) (e f : Int) : Int := dx M e * dy M f - dy M e * dx M f
def dt (M : am_M) (e f : Int) : Int := dx M e * dx M f + dy M e * dy M f
def xo (e : Int) : Int := e + 1 - 2 * (e % 2)
def fol (M : am_M) (e f : Int) : Prop := bg M f = en M e ∧ ¬ e / 2 = f / 2
def opn (M : am_M) (w h : Int) : Prop := (kd M w = 3 → 5 ≤ h ∧ h ≤ 21) ∧ (kd M w = 5 → ¬ h = 3)
def pas (M : am_M) (e h : Int) : Prop := ¬ (on M (e / 2) = 1 ∧ e % 2 = 1) ∧ opn M (e / 2) h
def prc (M : am_M) (w h : Int) : Int :=
  if kd M w = 0 then ft M w else if kd M w = 1 then ft M w + 20 else if kd M w = 2 then ft M w + ft M w / 10
  else if kd M w = 3 then (if 8 ≤ h ∧ h ≤ 16 then ft M w + 20 + 10 else ft M w + 20)
  else if kd M w = 4 then (if 7 ≤ h ∧ h ≤ 9 then 2 * (ft M w + ft M w / 10) else ft M w + ft M w / 10)
  else (if 7 ≤ h ∧ h ≤ 9 then 2 * (ft M w + ft M w / 10) + 100 else ft M w + ft M w / 10 + 100)
end
/-- junctions -/
def I1 (M : am_M) : Prop := (0 ≤ nJ M ∧ nJ M ≤ 24) ∧ A M 1 3 = nJ M ∧ (∀ j : Int, 0 ≤ j → j < nJ M → (0 ≤ px M j ∧ px M j ≤ 99) ∧ (0 ≤ py M j ∧ py M j ≤ 99) ∧ (rg M j = 0 ∨ rg M j = 1) ∧ A M 2 j = px M j ∧ A M 3 j = py M j ∧ A M 4 j = rg M j) ∧ ∀ i j : Int, 0 ≤ i → i < nJ M → 0 ≤ j → j < nJ M → px M i = px M j → py M i = py M j → i = j
/-- ways and legs -/
def I2 (M : am_M) : Prop := (0 ≤ nW M ∧ nW M ≤ 40) ∧ A M 1 7 = nW M ∧ (∀ w : Int, 0 ≤ w → w < nW M → (0 ≤ kd M w ∧ kd M w ≤ 5) ∧ (2 ≤ ft M w ∧ ft M w ≤ 999) ∧ (on M w = 0 ∨ on M w = 1) ∧ A M 5 w = kd M w ∧ A M 6 w = ft M w ∧ A M 7 w = on M w) ∧ ∀ e : Int, 0 ≤ e → e < 2 * nW M → (0 ≤ bg M e ∧ bg M e < nJ M) ∧ ¬ bg M e = en M e ∧ A M 8 e = bg M e ∧ A M 9 e = dx M e ∧ A M 10 e = dy M e
/-- the legs out of each junction -/
def I3 (M : am_M) : Prop := ∀ j : Int, 0 ≤ j → j < 24 → (0 ≤ A M 17 j ∧ A M 17 j ≤ nW M) ∧ (nJ M ≤ j → A M 17 j = 0) ∧ (∀ k : Int, 0 ≤ k → k < A M 17 j → (0 ≤ A M 16 (j * 40 + k) ∧ A M 16 (j * 40 + k) < 2 * nW M) ∧ bg M (A M 16 (j * 40 + k)) = j) ∧ (∀ k l : Int, 0 ≤ k → k < l → l < A M 17 j → A M 16 (j * 40 + k) < A M 16 (j * 40 + l)) ∧ ∀ e : Int, 0 ≤ e → e < 2 * nW M → bg M e = j → ∃ k : Int, 0 ≤ k ∧ k < A M 17 j ∧ A M 16 (j * 40 + k) = e
/-- doors -/
def I4 (M : am_M) : Prop := (0 ≤ nD M ∧ nD M ≤ 8) ∧ A M 1 14 = nD M ∧ ∀ d : Int, 0 ≤ d → d < nD M → (0 ≤ A M 228 d ∧ A M 228 d < nW M) ∧ (1 ≤ A M 229 d ∧ A M 229 d < ft M (A M 228 d)) ∧ (A M 230 d = 0 ∨ A M 230 d = 1) ∧ A M 11 d = A M 228 d ∧ A M 12 d = A M 229 d ∧ A M 13 d = A M 230 d
section Cy
variable {M0 M : am_M} {g : am_G} {F : am_FT}
theorem en_xo {e : Int} : en M0 e = bg M0 (xo e) := by
  unfold en bg xo
  by_cases h : e % 2 = 0
  · rw [if_pos h, if_neg (by omega), show (e + 1 - 2 * (e % 2)) / 2 = e / 2 by omega]
  · rw [if_neg h, if_pos (by omega), show (e + 1 - 2 * (e % 2)) / 2 = e / 2 by omega]
theorem xo_r {e n : Int} (h0 : 0 ≤ e) (h1 : e < 2 * n) : 0 ≤ xo e ∧ xo e < 2 * n := by unfold xo; omega
theorem xo_h (e : Int) : xo e / 2 = e / 2 := by unfold xo; omega
theorem xo_xo (e : Int) : xo (xo e) = e := by unfold xo; omega
theorem bg_xo {e : Int} : bg M0 e = en M0 (xo e) := by rw [en_xo, xo_xo]
theorem dx_xo {e : Int} : dx M0 (xo e) = - dx M0 e := by
  unfold dx; rw [en_xo, xo_xo, ← en_xo]; omega
theorem dy_xo {e : Int} : dy M0 (xo e) = - dy M0 e := by
  unfold dy; rw [en_xo, xo_xo, ← en_xo]; omega
theorem en_r (h2 : I2 M0) {e : Int} (h0 : 0 ≤ e) (h1 : e < 2 * nW M0) : 0 ≤ en M0 e ∧ en M0 e < nJ M0 := by
  rw [en_xo]
  have := xo_r h0 h1
  exact (h2.2.2.2 _ this.1 this.2).1
-- what several calls ask
theorem c_outside (hF : F = am_F T0 g) (hg : GG g) {v l h : Int} (v1 : -2147483648 ≤ v) (v2 : v < 2147483648) (l1 : -2147483648 ≤ l) (l2 : l < 2147483648) (u1 : -2147483648 ≤ h) (u2 : h < 2147483648) : F 72 0 [.int (iI v), .int (iI l), .int (iI h)] [] M = some (some (.int (iI (bI (v < l ∨ h < v)))), M) := by
  refine s_RunSayer_outside hF hg ?_
  simp (disch := (first | omega | decide | assumption)) only [ltm_s, ok_n, rd_i, rd_j, fd_i, fd_j, wr_i, wr_j, fw_i, fw_j, ci_s, cj_s, cv_s, dv_n, dw_n, rt_1, rt_b, rt_20, rt_21, okb_0, okb_1, okb_b, nar_0, nar_1, nar_b, i_0, i_1, j_0, j_1, i_lit, j_lit, i_n, iI_add, iI_sub, iI_mul, iI_neg, jI_add, jI_sub, jI_mul, jI_neg, sh_1, an_1, xo_1, di_p, dj_p, i_64A, i_64, j_32, lq_ge, lq_lt, lq_le, lq_gt, lq_eq, i_lt, i_le, i_eq, j_eq, iI_A, jI_J, iI_b, iI_v, jI_v, ↓reduceIte, ite_true, ite_false, Int.reduceEq, Int.reduceLT, Int.reduceLE, Int.reduceAdd, Int.reduceSub, Int.reduceMul, Int.reduceNeg, not_true_eq_false, not_false_eq_true]
  by_cases a : v < l
  · rw [if_pos a, bI_t (Or.inl a)]
  · by_cases b : v ≤ h
    · rw [if_neg a, if_pos b, bI_f (by omega)]
    · rw [if_neg a, if_neg b, bI_t (by omega)]
theorem m_inn (hF : F = am_F T0 g) (hg : GG g) {v l h : Int} (v1 : -2147483648 ≤ v) (v2 : v < 2147483648) (l1 : -2147483648 ≤ l) (l2 : l < 2147483648) (u1 : -2147483648 ≤ h) (u2 : h < 2147483648) : F 53 0 [.int (iI v), .int (iI l), .int (iI h)] [] M = some (some (.int (iI (bI (l ≤ v ∧ v ≤ h)))), M) := by
  refine s_Model_in hF hg ?_
  simp (disch := (first | omega | decide | assumption)) only [ltm_s, ok_n, rd_i, rd_j, fd_i, fd_j, wr_i, wr_j, fw_i, fw_j, ci_s, cj_s, cv_s, dv_n, dw_n, rt_1, rt_b, rt_20, rt_21, okb_0, okb_1, okb_b, nar_0, nar_1, nar_b, i_0, i_1, j_0, j_1, i_lit, j_lit, i_n, iI_add, iI_sub, iI_mul, iI_neg, jI_add, jI_sub, jI_mul, jI_neg, sh_1, an_1, xo_1, di_p, dj_p, i_64A, i_64, j_32, lq_ge, lq_lt, lq_le, lq_gt, lq_eq, i_lt, i_le, i_eq, j_eq, iI_A, jI_J, iI_b, iI_v, jI_v, ↓reduceIte, ite_true, ite_false, Int.reduceEq, Int.reduceLT, Int.reduceLE, Int.reduceAdd, Int.reduceSub, Int.reduceMul, Int.reduceNeg, not_true_eq_false, not_false_eq_true]
  by_cases a : v < l
  · rw [if_pos a, bI_f (by omega)]
  · by_cases b : h < v
    · rw [if_neg a, if_pos b, bI_f (by omega)]
    · rw [if_neg a, if_neg b, bI_t (by omega)]
theorem c_noBit (hF : F = am_F T0 g) (hg : GG g) {v : Int} (v1 : -2147483648 ≤ v) (v2 : v < 2147483648) : F 148 0 [.int (iI v)] [] M = some (some (.int (iI (bI (v < 0 ∨ 1 < v)))), M) := by
  refine s_RunSayer_noBit hF hg ?_
  simp (disch := (first | omega | decide | assumption)) only [ltm_s, ok_n, rd_i, rd_j, fd_i, fd_j, wr_i, wr_j, fw_i, fw_j, ci_s, cj_s, cv_s, dv_n, dw_n, rt_1, rt_b, rt_20, rt_21, okb_0, okb_1, okb_b, nar_0, nar_1, nar_b, i_0, i_1, j_0, j_1, i_lit, j_lit, i_n, iI_add, iI_sub, iI_mul, iI_neg, jI_add, jI_sub, jI_mul, jI_neg, sh_1, an_1, xo_1, di_p, dj_p, i_64A, i_64, j_32, lq_ge, lq_lt, lq_le, lq_gt, lq_eq, i_lt, i_le, i_eq, j_eq, iI_A, jI_J, iI_b, iI_v, jI_v, ↓reduceIte, ite_true, ite_false, Int.reduceEq, Int.reduceLT, Int.reduceLE, Int.reduceAdd, Int.reduceSub, Int.reduceMul, Int.reduceNeg, not_true_eq_false, not_false_eq_true, c_outside hF hg]
theorem c_legCount (hF : F = am_F T0 g) (hg : GG g) (hA : Ag M0 M) (h2 : I2 M0) : F 10 0 [.ref 1] [] M = some (some (.int (iI (2 * nW M0))), M) := by
  refine s_City_legCount hF hg ?_
  simp (disch := (first | omega | decide | assumption)) only [ltm_s, ok_n, rd_i, rd_j, fd_i, fd_j, wr_i, wr_j, fw_i, fw_j, ci_s, cj_s, cv_s, dv_n, dw_n, rt_1, rt_b, rt_20, rt_21, okb_0, okb_1, okb_b, nar_0, nar_1, nar_b, i_0, i_1, j_0, j_1, i_lit, j_lit, i_n, iI_add, iI_sub, iI_mul, iI_neg, jI_add, jI_sub, jI_mul, jI_neg, sh_1, an_1, xo_1, di_p, dj_p, i_64A, i_64, j_32, lq_ge, lq_lt, lq_le, lq_gt, lq_eq, i_lt, i_le, i_eq, j_eq, iI_A, jI_J, iI_b, iI_v, jI_v, ↓reduceIte, ite_true, ite_false, Int.reduceEq, Int.reduceLT, Int.reduceLE, Int.reduceAdd, Int.reduceSub, Int.reduceMul, Int.reduceNeg, not_true_eq_false, not_false_eq_true, agA hA, ag hA, h2.2.1]
theorem c_startOf (hF : F = am_F T0 g) (hg : GG g) (hA : Ag M0 M) (h2 : I2 M0) {e : Int} (h0 : 0 ≤ e) (h1 : e < 2 * nW M0) : F 13 0 [.ref 1, .int (iI e)] [] M = some (some (.int (iI (bg M0 e))), M) := by
  have hn := h2.1
  refine s_City_startOf hF hg ?_
  simp (disch := (first | omega | decide | assumption)) only [ltm_s, ok_n, rd_i, rd_j, fd_i, fd_j, wr_i, wr_j, fw_i, fw_j, ci_s, cj_s, cv_s, dv_n, dw_n, rt_1, rt_b, rt_20, rt_21, okb_0, okb_1, okb_b, nar_0, nar_1, nar_b, i_0, i_1, j_0, j_1, i_lit, j_lit, i_n, iI_add, iI_sub, iI_mul, iI_neg, jI_add, jI_sub, jI_mul, jI_neg, sh_1, an_1, xo_1, di_p, dj_p, i_64A, i_64, j_32, lq_ge, lq_lt, lq_le, lq_gt, lq_eq, i_lt, i_le, i_eq, j_eq, iI_A, jI_J, iI_b, iI_v, jI_v, ↓reduceIte, ite_true, ite_false, Int.reduceEq, Int.reduceLT, Int.reduceLE, Int.reduceAdd, Int.reduceSub, Int.reduceMul, Int.reduceNeg, not_true_eq_false, not_false_eq_true, agA hA, ag hA, (h2.2.2.2 e h0 h1).2.2.1]
theorem c_endOf (hF : F = am_F T0 g) (hg : GG g) (hA : Ag M0 M) (h2 : I2 M0) {e : Int} (h0 : 0 ≤ e) (h1 : e < 2 * nW M0) : F 4 0 [.ref 1, .int (iI e)] [] M = some (some (.int (iI (en M0 e))), M) := by
  have hn := h2.1
  have hx := xo_r h0 h1
  have hc := (h2.2.2.2 (xo e) hx.1 hx.2).2.2.1
  rw [en_xo]
  unfold xo at hx hc ⊢
  refine s_City_endOf hF hg ?_
  simp (disch := (first | omega | decide | assumption)) only [ltm_s, ok_n, rd_i, rd_j, fd_i, fd_j, wr_i, wr_j, fw_i, fw_j, ci_s, cj_s, cv_s, dv_n, dw_n, rt_1, rt_b, rt_20, rt_21, okb_0, okb_1, okb_b, nar_0, nar_1, nar_b, i_0, i_1, j_0, j_1, i_lit, j_lit, i_n, iI_add, iI_sub, iI_mul, iI_neg, jI_add, jI_sub, jI_mul, jI_neg, sh_1, an_1, xo_1, di_p, dj_p, i_64A, i_64, j_32, lq_ge, lq_lt, lq_le, lq_gt, lq_eq, i_lt, i_le, i_eq, j_eq, iI_A, jI_J, iI_b, iI_v, jI_v, ↓reduceIte, ite_true, ite_false, Int.reduceEq, Int.reduceLT, Int.reduceLE, Int.reduceAdd, Int.reduceSub, Int.reduceMul, Int.reduceNeg, not_true_eq_false, not_false_eq_true, agA hA, ag hA, hc]
theorem nJ_ : A M 219 0 = nJ M := rfl
theorem nW_ : A M 219 4 = nW M := rfl
theorem nD_ : A M 219 10 = nD M := rfl
theorem toD_ : A M 219 14 = toD M := rfl
theorem px_ {j : Int} : A M 220 j = px M j := rfl
theorem py_ {j : Int} : A M 221 j = py M j := rfl
theorem rg_ {j : Int} : A M 222 j = rg M j := rfl
theorem kd_ {j : Int} : A M 223 j = kd M j := rfl
theorem ft_ {j : Int} : A M 226 j = ft M j := rfl
theorem on_ {j : Int} : A M 227 j = on M j := rfl
theorem v_nJ : (iI (nJ M)).toInt = nJ M := iI_A _ _ _
theorem v_nW : (iI (nW M)).toInt = nW M := iI_A _ _ _
theorem v_nD : (iI (nD M)).toInt = nD M := iI_A _ _ _
theorem v_toD : (iI (toD M)).toInt = toD M := iI_A _ _ _
theorem v_px {j : Int} : (iI (px M j)).toInt = px M j := iI_A _ _ _
theorem v_py {j : Int} : (iI (py M j)).toInt = py M j := iI_A _ _ _
theorem v_rg {j : Int} : (iI (rg M j)).toInt = rg M j := iI_A _ _ _
theorem v_kd {j : Int} : (iI (kd M j)).toInt = kd M j := iI_A _ _ _
theorem v_ft {j : Int} : (iI (ft M j)).toInt = ft M j := iI_A _ _ _
theorem v_on {j : Int} : (iI (on M j)).toInt = on M j := iI_A _ _ _
theorem v_bg {e : Int} : (iI (bg M e)).toInt = bg M e := by unfold bg; split <;> exact iI_A _ _ _
theorem v_en {e : Int} : (iI (en M e)).toInt = en M e := by unfold en; split <;> exact iI_A _ _ _
end Cy
/-- a bit, as both take it -/
def bt (x i : Int) : Int := ((iI x >>> (iI i &&& iI 31)) &&& iI 1).toInt
theorem bt_ {x i : Int} : ((iI x >>> (iI i &&& iI 31)) &&& iI 1).toInt = bt x i := rfl
theorem bI_ot {P Q : Prop} (h : P) : bI (P ∨ Q) = 1 := bI_t (Or.inl h)
theorem bI_of {P Q : Prop} (h : ¬ P) : bI (P ∨ Q) = bI Q := bI_cg ⟨fun q => q.resolve_left h, Or.inr⟩
theorem ex_s {C : Int → Prop} {i n : Int} (h : i < n) : (∃ k : Int, i ≤ k ∧ k < n ∧ C k) ↔ C i ∨ ∃ k : Int, i + 1 ≤ k ∧ k < n ∧ C k := by
  constructor
  · rintro ⟨k, h1, h2, h3⟩
    by_cases e : k = i
    · subst e; exact Or.inl h3
    · exact Or.inr ⟨k, by omega, h2, h3⟩
  · rintro (h1 | ⟨k, h1, h2, h3⟩)
    · exact ⟨i, Int.le_refl _, h, h1⟩
    · exact ⟨k, by omega, h2, h3⟩
theorem ex_0 {C : Int → Prop} {i n : Int} (h : n ≤ i) : ¬ ∃ k : Int, i ≤ k ∧ k < n ∧ C k := by
  rintro ⟨k, h1, h2, -⟩; omega
section Cz
variable {M0 M : am_M} {g : am_G} {F : am_FT}
theorem r8 (h2 : I2 M0) {e : Int} (h0 : 0 ≤ e) (h1 : e < 2 * nW M0) : A M0 8 e = bg M0 e := (h2.2.2.2 e h0 h1).2.2.1
theorem r9 (h2 : I2 M0) {e : Int} (h0 : 0 ≤ e) (h1 : e < 2 * nW M0) : A M0 9 e = dx M0 e := (h2.2.2.2 e h0 h1).2.2.2.1
theorem r10 (h2 : I2 M0) {e : Int} (h0 : 0 ≤ e) (h1 : e < 2 * nW M0) : A M0 10 e = dy M0 e := (h2.2.2.2 e h0 h1).2.2.2.2
theorem r5 (h2 : I2 M0) {w : Int} (h0 : 0 ≤ w) (h1 : w < nW M0) : A M0 5 w = kd M0 w := (h2.2.2.1 w h0 h1).2.2.2.1
theorem r6 (h2 : I2 M0) {w : Int} (h0 : 0 ≤ w) (h1 : w < nW M0) : A M0 6 w = ft M0 w := (h2.2.2.1 w h0 h1).2.2.2.2.1
theorem r7 (h2 : I2 M0) {w : Int} (h0 : 0 ≤ w) (h1 : w < nW M0) : A M0 7 w = on M0 w := (h2.2.2.1 w h0 h1).2.2.2.2.2
theorem c_cross (hF : F = am_F T0 g) (hg : GG g) (hA : Ag M0 M) (h2 : I2 M0) {e f : Int} (h0 : 0 ≤ e) (h1 : e < 2 * nW M0) (k0 : 0 ≤ f) (k1 : f < 2 * nW M0) : F 2 0 [.ref 1, .int (iI e), .int (iI f)] [] M = some (some (.int (iI (crs M0 e f))), M) := by
  have hn := h2.1
  refine s_City_cross hF hg ?_
  simp (disch := (first | omega | decide | assumption)) only [ltm_s, ok_n, rd_i, rd_j, fd_i, fd_j, wr_i, wr_j, fw_i, fw_j, ci_s, cj_s, cv_s, dv_n, dw_n, rt_1, rt_b, rt_20, rt_21, okb_0, okb_1, okb_b, nar_0, nar_1, nar_b, i_0, i_1, j_0, j_1, i_lit, j_lit, i_n, iI_add, iI_sub, iI_mul, iI_neg, jI_add, jI_sub, jI_mul, jI_neg, sh_1, an_1, xo_1, di_p, dj_p, i_64A, i_64, j_32, lq_ge, lq_lt, lq_le, lq_gt, lq_eq, i_lt, i_le, i_eq, j_eq, iI_A, jI_J, iI_b, iI_v, jI_v, ↓reduceIte, ite_true, ite_false, Int.reduceEq, Int.reduceLT, Int.reduceLE, Int.reduceAdd, Int.reduceSub, Int.reduceMul, Int.reduceNeg, not_true_eq_false, not_false_eq_true, agA hA, agJA hA, ag hA, v_nJ, v_nW, v_nD, v_toD, v_px, v_py, v_rg, v_kd, v_ft, v_on, v_bg, v_en, @nJ_ M0, @nW_ M0, @nD_ M0, @toD_ M0, @px_ M0, @py_ M0, @rg_ M0, @kd_ M0, @ft_ M0, @on_ M0, bt_, r9 h2, r10 h2, crs]
theorem c_dot (hF : F = am_F T0 g) (hg : GG g) (hA : Ag M0 M) (h2 : I2 M0) {e f : Int} (h0 : 0 ≤ e) (h1 : e < 2 * nW M0) (k0 : 0 ≤ f) (k1 : f < 2 * nW M0) : F 3 0 [.ref 1, .int (iI e), .int (iI f)] [] M = some (some (.int (iI (dt M0 e f))), M) := by
  have hn := h2.1
  refine s_City_dot hF hg ?_
  simp (disch := (first | omega | decide | assumption)) only [ltm_s, ok_n, rd_i, rd_j, fd_i, fd_j, wr_i, wr_j, fw_i, fw_j, ci_s, cj_s, cv_s, dv_n, dw_n, rt_1, rt_b, rt_20, rt_21, okb_0, okb_1, okb_b, nar_0, nar_1, nar_b, i_0, i_1, j_0, j_1, i_lit, j_lit, i_n, iI_add, iI_sub, iI_mul, iI_neg, jI_add, jI_sub, jI_mul, jI_neg, sh_1, an_1, xo_1, di_p, dj_p, i_64A, i_64, j_32, lq_ge, lq_lt, lq_le, lq_gt, lq_eq, i_lt, i_le, i_eq, j_eq, iI_A, jI_J, iI_b, iI_v, jI_v, ↓reduceIte, ite_true, ite_false, Int.reduceEq, Int.reduceLT, Int.reduceLE, Int.reduceAdd, Int.reduceSub, Int.reduceMul, Int.reduceNeg, not_true_eq_false, not_false_eq_true, agA hA, agJA hA, ag hA, v_nJ, v_nW, v_nD, v_toD, v_px, v_py, v_rg, v_kd, v_ft, v_on, v_bg, v_en, @nJ_ M0, @nW_ M0, @nD_ M0, @toD_ M0, @px_ M0, @py_ M0, @rg_ M0, @kd_ M0, @ft_ M0, @on_ M0, bt_, r9 h2, r10 h2, dt]
theorem c_outLeg (hF : F = am_F T0 g) (hg : GG g) (hA : Ag M0 M) {j k : Int} (h0 : 0 ≤ j) (h1 : j < 24) (k0 : 0 ≤ k) (k1 : k < 40) : F 11 0 [.ref 1, .int (iI j), .int (iI k)] [] M = some (some (.int (iI (A M0 16 (j * 40 + k)))), M) := by
  refine s_City_outLeg hF hg ?_
  simp (disch := (first | omega | decide | assumption)) only [ltm_s, ok_n, rd_i, rd_j, fd_i, fd_j, wr_i, wr_j, fw_i, fw_j, ci_s, cj_s, cv_s, dv_n, dw_n, rt_1, rt_b, rt_20, rt_21, okb_0, okb_1, okb_b, nar_0, nar_1, nar_b, i_0, i_1, j_0, j_1, i_lit, j_lit, i_n, iI_add, iI_sub, iI_mul, iI_neg, jI_add, jI_sub, jI_mul, jI_neg, sh_1, an_1, xo_1, di_p, dj_p, i_64A, i_64, j_32, lq_ge, lq_lt, lq_le, lq_gt, lq_eq, i_lt, i_le, i_eq, j_eq, iI_A, jI_J, iI_b, iI_v, jI_v, ↓reduceIte, ite_true, ite_false, Int.reduceEq, Int.reduceLT, Int.reduceLE, Int.reduceAdd, Int.reduceSub, Int.reduceMul, Int.reduceNeg, not_true_eq_false, not_false_eq_true, agA hA, agJA hA, ag hA, v_nJ, v_nW, v_nD, v_toD, v_px, v_py, v_rg, v_kd, v_ft, v_on, v_bg, v_en, @nJ_ M0, @nW_ M0, @nD_ M0, @toD_ M0, @px_ M0, @py_ M0, @rg_ M0, @kd_ M0, @ft_ M0, @on_ M0, bt_]
theorem c_follows (hF : F = am_F T0 g) (hg : GG g) (hA : Ag M0 M) (h1 : I1 M0) (h2 : I2 M0) {e f : Int} (e0 : 0 ≤ e) (e1 : e < 2 * nW M0) (f0 : 0 ≤ f) (f1 : f < 2 * nW M0) : F 86 0 [.ref 1, .int (iI e), .int (iI f)] [] M = some (some (.int (iI (bI (fol M0 e f)))), M) := by
  have hn := h2.1
  have hj := h1.1
  have a := (h2.2.2.2 f f0 f1).1
  have b := en_r h2 e0 e1
  refine s_City_follows hF hg ?_
  simp (disch := (first | omega | decide | assumption)) only [ltm_s, ok_n, rd_i, rd_j, fd_i, fd_j, wr_i, wr_j, fw_i, fw_j, ci_s, cj_s, cv_s, dv_n, dw_n, rt_1, rt_b, rt_20, rt_21, okb_0, okb_1, okb_b, nar_0, nar_1, nar_b, i_0, i_1, j_0, j_1, i_lit, j_lit, i_n, iI_add, iI_sub, iI_mul, iI_neg, jI_add, jI_sub, jI_mul, jI_neg, sh_1, an_1, xo_1, di_p, dj_p, i_64A, i_64, j_32, lq_ge, lq_lt, lq_le, lq_gt, lq_eq, i_lt, i_le, i_eq, j_eq, iI_A, jI_J, iI_b, iI_v, jI_v, ↓reduceIte, ite_true, ite_false, Int.reduceEq, Int.reduceLT, Int.reduceLE, Int.reduceAdd, Int.reduceSub, Int.reduceMul, Int.reduceNeg, not_true_eq_false, not_false_eq_true, agA hA, agJA hA, ag hA, v_nJ, v_nW, v_nD, v_toD, v_px, v_py, v_rg, v_kd, v_ft, v_on, v_bg, v_en, @nJ_ M0, @nW_ M0, @nD_ M0, @toD_ M0, @px_ M0, @py_ M0, @rg_ M0, @kd_ M0, @ft_ M0, @on_ M0, bt_, c_endOf hF hg hA h2, c_startOf hF hg hA h2]
  unfold fol
  by_cases q : en M0 e = bg M0 f
  · rw [if_pos q]
    by_cases q2 : e / 2 = f / 2
    · rw [if_pos q2, bI_f (fun x => x.2 q2)]
    · rw [if_neg q2, bI_t ⟨q.symm, q2⟩]
  · rw [if_neg q, bI_f (fun x => q x.1.symm)]
theorem c_isOpen (hF : F = am_F T0 g) (hg : GG g) (hA : Ag M0 M) (h2 : I2 M0) {w h : Int} (h0 : 0 ≤ w) (h1 : w < nW M0) (k0 : 0 ≤ h) (k1 : h < 24) : F 9 0 [.ref 1, .int (iI w), .int (iI h)] [] M = some (some (.int (iI (bI (opn M0 w h)))), M) := by
  have hn := h2.1
  have hk := (h2.2.2.1 w h0 h1).1
  refine s_City_isOpen hF hg ?_
  simp (disch := (first | omega | decide | assumption)) only [ltm_s, ok_n, rd_i, rd_j, fd_i, fd_j, wr_i, wr_j, fw_i, fw_j, ci_s, cj_s, cv_s, dv_n, dw_n, rt_1, rt_b, rt_20, rt_21, okb_0, okb_1, okb_b, nar_0, nar_1, nar_b, i_0, i_1, j_0, j_1, i_lit, j_lit, i_n, iI_add, iI_sub, iI_mul, iI_neg, jI_add, jI_sub, jI_mul, jI_neg, sh_1, an_1, xo_1, di_p, dj_p, i_64A, i_64, j_32, lq_ge, lq_lt, lq_le, lq_gt, lq_eq, i_lt, i_le, i_eq, j_eq, iI_A, jI_J, iI_b, iI_v, jI_v, ↓reduceIte, ite_true, ite_false, Int.reduceEq, Int.reduceLT, Int.reduceLE, Int.reduceAdd, Int.reduceSub, Int.reduceMul, Int.reduceNeg, not_true_eq_false, not_false_eq_true, agA hA, agJA hA, ag hA, v_nJ, v_nW, v_nD, v_toD, v_px, v_py, v_rg, v_kd, v_ft, v_on, v_bg, v_en, @nJ_ M0, @nW_ M0, @nD_ M0, @toD_ M0, @px_ M0, @py_ M0, @rg_ M0, @kd_ M0, @ft_ M0, @on_ M0, bt_, r5 h2]
  unfold opn
  (repeat' split) <;> first | (rw [bI_t (by omega)]) | (rw [bI_f (by omega)])
theorem m_isOpen (hF : F = am_F T0 g) (hg : GG g) (hA : Ag M0 M) (h2 : I2 M0) {w h : Int} (h0 : 0 ≤ w) (h1 : w < nW M0) (k0 : 0 ≤ h) (k1 : h < 24) : F 118 0 [.ref 219, .int (iI w), .int (iI h)] [] M = some (some (.int (iI (bI (opn M0 w h)))), M) := by
  have hn := h2.1
  have hk := (h2.2.2.1 w h0 h1).1
  refine s_Model_isOpen hF hg ?_
  simp (disch := (first | omega | decide | assumption)) only [ltm_s, ok_n, rd_i, rd_j, fd_i, fd_j, wr_i, wr_j, fw_i, fw_j, ci_s, cj_s, cv_s, dv_n, dw_n, rt_1, rt_b, rt_20, rt_21, okb_0, okb_1, okb_b, nar_0, nar_1, nar_b, i_0, i_1, j_0, j_1, i_lit, j_lit, i_n, iI_add, iI_sub, iI_mul, iI_neg, jI_add, jI_sub, jI_mul, jI_neg, sh_1, an_1, xo_1, di_p, dj_p, i_64A, i_64, j_32, lq_ge, lq_lt, lq_le, lq_gt, lq_eq, i_lt, i_le, i_eq, j_eq, iI_A, jI_J, iI_b, iI_v, jI_v, ↓reduceIte, ite_true, ite_false, Int.reduceEq, Int.reduceLT, Int.reduceLE, Int.reduceAdd, Int.reduceSub, Int.reduceMul, Int.reduceNeg, not_true_eq_false, not_false_eq_true, agA hA, agJA hA, ag hA, v_nJ, v_nW, v_nD, v_toD, v_px, v_py, v_rg, v_kd, v_ft, v_on, v_bg, v_en, @nJ_ M0, @nW_ M0, @nD_ M0, @toD_ M0, @px_ M0, @py_ M0, @rg_ M0, @kd_ M0, @ft_ M0, @on_ M0, bt_, m_inn hF hg]
  unfold opn
  (repeat' split) <;> first | (rw [bI_t (by omega)]) | (rw [bI_f (by omega)]) | (refine congrArg (fun z => some (some (Value.int (iI z)), M)) (bI_cg ?_); omega)
theorem c_isPassable (hF : F = am_F T0 g) (hg : GG g) (hA : Ag M0 M) (h2 : I2 M0) {e h : Int} (h0 : 0 ≤ e) (h1 : e < 2 * nW M0) (k0 : 0 ≤ h) (k1 : h < 24) : F 88 0 [.ref 1, .int (iI e), .int (iI h)] [] M = some (some (.int (iI (bI (pas M0 e h)))), M) := by
  have hn := h2.1
  refine s_City_isPassable hF hg ?_
  unfold pas
  by_cases q : opn M0 (e / 2) h
  · simp (disch := (first | omega | decide | assumption)) only [ltm_s, ok_n, rd_i, rd_j, fd_i, fd_j, wr_i, wr_j, fw_i, fw_j, ci_s, cj_s, cv_s, dv_n, dw_n, rt_1, rt_b, rt_20, rt_21, okb_0, okb_1, okb_b, nar_0, nar_1, nar_b, i_0, i_1, j_0, j_1, i_lit, j_lit, i_n, iI_add, iI_sub, iI_mul, iI_neg, jI_add, jI_sub, jI_mul, jI_neg, sh_1, an_1, xo_1, di_p, dj_p, i_64A, i_64, j_32, lq_ge, lq_lt, lq_le, lq_gt, lq_eq, i_lt, i_le, i_eq, j_eq, iI_A, jI_J, iI_b, iI_v, jI_v, ↓reduceIte, ite_true, ite_false, Int.reduceEq, Int.reduceLT, Int.reduceLE, Int.reduceAdd, Int.reduceSub, Int.reduceMul, Int.reduceNeg, not_true_eq_false, not_false_eq_true, agA hA, agJA hA, ag hA, v_nJ, v_nW, v_nD, v_toD, v_px, v_py, v_rg, v_kd, v_ft, v_on, v_bg, v_en, @nJ_ M0, @nW_ M0, @nD_ M0, @toD_ M0, @px_ M0, @py_ M0, @rg_ M0, @kd_ M0, @ft_ M0, @on_ M0, bt_, r7 h2, c_isOpen hF hg hA h2, bI_t q]
    (repeat' split) <;> first | (rw [bI_t ⟨by omega, q⟩]) | (rw [bI_f (fun x => x.1 (by omega))])
  · simp (disch := (first | omega | decide | assumption)) only [ltm_s, ok_n, rd_i, rd_j, fd_i, fd_j, wr_i, wr_j, fw_i, fw_j, ci_s, cj_s, cv_s, dv_n, dw_n, rt_1, rt_b, rt_20, rt_21, okb_0, okb_1, okb_b, nar_0, nar_1, nar_b, i_0, i_1, j_0, j_1, i_lit, j_lit, i_n, iI_add, iI_sub, iI_mul, iI_neg, jI_add, jI_sub, jI_mul, jI_neg, sh_1, an_1, xo_1, di_p, dj_p, i_64A, i_64, j_32, lq_ge, lq_lt, lq_le, lq_gt, lq_eq, i_lt, i_le, i_eq, j_eq, iI_A, jI_J, iI_b, iI_v, jI_v, ↓reduceIte, ite_true, ite_false, Int.reduceEq, Int.reduceLT, Int.reduceLE, Int.reduceAdd, Int.reduceSub, Int.reduceMul, Int.reduceNeg, not_true_eq_false, not_false_eq_true, agA hA, agJA hA, ag hA, v_nJ, v_nW, v_nD, v_toD, v_px, v_py, v_rg, v_kd, v_ft, v_on, v_bg, v_en, @nJ_ M0, @nW_ M0, @nD_ M0, @toD_ M0, @px_ M0, @py_ M0, @rg_ M0, @kd_ M0, @ft_ M0, @on_ M0, bt_, r7 h2, c_isOpen hF hg hA h2, bI_f q]
    (repeat' split) <;> (rw [bI_f (fun x => q x.2)])
theorem c_priceOf (hF : F = am_F T0 g) (hg : GG g) (hA : Ag M0 M) (h2 : I2 M0) {w h : Int} (h0 : 0 ≤ w) (h1 : w < nW M0) (k0 : 0 ≤ h) (k1 : h < 24) : F 12 0 [.ref 1, .int (iI w), .int (iI h)] [] M = some (some (.int (iI (prc M0 w h))), M) := by
  have hn := h2.1
  have hk := (h2.2.2.1 w h0 h1).1
  have hf := (h2.2.2.1 w h0 h1).2.1
  refine s_City_priceOf hF hg ?_
  simp (disch := (first | omega | decide | assumption)) only [ltm_s, ok_n, rd_i, rd_j, fd_i, fd_j, wr_i, wr_j, fw_i, fw_j, ci_s, cj_s, cv_s, dv_n, dw_n, rt_1, rt_b, rt_20, rt_21, okb_0, okb_1, okb_b, nar_0, nar_1, nar_b, i_0, i_1, j_0, j_1, i_lit, j_lit, i_n, iI_add, iI_sub, iI_mul, iI_neg, jI_add, jI_sub, jI_mul, jI_neg, sh_1, an_1, xo_1, di_p, dj_p, i_64A, i_64, j_32, lq_ge, lq_lt, lq_le, lq_gt, lq_eq, i_lt, i_le, i_eq, j_eq, iI_A, jI_J, iI_b, iI_v, jI_v, ↓reduceIte, ite_true, ite_false, Int.reduceEq, Int.reduceLT, Int.reduceLE, Int.reduceAdd, Int.reduceSub, Int.reduceMul, Int.reduceNeg, not_true_eq_false, not_false_eq_true, agA hA, agJA hA, ag hA, v_nJ, v_nW, v_nD, v_toD, v_px, v_py, v_rg, v_kd, v_ft, v_on, v_bg, v_en, @nJ_ M0, @nW_ M0, @nD_ M0, @toD_ M0, @px_ M0, @py_ M0, @rg_ M0, @kd_ M0, @ft_ M0, @on_ M0, bt_, r5 h2, r6 h2]
  unfold prc
  (repeat' split) <;> first | rfl | (exfalso; omega) | (refine congrArg (fun z => some (some (Value.int (iI z)), M)) ?_; omega)
theorem m_priceOf (hF : F = am_F T0 g) (hg : GG g) (hA : Ag M0 M) (h2 : I2 M0) {w h : Int} (h0 : 0 ≤ w) (h1 : w < nW M0) (k0 : 0 ≤ h) (k1 : h < 24) : F 130 0 [.ref 219, .int (iI w), .int (iI h)] [] M = some (some (.int (iI (prc M0 w h))), M) := by
  have hn := h2.1
  have hk := (h2.2.2.1 w h0 h1).1
  have hf := (h2.2.2.1 w h0 h1).2.1
  refine s_Model_priceOf hF hg ?_
  simp (disch := (first | omega | decide | assumption)) only [ltm_s, ok_n, rd_i, rd_j, fd_i, fd_j, wr_i, wr_j, fw_i, fw_j, ci_s, cj_s, cv_s, dv_n, dw_n, rt_1, rt_b, rt_20, rt_21, okb_0, okb_1, okb_b, nar_0, nar_1, nar_b, i_0, i_1, j_0, j_1, i_lit, j_lit, i_n, iI_add, iI_sub, iI_mul, iI_neg, jI_add, jI_sub, jI_mul, jI_neg, sh_1, an_1, xo_1, di_p, dj_p, i_64A, i_64, j_32, lq_ge, lq_lt, lq_le, lq_gt, lq_eq, i_lt, i_le, i_eq, j_eq, iI_A, jI_J, iI_b, iI_v, jI_v, ↓reduceIte, ite_true, ite_false, Int.reduceEq, Int.reduceLT, Int.reduceLE, Int.reduceAdd, Int.reduceSub, Int.reduceMul, Int.reduceNeg, not_true_eq_false, not_false_eq_true, agA hA, agJA hA, ag hA, v_nJ, v_nW, v_nD, v_toD, v_px, v_py, v_rg, v_kd, v_ft, v_on, v_bg, v_en, @nJ_ M0, @nW_ M0, @nD_ M0, @toD_ M0, @px_ M0, @py_ M0, @rg_ M0, @kd_ M0, @ft_ M0, @on_ M0, bt_, m_inn hF hg]
  unfold prc
  (repeat' split) <;> ((try simp only [bI_0, Classical.not_not] at *) <;> first | rfl | (exfalso; omega) | (refine congrArg (fun z => some (some (Value.int (iI z)), M)) ?_; omega))
theorem m_begin (hF : F = am_F T0 g) (hg : GG g) (hA : Ag M0 M) (h2 : I2 M0) {e : Int} (h0 : 0 ≤ e) (h1 : e < 2 * nW M0) : F 44 0 [.ref 219, .int (iI e)] [] M = some (some (.int (iI (bg M0 e))), M) := by
  have hn := h2.1
  refine s_Model_begin hF hg ?_
  simp (disch := (first | omega | decide | assumption)) only [ltm_s, ok_n, rd_i, rd_j, fd_i, fd_j, wr_i, wr_j, fw_i, fw_j, ci_s, cj_s, cv_s, dv_n, dw_n, rt_1, rt_b, rt_20, rt_21, okb_0, okb_1, okb_b, nar_0, nar_1, nar_b, i_0, i_1, j_0, j_1, i_lit, j_lit, i_n, iI_add, iI_sub, iI_mul, iI_neg, jI_add, jI_sub, jI_mul, jI_neg, sh_1, an_1, xo_1, di_p, dj_p, i_64A, i_64, j_32, lq_ge, lq_lt, lq_le, lq_gt, lq_eq, i_lt, i_le, i_eq, j_eq, iI_A, jI_J, iI_b, iI_v, jI_v, ↓reduceIte, ite_true, ite_false, Int.reduceEq, Int.reduceLT, Int.reduceLE, Int.reduceAdd, Int.reduceSub, Int.reduceMul, Int.reduceNeg, not_true_eq_false, not_false_eq_true, agA hA, agJA hA, ag hA, v_nJ, v_nW, v_nD, v_toD, v_px, v_py, v_rg, v_kd, v_ft, v_on, v_bg, v_en, @nJ_ M0, @nW_ M0, @nD_ M0, @toD_ M0, @px_ M0, @py_ M0, @rg_ M0, @kd_ M0, @ft_ M0, @on_ M0, bt_, bg]
  (repeat' split) <;> first | rfl | (exfalso; omega) | (refine congrArg (fun z => some (some (Value.int (iI z)), M)) ?_; omega)
theorem m_end (hF : F = am_F T0 g) (hg : GG g) (hA : Ag M0 M) (h2 : I2 M0) {e : Int} (h0 : 0 ≤ e) (h1 : e < 2 * nW M0) : F 50 0 [.ref 219, .int (iI e)] [] M = some (some (.int (iI (en M0 e))), M) := by
  have hn := h2.1
  refine s_Model_end hF hg ?_
  simp (disch := (first | omega | decide | assumption)) only [ltm_s, ok_n, rd_i, rd_j, fd_i, fd_j, wr_i, wr_j, fw_i, fw_j, ci_s, cj_s, cv_s, dv_n, dw_n, rt_1, rt_b, rt_20, rt_21, okb_0, okb_1, okb_b, nar_0, nar_1, nar_b, i_0, i_1, j_0, j_1, i_lit, j_lit, i_n, iI_add, iI_sub, iI_mul, iI_neg, jI_add, jI_sub, jI_mul, jI_neg, sh_1, an_1, xo_1, di_p, dj_p, i_64A, i_64, j_32, lq_ge, lq_lt, lq_le, lq_gt, lq_eq, i_lt, i_le, i_eq, j_eq, iI_A, jI_J, iI_b, iI_v, jI_v, ↓reduceIte, ite_true, ite_false, Int.reduceEq, Int.reduceLT, Int.reduceLE, Int.reduceAdd, Int.reduceSub, Int.reduceMul, Int.reduceNeg, not_true_eq_false, not_false_eq_true, agA hA, agJA hA, ag hA, v_nJ, v_nW, v_nD, v_toD, v_px, v_py, v_rg, v_kd, v_ft, v_on, v_bg, v_en, @nJ_ M0, @nW_ M0, @nD_ M0, @toD_ M0, @px_ M0, @py_ M0, @rg_ M0, @kd_ M0, @ft_ M0, @on_ M0, bt_, en]
  (repeat' split) <;> first | rfl | (exfalso; omega) | (refine congrArg (fun z => some (some (Value.int (iI z)), M)) ?_; omega)
theorem m_follows (hF : F = am_F T0 g) (hg : GG g) (hA : Ag M0 M) (h1 : I1 M0) (h2 : I2 M0) {e f : Int} (e0 : 0 ≤ e) (e1 : e < 2 * nW M0) (f0 : 0 ≤ f) (f1 : f < 2 * nW M0) : F 113 0 [.ref 219, .int (iI e), .int (iI f)] [] M = some (some (.int (iI (bI (fol M0 e f)))), M) := by
  have hn := h2.1
  have hj := h1.1
  have a := (h2.2.2.2 f f0 f1).1
  have b := en_r h2 e0 e1
  refine s_Model_follows hF hg ?_
  simp (disch := (first | omega | decide | assumption)) only [ltm_s, ok_n, rd_i, rd_j, fd_i, fd_j, wr_i, wr_j, fw_i, fw_j, ci_s, cj_s, cv_s, dv_n, dw_n, rt_1, rt_b, rt_20, rt_21, okb_0, okb_1, okb_b, nar_0, nar_1, nar_b, i_0, i_1, j_0, j_1, i_lit, j_lit, i_n, iI_add, iI_sub, iI_mul, iI_neg, jI_add, jI_sub, jI_mul, jI_neg, sh_1, an_1, xo_1, di_p, dj_p, i_64A, i_64, j_32, lq_ge, lq_lt, lq_le, lq_gt, lq_eq, i_lt, i_le, i_eq, j_eq, iI_A, jI_J, iI_b, iI_v, jI_v, ↓reduceIte, ite_true, ite_false, Int.reduceEq, Int.reduceLT, Int.reduceLE, Int.reduceAdd, Int.reduceSub, Int.reduceMul, Int.reduceNeg, not_true_eq_false, not_false_eq_true, agA hA, agJA hA, ag hA, v_nJ, v_nW, v_nD, v_toD, v_px, v_py, v_rg, v_kd, v_ft, v_on, v_bg, v_en, @nJ_ M0, @nW_ M0, @nD_ M0, @toD_ M0, @px_ M0, @py_ M0, @rg_ M0, @kd_ M0, @ft_ M0, @on_ M0, bt_, m_begin hF hg hA h2, m_end hF hg hA h2]
  unfold fol
  by_cases q : bg M0 f = en M0 e
  · rw [if_pos q]
    by_cases q2 : e / 2 = f / 2
    · rw [if_pos q2.symm, bI_f (fun x => x.2 q2)]
    · rw [if_neg (fun x => q2 x.symm), bI_t ⟨q, q2⟩]
  · rw [if_neg q, bI_f (fun x => q x.1)]
theorem m_dx (hF : F = am_F T0 g) (hg : GG g) (hA : Ag M0 M) (h1 : I1 M0) (h2 : I2 M0) {e : Int} (e0 : 0 ≤ e) (e1 : e < 2 * nW M0) : F 108 0 [.ref 219, .int (iI e)] [] M = some (some (.int (iI (dx M0 e))), M) := by
  have hj := h1.1
  have a := (h2.2.2.2 e e0 e1).1
  have b := en_r h2 e0 e1
  refine s_Model_dx hF hg ?_
  simp (disch := (first | omega | decide | assumption)) only [ltm_s, ok_n, rd_i, rd_j, fd_i, fd_j, wr_i, wr_j, fw_i, fw_j, ci_s, cj_s, cv_s, dv_n, dw_n, rt_1, rt_b, rt_20, rt_21, okb_0, okb_1, okb_b, nar_0, nar_1, nar_b, i_0, i_1, j_0, j_1, i_lit, j_lit, i_n, iI_add, iI_sub, iI_mul, iI_neg, jI_add, jI_sub, jI_mul, jI_neg, sh_1, an_1, xo_1, di_p, dj_p, i_64A, i_64, j_32, lq_ge, lq_lt, lq_le, lq_gt, lq_eq, i_lt, i_le, i_eq, j_eq, iI_A, jI_J, iI_b, iI_v, jI_v, ↓reduceIte, ite_true, ite_false, Int.reduceEq, Int.reduceLT, Int.reduceLE, Int.reduceAdd, Int.reduceSub, Int.reduceMul, Int.reduceNeg, not_true_eq_false, not_false_eq_true, agA hA, agJA hA, ag hA, v_nJ, v_nW, v_nD, v_toD, v_px, v_py, v_rg, v_kd, v_ft, v_on, v_bg, v_en, @nJ_ M0, @nW_ M0, @nD_ M0, @toD_ M0, @px_ M0, @py_ M0, @rg_ M0, @kd_ M0, @ft_ M0, @on_ M0, bt_, m_begin hF hg hA h2, m_end hF hg hA h2]
  rfl
theorem m_dy (hF : F = am_F T0 g) (hg : GG g) (hA : Ag M0 M) (h1 : I1 M0) (h2 : I2 M0) {e : Int} (e0 : 0 ≤ e) (e1 : e < 2 * nW M0) : F 109 0 [.ref 219, .int (iI e)] [] M = some (some (.int (iI (dy M0 e))), M) := by
  have hj := h1.1
  have a := (h2.2.2.2 e e0 e1).1
  have b := en_r h2 e0 e1
  refine s_Model_dy hF hg ?_
  simp (disch := (first | omega | decide | assumption)) only [ltm_s, ok_n, rd_i, rd_j, fd_i, fd_j, wr_i, wr_j, fw_i, fw_j, ci_s, cj_s, cv_s, dv_n, dw_n, rt_1, rt_b, rt_20, rt_21, okb_0, okb_1, okb_b, nar_0, nar_1, nar_b, i_0, i_1, j_0, j_1, i_lit, j_lit, i_n, iI_add, iI_sub, iI_mul, iI_neg, jI_add, jI_sub, jI_mul, jI_neg, sh_1, an_1, xo_1, di_p, dj_p, i_64A, i_64, j_32, lq_ge, lq_lt, lq_le, lq_gt, lq_eq, i_lt, i_le, i_eq, j_eq, iI_A, jI_J, iI_b, iI_v, jI_v, ↓reduceIte, ite_true, ite_false, Int.reduceEq, Int.reduceLT, Int.reduceLE, Int.reduceAdd, Int.reduceSub, Int.reduceMul, Int.reduceNeg, not_true_eq_false, not_false_eq_true, agA hA, agJA hA, ag hA, v_nJ, v_nW, v_nD, v_toD, v_px, v_py, v_rg, v_kd, v_ft, v_on, v_bg, v_en, @nJ_ M0, @nW_ M0, @nD_ M0, @toD_ M0, @px_ M0, @py_ M0, @rg_ M0, @kd_ M0, @ft_ M0, @on_ M0, bt_, m_begin hF hg hA h2, m_end hF hg hA h2]
  rfl
theorem m_crs (hF : F = am_F T0 g) (hg : GG g) {a b c d : Int} : F 49 0 [.int (iI a), .int (iI b), .int (iI c), .int (iI d)] [] M = some (some (.int (iI (a * d - b * c))), M) := by
  refine s_Model_cross hF hg ?_
  simp (disch := (first | omega | decide | assumption)) only [ltm_s, ok_n, rd_i, rd_j, fd_i, fd_j, wr_i, wr_j, fw_i, fw_j, ci_s, cj_s, cv_s, dv_n, dw_n, rt_1, rt_b, rt_20, rt_21, okb_0, okb_1, okb_b, nar_0, nar_1, nar_b, i_0, i_1, j_0, j_1, i_lit, j_lit, i_n, iI_add, iI_sub, iI_mul, iI_neg, jI_add, jI_sub, jI_mul, jI_neg, sh_1, an_1, xo_1, di_p, dj_p, i_64A, i_64, j_32, lq_ge, lq_lt, lq_le, lq_gt, lq_eq, i_lt, i_le, i_eq, j_eq, iI_A, jI_J, iI_b, iI_v, jI_v, ↓reduceIte, ite_true, ite_false, Int.reduceEq, Int.reduceLT, Int.reduceLE, Int.reduceAdd, Int.reduceSub, Int.reduceMul, Int.reduceNeg, not_true_eq_false, not_false_eq_true]
end Cz
