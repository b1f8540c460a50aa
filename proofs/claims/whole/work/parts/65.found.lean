/-! THE BEST ROUTE, as the finder leaves it -/
noncomputable section
/-- what setting out on a leg costs -/
def vst (M0 : am_M) (md : Int × Int × Int × Int) (by_ a b : Int) (C : Int → Int) (e : Int) : Int := if bI (mgo M0 md e) = 1 then (if alone M0 by_ a b e < thru M0 by_ a b C e then alone M0 by_ a b e else thru M0 by_ a b C e) else FARC
def sbl (M0 : am_M) (md : Int × Int × Int × Int) (by_ a b : Int) (C : Int → Int) : Int := if vst M0 md by_ a b C (2 * A M0 228 a + 1) < vst M0 md by_ a b C (2 * A M0 228 a) then 2 * A M0 228 a + 1 else 2 * A M0 228 a
def bvl (M0 : am_M) (md : Int × Int × Int × Int) (by_ a b : Int) (C : Int → Int) : Int := vst M0 md by_ a b C (sbl M0 md by_ a b C)
/-- the legs of the best -/
def rsp (M0 : am_M) (md : Int × Int × Int × Int) (by_ a b : Int) (C : Int → Int) (L : Int) (leg : Int → Int) : Prop :=
  (bvl M0 md by_ a b C = FARC → L = 0) ∧
  (bvl M0 md by_ a b C ≠ FARC → alone M0 by_ a b (sbl M0 md by_ a b C) = bvl M0 md by_ a b C → L = 1 ∧ leg 0 = sbl M0 md by_ a b C) ∧
  (bvl M0 md by_ a b C ≠ FARC → alone M0 by_ a b (sbl M0 md by_ a b C) ≠ bvl M0 md by_ a b C → ∃ m : Nat, Pth_ M0 md by_ a b C m (sbl M0 md by_ a b C) ∧ (m : Int) + 2 ≤ 2 * nW M0 ∧ L = (m : Int) + 2 ∧ ∀ j : Nat, j ≤ m + 1 → leg j = pt_ M0 md by_ a b C j (sbl M0 md by_ a b C))
end
section Fo
variable {M0 M M' : am_M} {g : am_G} {F : am_FT} {rt : Nat}
theorem prc_ft (h2 : I2 M0) {w h : Int} (h0 : 0 ≤ w) (h1 : w < nW M0) : ft M0 w ≤ prc M0 w h := by
  have hf := (h2.2.2.1 w h0 h1).2.1
  unfold prc
  (repeat' split) <;> omega
theorem C_hgw (h1 : I1 M0) (h2 : I2 M0) (h4 : I4 M0) {by_ a b hour f : Int} (a0 : 0 ≤ a) (a1 : a < nD M0) (b0 : 0 ≤ b) (b1 : b < nD M0) (f0 : 0 ≤ f) (f1 : f < 2 * nW M0) (hgl : gol M0 b f) : gkk M0 by_ b f < wkk M0 by_ a b hour f := by
  have ht := tdr_r h2 h4 (f := f) b0 b1
  have hp := prc_ft h2 (w := f / 2) (h := hour) (by omega) (by omega)
  have he := en_r h2 f0 f1
  have hst := strg_r h1 h2 h4 a0 a1 b0 b1 he.1 he.2
  have e1 : f / 2 = A M0 228 b := hgl
  have e2 : offs M0 a b f = strg M0 a b (en M0 f) := rfl
  rw [e1] at hp
  unfold gkk wkk key
  rw [e1]
  split <;> omega
theorem C_hg2 (h2 : I2 M0) (h4 : I4 M0) {b : Int} (b0 : 0 ≤ b) (b1 : b < nD M0) : cn (fun f => ¬ gol M0 b f) (2 * nW M0).toNat + 2 ≤ ((2 * nW M0).toNat : Int) := by
  have hn := h2.1
  have wb := (h4.2.2 b b0 b1).1
  have c1 := cn_add (C := fun f => ¬ gol M0 b f) (x := 2 * A M0 228 b) (fun x => x (by show _ / 2 = _; omega)) (n := (2 * nW M0).toNat) (by omega) (by omega)
  have c2 := cn_add (C := fun f => ¬ gol M0 b f ∨ f = 2 * A M0 228 b) (x := 2 * A M0 228 b + 1) (fun x => by
    rcases x with x | x
    · exact x (by show _ / 2 = _; omega)
    · omega) (n := (2 * nW M0).toNat) (by omega) (by omega)
  have c3 := cn_b (C := fun k => (¬ gol M0 b k ∨ k = 2 * A M0 228 b) ∨ k = 2 * A M0 228 b + 1) (2 * nW M0).toNat
  omega
theorem C_pth (h1 : I1 M0) (h2 : I2 M0) (h4 : I4 M0) {md : Int × Int × Int × Int} {by_ a b : Int} {C : Int → Int} (u0 : 0 ≤ md.2.2.1) (u1 : md.2.2.1 < 24) (a0 : 0 ≤ a) (a1 : a < nD M0) (b0 : 0 ≤ b) (b1 : b < nD M0) (hC : Bel_ M0 md by_ a b C) {e : Int} (e0 : 0 ≤ e) (e1 : e < 2 * nW M0) (he : C e ≠ FARC) : ∃ m : Nat, Pth_ M0 md by_ a b C m e ∧ (m : Int) + 2 ≤ 2 * nW M0 := by
  have hn := h2.1
  obtain ⟨m, hm⟩ := pth_ex hC (fun f f0 f1 => (wkk_r h1 h2 h4 (by_ := by_) a0 a1 b0 b1 u0 u1 f0 (by omega)).1) (C e + 1).toNat e e0 (by omega) he (by omega)
  have := pth_le hC (fun f f0 f1 hf => C_hgw h1 h2 h4 (by_ := by_) a0 a1 b0 b1 f0 (by omega) hf) (C_hg2 h2 h4 b0 b1) hm
  exact ⟨m, hm, by omega⟩
theorem c_trace (hF : F = am_F T0 g) (hg : GG g) (hr : rok g rt) (h1 : I1 M0) (h2 : I2 M0) (h3 : I3 M0) (h4 : I4 M0) {md : Int × Int × Int × Int} {by_ a b : Int} {C : Int → Int} (hb01 : by_ = 0 ∨ by_ = 1) (u0 : 0 ≤ md.2.2.1) (u1 : md.2.2.1 < 24) (a0 : 0 ≤ a) (a1 : a < nD M0) (b0 : 0 ≤ b) (b1 : b < nD M0) (hC : Cok M0 md by_ a b C) (hS : Fs M0 md by_ a b C M) (hl : A M rt 5 = 0) (ha : A M rt 0 = a) (hb : A M rt 1 = b) {e v : Int} (e0 : 0 ≤ e) (e1 : e < 2 * nW M0) (v0 : -9223372036854775808 ≤ v) (v1 : v < 9223372036854775808) (hv : alone M0 by_ a b e = v ∨ C e ≠ FARC) :
    ∃ M' : am_M, F 172 0 [.ref 32, .ref rt, .int (iI e), .long (jI v)] [] M = some (none, M') ∧ Ke [rt, rt + 1] M M' ∧ (alone M0 by_ a b e = v → A M' rt 5 = 1 ∧ A M' (rt + 1) 0 = e) ∧
      (alone M0 by_ a b e ≠ v → ∃ m : Nat, Pth_ M0 md by_ a b C m e ∧ (m : Int) + 2 ≤ 2 * nW M0 ∧ A M' rt 5 = (m : Int) + 2 ∧ ∀ j : Nat, j ≤ m + 1 → A M' (rt + 1) j = pt_ M0 md by_ a b C j e) ∧ ∀ z : Int, 0 ≤ z → z ≠ 5 → A M' rt z = A M rt z := by
  have hn := h2.1
  have hd := h4.1
  have h42 := hr.2.1
  have eF : FARC = 9223372036854775807 := rfl
  have ad := c_add hF hg hr.1 (f := e) hl (by omega) (by omega)
  have hK : Ke [rt, rt + 1] M (W_ (W_ M (rt + 1) 0 e) rt 5 (0 + 1)) := (Ke.refl.w (by simp)).w (by simp)
  have hS1 := hS.ke hr hK
  have ca := c_costAlone hF hg hS1.1 h2 h4 hS1.2.2.1.1 hb01 a0 a1 b0 b1 e0 e1
  have xa : A (W_ (W_ M (rt + 1) 0 e) rt 5 (0 + 1)) rt 0 = a := by rw [A_Wo (by omega) (by omega) (by omega), A_Wn (by omega)]; exact ha
  have xb : A (W_ (W_ M (rt + 1) 0 e) rt 5 (0 + 1)) rt 1 = b := by rw [A_Wo (by omega) (by omega) (by omega), A_Wn (by omega)]; exact hb
  have xl : A (W_ (W_ M (rt + 1) 0 e) rt 5 (0 + 1)) rt 5 = 1 := A_Ws (by omega) (by omega)
  have xe : A (W_ (W_ M (rt + 1) 0 e) rt 5 (0 + 1)) (rt + 1) 0 = e := by rw [A_Wn (by omega), A_Ws (by omega) (by omega)]
  have xo : ∀ z : Int, 0 ≤ z → z ≠ 5 → A (W_ (W_ M (rt + 1) 0 e) rt 5 (0 + 1)) rt z = A M rt z := fun z z0 z1 => by rw [A_Wo (by omega) z0 z1, A_Wn (by omega)]
  have ra : 0 ≤ alone M0 by_ a b e ∧ alone M0 by_ a b e ≤ FARC := by
    have hr := ahd_r h2 h4 (e := e) a0 a1 b0 b1
    unfold alone
    split
    · have := key_b (b := by_) (t := 0) (m := ahd_ M0 a b e) (by omega) (by omega) (by omega) (by omega)
      omega
    · omega
  generalize W_ (W_ M (rt + 1) 0 e) rt 5 (0 + 1) = M1 at *
  by_cases q : alone M0 by_ a b e = v
  · refine ⟨M1, ?_, hK, fun _ => ⟨xl, xe⟩, fun x => absurd q x, xo⟩
    refine s_Finder_trace hF hg hr.1 ?_
    simp (disch := (first | omega | decide | assumption)) only [ltm_s, ok_n, rd_i, rd_j, fd_i, fd_j, wr_i, wr_j, fw_i, fw_j, ci_s, cj_s, cv_s, dv_n, dw_n, rt_1, rt_b, rt_20, rt_21, okb_0, okb_1, okb_b, nar_0, nar_1, nar_b, i_0, i_1, j_0, j_1, i_lit, j_lit, i_n, iI_add, iI_sub, iI_mul, iI_neg, jI_add, jI_sub, jI_mul, jI_neg, sh_1, an_1, xo_1, di_p, dj_p, i_64A, i_64, j_32, lq_ge, lq_lt, lq_le, lq_gt, lq_eq, i_lt, i_le, i_eq, j_eq, iI_A, jI_J, iI_b, iI_v, jI_v, ↓reduceIte, ite_true, ite_false, Int.reduceEq, Int.reduceLT, Int.reduceLE, Int.reduceAdd, Int.reduceSub, Int.reduceMul, Int.reduceNeg, not_true_eq_false, not_false_eq_true, ad, xa, xb, ca, q]
  · have hce := hv.resolve_left q
    obtain ⟨m, hP, hm⟩ := C_pth h1 h2 h4 u0 u1 a0 a1 b0 b1 hC.1 e0 e1 hce
    obtain ⟨M', q1, q2, q3, q4, q5⟩ := c_trace_l hF hg hr h1 h2 h3 h4 u0 u1 a0 a1 b0 b1 hC hP hm m 0 M1 (by omega) hS1 (by rw [xl]; rfl) (fun j hj => by
      have : j = 0 := by omega
      subst this
      exact xe)
    refine ⟨M', ?_, hK.trans q2, fun x => absurd x q, fun _ => ⟨m, hP, hm, q3, q4⟩, fun z z0 z1 => by rw [q5 z z0 z1, xo z z0 z1]⟩
    have ez : iI ((0 : Nat) : Int) = iI 0 := rfl
    have ep : pt_ M0 md by_ a b C 0 e = e := rfl
    rw [ez, ep] at q1
    refine s_Finder_trace hF hg hr.1 ?_
    simp (disch := (first | omega | decide | assumption)) only [ltm_s, ok_n, rd_i, rd_j, fd_i, fd_j, wr_i, wr_j, fw_i, fw_j, ci_s, cj_s, cv_s, dv_n, dw_n, rt_1, rt_b, rt_20, rt_21, okb_0, okb_1, okb_b, nar_0, nar_1, nar_b, i_0, i_1, j_0, j_1, i_lit, j_lit, i_n, iI_add, iI_sub, iI_mul, iI_neg, jI_add, jI_sub, jI_mul, jI_neg, sh_1, an_1, xo_1, di_p, dj_p, i_64A, i_64, j_32, lq_ge, lq_lt, lq_le, lq_gt, lq_eq, i_lt, i_le, i_eq, j_eq, iI_A, jI_J, iI_b, iI_v, jI_v, ↓reduceIte, ite_true, ite_false, Int.reduceEq, Int.reduceLT, Int.reduceLE, Int.reduceAdd, Int.reduceSub, Int.reduceMul, Int.reduceNeg, not_true_eq_false, not_false_eq_true, ad, xa, xb, ca, q, q1]
end Fo
