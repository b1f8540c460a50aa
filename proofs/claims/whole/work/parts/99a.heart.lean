/-! BY HEART, by both -/
section By
variable {M0 M M' : am_M} {g : am_G} {F : am_FT} {rt : Nat}
theorem Imk.ke {S : List Nat} (h : Imk M) (k : Ke S M M') (h32 : 32 ∉ S) (h35 : 35 ∉ S) (h36 : 36 ∉ S) : Imk M' := by
  have e32 : ∀ z : Int, A M' 32 z = A M 32 z := fun z => k.a h32
  have e35 : ∀ z : Int, A M' 35 z = A M 35 z := fun z => k.a h35
  have e36 : ∀ z : Int, A M' 36 z = A M 36 z := fun z => k.a h36
  unfold Imk
  simp only [e32, e35, e36]
  exact h
theorem c_setHeld_l (hF : F = am_F T0 g) (hg : GG g) (h8 : I8 M0) (h9 : I9 M0) (h14 : I14 M0) (h15 : I15 M0) {p : Int} (p0 : 0 ≤ p) (p1 : p < A M0 219 41) : ∀ (n k : Nat) (M : am_M), (k : Int) + n = A M0 42 2 → Ag M0 M → Imk M → A M 32 6 ≤ (k : Int) → (∀ e f : Int, 0 ≤ e → e < 80 → 0 ≤ f → f < 80 → A M 35 (e * 80 + f) = bI (∃ i : Int, 0 ≤ i ∧ i < (k : Int) ∧ (A M0 43 i = e ∧ A M0 44 i = f ∧ hl M0 p (lkt M0 i) (toD M0)))) →
    ∃ M' : am_M, F 219 11 [.ref 32, .ref 42, .ref (72 + 5 * p.toNat), .int (iI k)] [] M = some (none, M') ∧ Ke [35, 36, 32] M M' ∧ Imk M' ∧ (∀ e f : Int, 0 ≤ e → e < 80 → 0 ≤ f → f < 80 → A M' 35 (e * 80 + f) = bI (∃ i : Int, 0 ≤ i ∧ i < A M0 42 2 ∧ (A M0 43 i = e ∧ A M0 44 i = f ∧ hl M0 p (lkt M0 i) (toD M0)))) ∧ A M' 32 7 = A M 32 7 ∧ A M' 32 13 = A M 32 13 := by
  have hp4 : p < 4 := by have := h15.1; omega
  have h81 := h8.1
  obtain ⟨c1, c2, c3, c4⟩ := id h14
  have hc200 : A M0 42 2 ≤ 200 := by omega
  intro n
  induction n with
  | zero =>
    intro k M h hA hm hc hp
    have q : A M0 42 2 ≤ (k : Int) := by omega
    have e42 : A M 42 2 = A M0 42 2 := ag hA rfl
    refine ⟨M, ?_, Ke.refl, hm, fun e f e0 e1 f0 f1 => ?_, rfl, rfl⟩
    · refine s_Finder_setHeld_11 hF hg (pu_ok hg p0 hp4) ?_
      simp (config := { maxSteps := 1000000 }) (disch := (first | omega | decide | assumption)) only [ltm_s, ok_n, rd_i, rd_j, fd_i, fd_j, wr_i, wr_j, fw_i, fw_j, ci_s, cj_s, cv_s, dv_n, dw_n, rt_1, rt_b, rt_20, rt_21, okb_0, okb_1, okb_b, nar_0, nar_1, nar_b, i_0, i_1, j_0, j_1, i_lit, j_lit, i_n, iI_add, iI_sub, iI_mul, iI_neg, jI_add, jI_sub, jI_mul, jI_neg, sh_1, an_1, xo_1, di_p, dj_p, i_64A, i_64, j_32, lq_ge, lq_lt, lq_le, lq_gt, lq_eq, i_lt, i_le, i_eq, j_eq, iI_A, jI_J, iI_b, iI_v, jI_v, ↓reduceIte, ite_true, ite_false, Int.reduceEq, Int.reduceLT, Int.reduceLE, Int.reduceAdd, Int.reduceSub, Int.reduceMul, Int.reduceNeg, not_true_eq_false, not_false_eq_true, e42, q]
    · rw [hp e f e0 e1 f0 f1, show (k : Int) = A M0 42 2 by omega]
  | succ n ih =>
    intro k M h hA hm hc hp
    have q : ¬ A M0 42 2 ≤ (k : Int) := by omega
    have hs : (k : Int) + 1 = ((k + 1 : Nat) : Int) := by omega
    have e42 : A M 42 2 = A M0 42 2 := ag hA rfl
    have e18 : A M 18 0 = toD M0 := by rw [agA hA (a := 18) rfl]; exact h8.2
    have e43 : A M 43 k = A M0 43 k := agA hA rfl
    have e44 : A M 44 k = A M0 44 k := agA hA rfl
    have lr := c3.1 k (by omega) (by omega)
    have hh := c_isHeldL hF hg h9 h14 h15 (hA.pu p0 hp4) p0 p1 (l := k) (day := toD M0) (by omega) (by omega) (by omega) (by omega)
    by_cases u : hl M0 p (lkt M0 k) (toD M0)
    · rw [bI_t u] at hh
      obtain ⟨M1, y1, y2, y3, y4, y5, y6, y7⟩ := c_mark hF hg hm (by omega) (e := A M0 43 k) (f := A M0 44 k) lr.1.1 lr.1.2 lr.2.1.1 lr.2.1.2
      obtain ⟨M', q1, q2, q3, q4, q5, q6⟩ := ih (k + 1) M1 (by omega) (hA.trans (y2.ag (by decide))) y3 (by omega) (fun e f e0 e1 f0 f1 => by
        rw [y5 _ (by omega) (by omega)]
        by_cases eq : e * 80 + f = A M0 43 k * 80 + A M0 44 k
        · rw [if_pos eq, bI_t ⟨(k : Int), by omega, by omega, by omega, by omega, u⟩]
        · rw [if_neg eq, hp e f e0 e1 f0 f1]
          refine bI_cg ⟨fun ⟨i, i0, i1, hi⟩ => ⟨i, i0, by omega, hi⟩, fun ⟨i, i0, i1, hi⟩ => ⟨i, i0, ?_, hi⟩⟩
          by_cases ei : i = k
          · rw [ei] at hi; exact absurd (by rw [hi.1, hi.2.1]) eq
          · omega)
      refine ⟨M', ?_, y2.trans q2, q3, q4, q5.trans y6, q6.trans y7⟩
      refine s_Finder_setHeld_11 hF hg (pu_ok hg p0 hp4) ?_
      simp (config := { maxSteps := 1000000 }) (disch := (first | omega | decide | assumption)) only [ltm_s, ok_n, rd_i, rd_j, fd_i, fd_j, wr_i, wr_j, fw_i, fw_j, ci_s, cj_s, cv_s, dv_n, dw_n, rt_1, rt_b, rt_20, rt_21, okb_0, okb_1, okb_b, nar_0, nar_1, nar_b, i_0, i_1, j_0, j_1, i_lit, j_lit, i_n, iI_add, iI_sub, iI_mul, iI_neg, jI_add, jI_sub, jI_mul, jI_neg, sh_1, an_1, xo_1, di_p, dj_p, i_64A, i_64, j_32, lq_ge, lq_lt, lq_le, lq_gt, lq_eq, i_lt, i_le, i_eq, j_eq, iI_A, jI_J, iI_b, iI_v, jI_v, ↓reduceIte, ite_true, ite_false, Int.reduceEq, Int.reduceLT, Int.reduceLE, Int.reduceAdd, Int.reduceSub, Int.reduceMul, Int.reduceNeg, not_true_eq_false, not_false_eq_true, e42, q, e18, hh, e43, e44, y1, hs, q1]
    · rw [bI_f u] at hh
      obtain ⟨M', q1, q2, q3, q4, q5, q6⟩ := ih (k + 1) M (by omega) hA hm (by omega) (fun e f e0 e1 f0 f1 => by
        rw [hp e f e0 e1 f0 f1]
        refine bI_cg ⟨fun ⟨i, i0, i1, hi⟩ => ⟨i, i0, by omega, hi⟩, fun ⟨i, i0, i1, hi⟩ => ⟨i, i0, ?_, hi⟩⟩
        by_cases ei : i = k
        · rw [ei] at hi; exact absurd hi.2.2 u
        · omega)
      refine ⟨M', ?_, q2, q3, q4, q5, q6⟩
      refine s_Finder_setHeld_11 hF hg (pu_ok hg p0 hp4) ?_
      simp (config := { maxSteps := 1000000 }) (disch := (first | omega | decide | assumption)) only [ltm_s, ok_n, rd_i, rd_j, fd_i, fd_j, wr_i, wr_j, fw_i, fw_j, ci_s, cj_s, cv_s, dv_n, dw_n, rt_1, rt_b, rt_20, rt_21, okb_0, okb_1, okb_b, nar_0, nar_1, nar_b, i_0, i_1, j_0, j_1, i_lit, j_lit, i_n, iI_add, iI_sub, iI_mul, iI_neg, jI_add, jI_sub, jI_mul, jI_neg, sh_1, an_1, xo_1, di_p, dj_p, i_64A, i_64, j_32, lq_ge, lq_lt, lq_le, lq_gt, lq_eq, i_lt, i_le, i_eq, j_eq, iI_A, jI_J, iI_b, iI_v, jI_v, ↓reduceIte, ite_true, ite_false, Int.reduceEq, Int.reduceLT, Int.reduceLE, Int.reduceAdd, Int.reduceSub, Int.reduceMul, Int.reduceNeg, not_true_eq_false, not_false_eq_true, e42, q, e18, hh, hs, q1]
/-- the finder's hour is set -/
def Hs (M0 : am_M) (hour : Int) (M : am_M) : Prop := Ag M0 M ∧ Imk M ∧ (∀ e : Int, 0 ≤ e → e < 2 * nW M0 → A M 33 e = bI (pas M0 e hour)) ∧ ∀ w : Int, 0 ≤ w → w < nW M0 → A M 34 w = prc M0 w hour
theorem c_setHeld (hF : F = am_F T0 g) (hg : GG g) (h2 : I2 M0) (h8 : I8 M0) (h9 : I9 M0) (h14 : I14 M0) (h15 : I15 M0) {hour : Int} (hs : Hs M0 hour M) {p : Int} (p0 : 0 ≤ p) (p1 : p < A M0 219 41) :
    ∃ M' : am_M, F 219 0 [.ref 32, .ref 42, .ref (72 + 5 * p.toNat)] [] M = some (none, M') ∧ Ke [35, 36, 32] M M' ∧ fset M0 (p, 0, hour, 0) M' := by
  have hp4 : p < 4 := by have := h15.1; omega
  have hn := h2.1
  obtain ⟨hA, hm, e33, e34⟩ := hs
  obtain ⟨M1, p1', k1, z1, z2, -, -⟩ := c_unmark hF hg hm
  obtain ⟨M2, e2⟩ : ∃ y : am_M, y = W_ M1 32 7 1 := ⟨_, rfl⟩
  have K2 : Ke [35, 36, 32] M M2 := by
    rw [e2]; exact (k1.mono (by decide)).w (by decide)
  have g32 : A M2 32 6 = 0 := by rw [e2, A_Wo (by omega) (by omega) (by omega)]; exact z1
  have g35 : ∀ t : Int, 0 ≤ t → t < 6400 → A M2 35 t = 0 := fun t t0 t1 => by rw [e2, A_Wn (by decide)]; exact z2 t t0 t1
  have hm2 : Imk M2 := ⟨by rw [g32]; omega, fun i i0 i1 => by rw [g32] at i1; omega, fun t t0 t1 => Or.inl (g35 t t0 t1)⟩
  obtain ⟨M', q1, q2, q3, q4, q5, q6⟩ := c_setHeld_l hF hg h8 h9 h14 h15 p0 p1 (A M0 42 2).toNat 0 M2 (by have := h14.1; omega) (hA.trans (K2.ag (by decide))) hm2 (by omega) (fun e f e0 e1 f0 f1 => by
    rw [g35 _ (by omega) (by omega), bI_f (fun ⟨i, i0, i1, _⟩ => by omega)])
  refine ⟨M', ?_, K2.trans q2, q3, fun e e0 e1 => ?_, fun w w0 w1 => ?_, ?_, fun e f e0 e1 f0 f1 => ?_⟩
  · refine s_Finder_setHeld hF hg (pu_ok hg p0 hp4) ?_
    rw [p1']
    simp (config := { maxSteps := 1000000 }) (disch := (first | omega | decide | assumption)) only [ltm_s, ok_n, rd_i, rd_j, fd_i, fd_j, wr_i, wr_j, fw_i, fw_j, ci_s, cj_s, cv_s, dv_n, dw_n, rt_1, rt_b, rt_20, rt_21, okb_0, okb_1, okb_b, nar_0, nar_1, nar_b, i_0, i_1, j_0, j_1, i_lit, j_lit, i_n, iI_add, iI_sub, iI_mul, iI_neg, jI_add, jI_sub, jI_mul, jI_neg, sh_1, an_1, xo_1, di_p, dj_p, i_64A, i_64, j_32, lq_ge, lq_lt, lq_le, lq_gt, lq_eq, i_lt, i_le, i_eq, j_eq, iI_A, jI_J, iI_b, iI_v, jI_v, ↓reduceIte, ite_true, ite_false, Int.reduceEq, Int.reduceLT, Int.reduceLE, Int.reduceAdd, Int.reduceSub, Int.reduceMul, Int.reduceNeg, not_true_eq_false, not_false_eq_true, e2.symm]
    exact q1
  · rw [q2.a (by decide), K2.a (by decide), e33 e e0 e1]
    refine bI_cg ?_
    unfold mgo
    rw [if_neg (show ¬ p = -1 by omega)]
  · rw [q2.a (by decide), K2.a (by decide), e34 w w0 w1]
  · rw [q5, e2, A_Ws (by omega) (by omega), bI_t (show ¬ p = -1 by omega)]
  · rw [q4 e f e0 (by omega) f0 (by omega)]
    refine bI_cg ?_
    unfold mkd
    rw [if_neg (show ¬ p = -1 by omega), ← hl_hld]
    obtain ⟨c1, c2, c3, c4⟩ := h14
    constructor
    · rintro ⟨i, i0, i1, i2, i3, i4⟩
      have : lkt M0 i = 80 * e + f := by unfold lkt; rw [i2, i3]
      rw [this] at i4
      exact i4
    · intro u
      have u : hl M0 p (80 * e + f) (toD M0) := u
      have b := (h15.2.2.2 p p0 hp4).2 (80 * e + f) (by omega) (by omega)
      have h0 : ¬ A M0 45 (80 * e + f) = 0 := fun z => by
        have := (b.1 z).1
        unfold hl at u
        omega
      obtain ⟨x1, x2, x3⟩ := lkt_i c3 (t := 80 * e + f) (by omega) (by omega) h0
      have lr := c3.1 _ x1 x2
      have x4 := x3
      unfold lkt at x4
      exact ⟨A M0 45 (80 * e + f) - 1, x1, x2, by omega, by omega, by rw [x3]; exact u⟩
/-- what saying by heart comes to -/
theorem c_sayBy (hF : F = am_F T0 g) (hg : GG g) (hr : rok g rt) (h1 : I1 M0) (h2 : I2 M0) (h3 : I3 M0) (h4 : I4 M0) (h8 : I8 M0) (h9 : I9 M0) (h14 : I14 M0) (h15 : I15 M0) {hour : Int} (u0 : 0 ≤ hour) (u1 : hour < 24) (hs : Hs M0 hour M) {p a b : Int} (p0 : 0 ≤ p) (p1 : p < A M0 219 41) (a0 : 0 ≤ a) (a1 : a < nD M0) (b0 : 0 ≤ b) (b1 : b < nD M0) :
    ∃ (M1 M' : am_M) (L : Int) (C : Int → Int), F 247 0 [.ref 0, .ref rt, .int (iI p), .int (iI a), .int (iI b)] [] M = some (some (.int (iI L)), M') ∧ Ke [35, 36, 32] M M1 ∧ Fnd M0 (p, 0, hour, 0) 0 a b C rt M1 M' L := by
  have hp4 : p < 4 := by have := h15.1; omega
  obtain ⟨M1, q1, q2, q3⟩ := c_setHeld hF hg h2 h8 h9 h14 h15 hs p0 p1
  obtain ⟨M', L, C, r1, r2⟩ := c_findBest hF hg hr (hs.1.trans (q2.ag (by decide))) h1 h2 h3 h4 (md := (p, 0, hour, 0)) (by_ := 0) (Or.inl rfl) u0 u1 a0 a1 b0 b1 q3
  refine ⟨M1, M', L, C, ?_, q2, r2⟩
  refine s_RunSayer_sayByHeart hF hg hr.1 ?_
  simp (config := { maxSteps := 1000000 }) (disch := (first | omega | decide | assumption)) only [ltm_s, ok_n, rd_i, rd_j, fd_i, fd_j, wr_i, wr_j, fw_i, fw_j, ci_s, cj_s, cv_s, dv_n, dw_n, rt_1, rt_b, rt_20, rt_21, okb_0, okb_1, okb_b, nar_0, nar_1, nar_b, i_0, i_1, j_0, j_1, i_lit, j_lit, i_n, iI_add, iI_sub, iI_mul, iI_neg, jI_add, jI_sub, jI_mul, jI_neg, sh_1, an_1, xo_1, di_p, dj_p, i_64A, i_64, j_32, lq_ge, lq_lt, lq_le, lq_gt, lq_eq, i_lt, i_le, i_eq, j_eq, iI_A, jI_J, iI_b, iI_v, jI_v, ↓reduceIte, ite_true, ite_false, Int.reduceEq, Int.reduceLT, Int.reduceLE, Int.reduceAdd, Int.reduceSub, Int.reduceMul, Int.reduceNeg, not_true_eq_false, not_false_eq_true, iI_n, rdn_i, rdn_j, wrn_i, wrn_j, q1, r1]
theorem Hs.fnd {hour p a b L : Int} {C : Int → Int} {M1 : am_M} (hs : Hs M0 hour M) (hr : rok g rt) (k : Ke [35, 36, 32] M M1) (f : Fnd M0 (p, 0, hour, 0) 0 a b C rt M1 M' L) : Hs M0 hour M' := by
  obtain ⟨f1, f2, -⟩ := f
  have hrt := hr.2.1
  have n33 : 33 ∉ [32, 37, 38, 39, 40, 41, rt, rt + 1] := by
    simp only [List.mem_cons, List.not_mem_nil, or_false]; omega
  have n34 : 34 ∉ [32, 37, 38, 39, 40, 41, rt, rt + 1] := by
    simp only [List.mem_cons, List.not_mem_nil, or_false]; omega
  refine ⟨(hs.1.trans (k.ag (by decide))).trans (f1.ag ?_), f2.1, fun e e0 e1 => ?_, fun w w0 w1 => ?_⟩
  · have s1 := hr.2.2.1
    have s2 := hr.2.2.2
    show ([32, 37, 38, 39, 40, 41, rt, rt + 1] : List Nat).all (fun a => stN a) = true
    simp only [List.all_cons, List.all_nil, s1, s2]
    rfl
  · rw [f1.a n33, k.a (by decide)]; exact hs.2.2.1 e e0 e1
  · rw [f1.a n34, k.a (by decide)]; exact hs.2.2.2 w w0 w1
/-- the model, asked for a pupil -/
theorem m_pup (hF : F = am_F T0 g) (hg : GG g) (hA : Ag M0 M) (h1 : I1 M0) (h2 : I2 M0) (h3 : I3 M0) (h4 : I4 M0) (h6 : I6 M0) (h7 : I7 M0) (h8 : I8 M0) (h9 : I9 M0) {p hour a b : Int} {C : Int → Int} (u0 : 0 ≤ hour) (u1 : hour < 24) (p0 : 0 ≤ p) (p1 : p < A M0 219 41) (p4 : p < 4) (a0 : 0 ≤ a) (a1 : a < nD M0) (b0 : 0 ≤ b) (b1 : b < nD M0) (hC : Cok M0 (p, 0, hour, 0) 0 a b C) :
    ∃ (M1 M2 : am_M), F 42 0 [.ref 219, .int (iI p), .int (iI hour)] [] M = some (none, M1) ∧ Ag M0 M1 ∧ F 260 0 [.ref 219, .int (iI a), .int (iI b)] [] M1 = some (none, M2) ∧ Ke [219, 262, 263, 264] M M2 ∧ Ag M0 M2 ∧ rsp M0 (p, 0, hour, 0) 0 a b C (A M2 219 64) (A M2 264) ∧
      (bvl M0 (p, 0, hour, 0) 0 a b C = FARC → J M2 219 65 = -1 ∧ J M2 219 66 = -1) ∧
      (bvl M0 (p, 0, hour, 0) 0 a b C ≠ FARC → (0 ≤ J M2 219 65 ∧ J M2 219 65 ≤ 4000000) ∧ (0 ≤ J M2 219 66 ∧ J M2 219 66 ≤ 4000000) ∧ key 0 (J M2 219 65) (J M2 219 66) = bvl M0 (p, 0, hour, 0) 0 a b C) ∧
      (∀ z : Int, 71 ≤ z → A M2 219 z = A M 219 z) ∧ ∀ z : Int, 67 ≤ z → J M2 219 z = J M 219 z := by
  have pp := m_asPupil (M := M) hF hg (p := p) (h := hour)
  obtain ⟨M1, e1⟩ : ∃ y : am_M, y = W_ (W_ (W_ M 219 56 p) 219 58 hour) 219 60 0 := ⟨_, rfl⟩
  rw [← e1] at pp
  have K1 : Ke [219] M M1 := by
    rw [e1]; exact ((Ke.refl.w (by simp)).w (by simp)).w (by simp)
  have A1 : Ag M0 M1 := by
    rw [e1]; exact ((hA.w rfl).w rfl).w rfl
  have hs : mset (p, 0, hour, 0) M1 := by
    refine ⟨?_, fun h => ?_, ?_⟩
    · rw [e1, A_Wo (by omega) (by omega) (by omega), A_Wo (by omega) (by omega) (by omega), A_Ws (by omega) (by omega)]
    · have h' : p = -1 := h
      omega
    · rw [e1, A_Wo (by omega) (by omega) (by omega), A_Ws (by omega) (by omega)]
  have hby : A M1 219 60 = 0 := by rw [e1, A_Ws (by omega) (by omega)]
  have hmk : mok M0 (p, 0, hour, 0) := ⟨⟨by show (-1 : Int) ≤ p; omega, p1, p4⟩, fun h => by
    have h' : p = -1 := h
    omega, u0, u1⟩
  obtain ⟨M2, q1, q2, q3, q4, q5, q6, q7, q8⟩ := m_search hF hg A1 h1 h2 h3 h4 h6 h7 h8 h9 hmk (Or.inl rfl) a0 a1 b0 b1 hC hs hby
  refine ⟨M1, M2, pp, A1, q1, (K1.mono (by decide)).trans q2, q3, q4, q5, q6, fun z z0 => ?_, fun z z0 => ?_⟩
  · rw [q7 z (by omega) (by omega) (by omega), e1, A_Wo (by omega) (by omega) (by omega), A_Wo (by omega) (by omega) (by omega), A_Wo (by omega) (by omega) (by omega)]
  · rw [q8 z (by omega) (by omega) (by omega), e1]
    rfl
/-- both found the same -/
theorem found_eq {md : Int × Int × Int × Int} {by_ a b L L2 : Int} {C leg leg2 : Int → Int} {t f t2 f2 : Int} (h : rsp M0 md by_ a b C L leg) (h2 : rsp M0 md by_ a b C L2 leg2)
    (n1 : bvl M0 md by_ a b C = FARC → t = -1 ∧ f = -1) (y1 : bvl M0 md by_ a b C ≠ FARC → (0 ≤ t ∧ t ≤ 4000000) ∧ (0 ≤ f ∧ f ≤ 4000000) ∧ key by_ t f = bvl M0 md by_ a b C)
    (n2 : bvl M0 md by_ a b C = FARC → t2 = -1 ∧ f2 = -1) (y2 : bvl M0 md by_ a b C ≠ FARC → (0 ≤ t2 ∧ t2 ≤ 4000000) ∧ (0 ≤ f2 ∧ f2 ≤ 4000000) ∧ key by_ t2 f2 = bvl M0 md by_ a b C) : L = L2 ∧ (∀ i : Int, 0 ≤ i → i < L → leg i = leg2 i) ∧ t = t2 ∧ f = f2 := by
  obtain ⟨e1, e2⟩ := rsp_u h h2
  refine ⟨e1, e2, ?_⟩
  by_cases q : bvl M0 md by_ a b C = FARC
  · rw [(n1 q).1, (n1 q).2, (n2 q).1, (n2 q).2]; exact ⟨rfl, rfl⟩
  · obtain ⟨r1, r2, r3⟩ := y1 q
    obtain ⟨s1, s2, s3⟩ := y2 q
    exact (key_inj r1.1 r1.2 r2.1 r2.2 s1.1 s1.2 s2.1 s2.2).mp (r3.trans s3.symm)
theorem b_wouldSay (hF : F = am_F T0 g) (hg : GG g) (hI : Inv M) {p a b hour : Int} (p1 : -2147483648 ≤ p) (p2 : p < 2147483648) (a1 : -2147483648 ≤ a) (a2 : a < 2147483648) (b1 : -2147483648 ≤ b) (b2 : b < 2147483648) (u1 : -2147483648 ≤ hour) (u2 : hour < 2147483648) :
    ∃ (r : Int) (M1 M2 : am_M), F 256 0 [.ref 0, .int (iI p), .int (iI a), .int (iI b), .int (iI hour)] [] M = some (some (.int (iI r)), M1) ∧ F 268 0 [.ref 219, .int (iI p), .int (iI a), .int (iI b), .int (iI hour)] [] M1 = some (some (.int (iI r)), M2) ∧ Inv M2 := by
  have hI' := hI
  obtain ⟨h1, h2, h3, h4, h5, h6, h7, h8, h9, h10, h11, h12, h13, h14, h15, h16, h17, h18, h19, hm, ht⟩ := hI
  have hd := h4.1
  have hn := h2.1
  have hp := h15.1
  have hA := Ag.refl M
  have cp := c_noPupil hF hg h15 p1 p2
  have mp := m_isPupil hF hg h15.1 p1 p2
  by_cases q0 : p < 0 ∨ A M 219 41 - 1 < p
  · rw [bI_t q0] at cp
    rw [bI_f (by omega)] at mp
    refine ⟨-1, M, M, ?_, ?_, hI'⟩
    · refine s_RunSayer_wouldSay hF hg ?_
      simp (config := { maxSteps := 1000000 }) (disch := (first | omega | decide | assumption)) only [ltm_s, ok_n, rd_i, rd_j, fd_i, fd_j, wr_i, wr_j, fw_i, fw_j, ci_s, cj_s, cv_s, dv_n, dw_n, rt_1, rt_b, rt_20, rt_21, okb_0, okb_1, okb_b, nar_0, nar_1, nar_b, i_0, i_1, j_0, j_1, i_lit, j_lit, i_n, iI_add, iI_sub, iI_mul, iI_neg, jI_add, jI_sub, jI_mul, jI_neg, sh_1, an_1, xo_1, di_p, dj_p, i_64A, i_64, j_32, lq_ge, lq_lt, lq_le, lq_gt, lq_eq, i_lt, i_le, i_eq, j_eq, iI_A, jI_J, iI_b, iI_v, jI_v, ↓reduceIte, ite_true, ite_false, Int.reduceEq, Int.reduceLT, Int.reduceLE, Int.reduceAdd, Int.reduceSub, Int.reduceMul, Int.reduceNeg, not_true_eq_false, not_false_eq_true, cp]
    · refine s_Model_wouldSay hF hg ?_
      refine ci_in mp ?_
      rfl
  rw [bI_f q0] at cp
  rw [bI_t (by omega)] at mp
  have cd := c_noDoors hF hg hA h4 a1 a2 b1 b2
  have ma := m_isDoor hF hg hA h4 a1 a2
  have mb := m_isDoor hF hg hA h4 b1 b2
  by_cases q1 : (a < 0 ∨ nD M - 1 < a) ∨ b < 0 ∨ nD M - 1 < b
  · rw [bI_t q1] at cd
    refine ⟨-1, M, M, ?_, ?_, hI'⟩
    · refine s_RunSayer_wouldSay hF hg ?_
      simp (config := { maxSteps := 1000000 }) (disch := (first | omega | decide | assumption)) only [ltm_s, ok_n, rd_i, rd_j, fd_i, fd_j, wr_i, wr_j, fw_i, fw_j, ci_s, cj_s, cv_s, dv_n, dw_n, rt_1, rt_b, rt_20, rt_21, okb_0, okb_1, okb_b, nar_0, nar_1, nar_b, i_0, i_1, j_0, j_1, i_lit, j_lit, i_n, iI_add, iI_sub, iI_mul, iI_neg, jI_add, jI_sub, jI_mul, jI_neg, sh_1, an_1, xo_1, di_p, dj_p, i_64A, i_64, j_32, lq_ge, lq_lt, lq_le, lq_gt, lq_eq, i_lt, i_le, i_eq, j_eq, iI_A, jI_J, iI_b, iI_v, jI_v, ↓reduceIte, ite_true, ite_false, Int.reduceEq, Int.reduceLT, Int.reduceLE, Int.reduceAdd, Int.reduceSub, Int.reduceMul, Int.reduceNeg, not_true_eq_false, not_false_eq_true, cp, cd]
    · refine s_Model_wouldSay hF hg ?_
      refine ci_in (mp) ?_
      rw [if_neg (show ¬ iI 1 = 0 by decide)]
      by_cases q2 : 0 ≤ a ∧ a ≤ nD M - 1
      · have q3 : ¬ (0 ≤ b ∧ b ≤ nD M - 1) := by omega
        rw [bI_t q2] at ma
        rw [bI_f q3] at mb
        refine ci_in (ma) ?_
        rw [if_neg (show ¬ iI 1 = 0 by decide)]
        refine ci_in mb ?_
        rfl
      · rw [bI_f q2] at ma
        refine ci_in ma ?_
        rfl
  rw [bI_f q1] at cd
  rw [bI_t (by omega)] at ma mb
  by_cases q2 : a = b
  · refine ⟨-2, M, M, ?_, ?_, hI'⟩
    · refine s_RunSayer_wouldSay hF hg ?_
      simp (config := { maxSteps := 1000000 }) (disch := (first | omega | decide | assumption)) only [ltm_s, ok_n, rd_i, rd_j, fd_i, fd_j, wr_i, wr_j, fw_i, fw_j, ci_s, cj_s, cv_s, dv_n, dw_n, rt_1, rt_b, rt_20, rt_21, okb_0, okb_1, okb_b, nar_0, nar_1, nar_b, i_0, i_1, j_0, j_1, i_lit, j_lit, i_n, iI_add, iI_sub, iI_mul, iI_neg, jI_add, jI_sub, jI_mul, jI_neg, sh_1, an_1, xo_1, di_p, dj_p, i_64A, i_64, j_32, lq_ge, lq_lt, lq_le, lq_gt, lq_eq, i_lt, i_le, i_eq, j_eq, iI_A, jI_J, iI_b, iI_v, jI_v, ↓reduceIte, ite_true, ite_false, Int.reduceEq, Int.reduceLT, Int.reduceLE, Int.reduceAdd, Int.reduceSub, Int.reduceMul, Int.reduceNeg, not_true_eq_false, not_false_eq_true, cp, cd, eq_true q2]
    · refine s_Model_wouldSay hF hg ?_
      refine ci_in (mp) ?_
      rw [if_neg (show ¬ iI 1 = 0 by decide)]
      refine ci_in (ma) ?_
      rw [if_neg (show ¬ iI 1 = 0 by decide)]
      refine ci_in (mb) ?_
      rw [if_neg (show ¬ iI 1 = 0 by decide)]
      simp (config := { maxSteps := 1000000 }) (disch := (first | omega | decide | assumption)) only [ltm_s, ok_n, rd_i, rd_j, fd_i, fd_j, wr_i, wr_j, fw_i, fw_j, ci_s, cj_s, cv_s, dv_n, dw_n, rt_1, rt_b, rt_20, rt_21, okb_0, okb_1, okb_b, nar_0, nar_1, nar_b, i_0, i_1, j_0, j_1, i_lit, j_lit, i_n, iI_add, iI_sub, iI_mul, iI_neg, jI_add, jI_sub, jI_mul, jI_neg, sh_1, an_1, xo_1, di_p, dj_p, i_64A, i_64, j_32, lq_ge, lq_lt, lq_le, lq_gt, lq_eq, i_lt, i_le, i_eq, j_eq, iI_A, jI_J, iI_b, iI_v, jI_v, ↓reduceIte, ite_true, ite_false, Int.reduceEq, Int.reduceLT, Int.reduceLE, Int.reduceAdd, Int.reduceSub, Int.reduceMul, Int.reduceNeg, not_true_eq_false, not_false_eq_true, eq_true q2]
  have nab : ¬ iI a = iI b := fun h => by
    have := congrArg Int32.toInt h
    rw [iI_v a1 a2, iI_v b1 b2] at this
    exact q2 this
  have ch := c_noHour hF hg (M := M) u1 u2
  have mh := m_isHour hF hg (M := M) u1 u2
  by_cases q3 : hour < 0 ∨ 23 < hour
  · rw [bI_t q3] at ch
    rw [bI_f (by omega)] at mh
    refine ⟨-2, M, M, ?_, ?_, hI'⟩
    · refine s_RunSayer_wouldSay hF hg ?_
      simp (config := { maxSteps := 1000000 }) (disch := (first | omega | decide | assumption)) only [ltm_s, ok_n, rd_i, rd_j, fd_i, fd_j, wr_i, wr_j, fw_i, fw_j, ci_s, cj_s, cv_s, dv_n, dw_n, rt_1, rt_b, rt_20, rt_21, okb_0, okb_1, okb_b, nar_0, nar_1, nar_b, i_0, i_1, j_0, j_1, i_lit, j_lit, i_n, iI_add, iI_sub, iI_mul, iI_neg, jI_add, jI_sub, jI_mul, jI_neg, sh_1, an_1, xo_1, di_p, dj_p, i_64A, i_64, j_32, lq_ge, lq_lt, lq_le, lq_gt, lq_eq, i_lt, i_le, i_eq, j_eq, iI_A, jI_J, iI_b, iI_v, jI_v, ↓reduceIte, ite_true, ite_false, Int.reduceEq, Int.reduceLT, Int.reduceLE, Int.reduceAdd, Int.reduceSub, Int.reduceMul, Int.reduceNeg, not_true_eq_false, not_false_eq_true, cp, cd, q2, ch]
    · refine s_Model_wouldSay hF hg ?_
      refine ci_in (mp) ?_
      rw [if_neg (show ¬ iI 1 = 0 by decide)]
      refine ci_in (ma) ?_
      rw [if_neg (show ¬ iI 1 = 0 by decide)]
      refine ci_in (mb) ?_
      rw [if_neg (show ¬ iI 1 = 0 by decide)]
      rw [if_neg nab]
      refine ci_in mh ?_
      rfl
  rw [bI_f q3] at ch
  rw [bI_t (by omega)] at mh
  obtain ⟨N1, x1, x2, x3, x4⟩ := c_setHour hF hg h2 hA (hour := hour) (by omega) (by omega)
  have hs : Hs M hour N1 := ⟨x2.ag (by decide), hm.ke x2 (by decide) (by decide) (by decide), x3, x4⟩
  obtain ⟨N2, M1, L, C, y1, y2, y3⟩ := c_sayBy hF hg (rok_66 hg) h1 h2 h3 h4 h8 h9 h14 h15 (by omega) (by omega) hs (p := p) (a := a) (b := b) (by omega) (by omega) (by omega) (by omega) (by omega) (by omega)
  have Hs1 := hs.fnd (rok_66 hg) y2 y3
  obtain ⟨f1, f2, f3, f4, f5, f6, f7, -⟩ := y3
  have A1 := Hs1.1
  have K1 : Ke [32, 33, 34, 35, 36, 37, 38, 39, 40, 41, 66, 67] M M1 := ((x2.mono (by decide)).trans (y2.mono (by decide))).trans (f1.mono (by decide))
  obtain ⟨N3, N4, z1, z2, z3, z4, z5, z6, z7, z8, z9, -⟩ := m_pup hF hg A1 h1 h2 h3 h4 h6 h7 h8 h9 (p := p) (hour := hour) (a := a) (b := b) (by omega) (by omega) (by omega) (by omega) (by omega) (by omega) (by omega) (by omega) (by omega) f3
  have hL := rsp_len hn z6
  obtain ⟨M2, w1, w2, w3, w4, w5, w6, w7, w8, -⟩ := m_tells hF hg z5 hL.1 hL.2 rfl
  obtain ⟨e1, e2, e3, e4⟩ := found_eq f5 z6 f6 f7 z7 z8
  rw [← e1] at w1 w4 w5
  have K2 : Ke [219, 262, 263, 264, 265] M1 M2 := (z4.mono (by decide)).trans (w3.mono (by decide))
  have x66 : ∀ z : Int, A M2 66 z = A M1 66 z := fun z => K2.a (by decide)
  have x67 : ∀ z : Int, A M2 67 z = A M1 67 z := fun z => K2.a (by decide)
  have kb : Kbs M M2 := by
    refine ⟨w2, ?_, ⟨?_, ?_, ?_, ?_, ?_⟩, (K1.mono (by decide)).trans (K2.mono (by decide)), fun z z0 => by rw [w8 z (by omega) (by omega), z9 z (by omega), K1.a (by decide)]⟩
    · exact Hs1.2.1.ke K2 (by decide) (by decide) (by decide)
    · rw [x66, f4]; omega
    · rw [x66, f4]; exact w5
    · intro i i0 i1
      rw [x66, f4] at i1
      rw [w4 i i0 i1, x67]
      exact (e2 i i0 i1).symm
    · rw [x66, w6, e3]
    · rw [x66, w7, e4]
  refine ⟨L, M1, M2, ?_, ?_, kb.inv hI'⟩
  · refine s_RunSayer_wouldSay hF hg ?_
    simp (config := { maxSteps := 1000000 }) (disch := (first | omega | decide | assumption)) only [ltm_s, ok_n, rd_i, rd_j, fd_i, fd_j, wr_i, wr_j, fw_i, fw_j, ci_s, cj_s, cv_s, dv_n, dw_n, rt_1, rt_b, rt_20, rt_21, okb_0, okb_1, okb_b, nar_0, nar_1, nar_b, i_0, i_1, j_0, j_1, i_lit, j_lit, i_n, iI_add, iI_sub, iI_mul, iI_neg, jI_add, jI_sub, jI_mul, jI_neg, sh_1, an_1, xo_1, di_p, dj_p, i_64A, i_64, j_32, lq_ge, lq_lt, lq_le, lq_gt, lq_eq, i_lt, i_le, i_eq, j_eq, iI_A, jI_J, iI_b, iI_v, jI_v, ↓reduceIte, ite_true, ite_false, Int.reduceEq, Int.reduceLT, Int.reduceLE, Int.reduceAdd, Int.reduceSub, Int.reduceMul, Int.reduceNeg, not_true_eq_false, not_false_eq_true, cp, cd, q2, ch, x1, y1]
  · have mp' := m_isPupil hF hg (M := M1) (by rw [K1.a (by decide)]; exact h15.1) p1 p2
    rw [K1.a (a := 219) (by decide), bI_t (by omega)] at mp'
    have ma' := m_isDoor hF hg A1 h4 a1 a2
    have mb' := m_isDoor hF hg A1 h4 b1 b2
    rw [bI_t (by omega)] at ma' mb'
    have mh' := m_isHour hF hg (M := M1) u1 u2
    rw [bI_t (by omega)] at mh'
    refine s_Model_wouldSay hF hg ?_
    refine ci_in (mp') ?_
    rw [if_neg (show ¬ iI 1 = 0 by decide)]
    refine ci_in (ma') ?_
    rw [if_neg (show ¬ iI 1 = 0 by decide)]
    refine ci_in (mb') ?_
    rw [if_neg (show ¬ iI 1 = 0 by decide)]
    rw [if_neg nab]
    refine ci_in (mh') ?_
    rw [if_neg (show ¬ iI 1 = 0 by decide)]
    simp (config := { maxSteps := 1000000 }) (disch := (first | omega | decide | assumption)) only [ltm_s, ok_n, rd_i, rd_j, fd_i, fd_j, wr_i, wr_j, fw_i, fw_j, ci_s, cj_s, cv_s, dv_n, dw_n, rt_1, rt_b, rt_20, rt_21, okb_0, okb_1, okb_b, nar_0, nar_1, nar_b, i_0, i_1, j_0, j_1, i_lit, j_lit, i_n, iI_add, iI_sub, iI_mul, iI_neg, jI_add, jI_sub, jI_mul, jI_neg, sh_1, an_1, xo_1, di_p, dj_p, i_64A, i_64, j_32, lq_ge, lq_lt, lq_le, lq_gt, lq_eq, i_lt, i_le, i_eq, j_eq, iI_A, jI_J, iI_b, iI_v, jI_v, ↓reduceIte, ite_true, ite_false, Int.reduceEq, Int.reduceLT, Int.reduceLE, Int.reduceAdd, Int.reduceSub, Int.reduceMul, Int.reduceNeg, not_true_eq_false, not_false_eq_true, z1, z3, w1]
end By
