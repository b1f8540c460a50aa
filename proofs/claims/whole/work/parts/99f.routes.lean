/-! WHAT IS KNOWN OF A FOUND ROUTE; whether it may be driven, by both -/
section Rw
variable {M0 M M' : am_M} {g : am_G} {F : am_FT}
theorem rsp_leg (h2 : I2 M0) (h4 : I4 M0) {md : Int × Int × Int × Int} {by_ a b L : Int} {C leg : Int → Int} (hC : Bel_ M0 md by_ a b C) (a0 : 0 ≤ a) (a1 : a < nD M0) (h : rsp M0 md by_ a b C L leg) : (∀ i : Int, 0 ≤ i → i < L → 0 ≤ leg i ∧ leg i < 2 * nW M0) ∧ ∀ i : Int, 0 ≤ i → i + 1 < L → may M0 md (leg i) (leg (i + 1)) := by
  have hn := h2.1
  have wa := (h4.2.2 a a0 a1).1
  have hs : 0 ≤ sbl M0 md by_ a b C ∧ sbl M0 md by_ a b C < 2 * nW M0 := by
    unfold sbl
    split <;> omega
  obtain ⟨r1, r2, r3⟩ := h
  by_cases q : bvl M0 md by_ a b C = FARC
  · have := r1 q
    exact ⟨fun i i0 i1 => by omega, fun i i0 i1 => by omega⟩
  · by_cases q2 : alone M0 by_ a b (sbl M0 md by_ a b C) = bvl M0 md by_ a b C
    · obtain ⟨e1, e2⟩ := r2 q q2
      refine ⟨fun i i0 i1 => ?_, fun i i0 i1 => by omega⟩
      have : i = 0 := by omega
      rw [this, e2]; exact hs
    · obtain ⟨m, hp, m2, e1, e2⟩ := r3 q q2
      have hN : ((2 * nW M0).toNat : Int) = 2 * nW M0 := by omega
      have st : ∀ j : Nat, j ≤ m → (0 ≤ pt_ M0 md by_ a b C j (sbl M0 md by_ a b C) ∧ pt_ M0 md by_ a b C j (sbl M0 md by_ a b C) < 2 * nW M0) ∧ (0 ≤ pt_ M0 md by_ a b C (j + 1) (sbl M0 md by_ a b C) ∧ pt_ M0 md by_ a b C (j + 1) (sbl M0 md by_ a b C) < 2 * nW M0) ∧ may M0 md (pt_ M0 md by_ a b C j (sbl M0 md by_ a b C)) (pt_ M0 md by_ a b C (j + 1) (sbl M0 md by_ a b C)) := fun j hj => by
        obtain ⟨p1, p2⟩ := hp.1 j hj
        obtain ⟨n1, n2, -⟩ := nf_ok hC p1.1 p1.2 p2
        have e : pt_ M0 md by_ a b C (j + 1) (sbl M0 md by_ a b C) = nf_ M0 md by_ a b C (pt_ M0 md by_ a b C j (sbl M0 md by_ a b C)) := pt_s
        rw [e]
        exact ⟨⟨p1.1, Int.lt_of_lt_of_le p1.2 (Int.le_of_eq hN)⟩, ⟨n1.1, Int.lt_of_lt_of_le n1.2 (Int.le_of_eq hN)⟩, n2.1⟩
      refine ⟨fun i i0 i1 => ?_, fun i i0 i1 => ?_⟩
      · have ei : ((i.toNat : Nat) : Int) = i := by omega
        have el := e2 i.toNat (by omega)
        rw [ei] at el
        rw [el]
        by_cases c : i.toNat ≤ m
        · exact (st i.toNat c).1
        · have h1 := (st m (Nat.le_refl _)).2.1
          rw [show i.toNat = m + 1 by omega]
          exact h1
      · have ei : ((i.toNat : Nat) : Int) = i := by omega
        have ei1 : (((i.toNat + 1 : Nat)) : Int) = i + 1 := by omega
        have el := e2 i.toNat (by omega)
        have el1 := e2 (i.toNat + 1) (by omega)
        rw [ei] at el
        rw [ei1] at el1
        rw [el, el1]
        exact (st i.toNat (by omega)).2.2
/-- what is found by feet has feet -/
theorem feet_pos (h1 : I1 M0) (h2 : I2 M0) (h4 : I4 M0) {md : Int × Int × Int × Int} {a b t f : Int} {C : Int → Int} (u0 : 0 ≤ md.2.2.1) (u1 : md.2.2.1 < 24) (hC : Bel_ M0 md 1 a b C) (a0 : 0 ≤ a) (a1 : a < nD M0) (b0 : 0 ≤ b) (b1 : b < nD M0) (hq : bvl M0 md 1 a b C ≠ FARC) (t1 : t ≤ 4000000) (hk : key 1 t f = bvl M0 md 1 a b C) : 1 ≤ f := by
  have hn := h2.1
  have wa := (h4.2.2 a a0 a1).1
  have hN : ((2 * nW M0).toNat : Int) = 2 * nW M0 := by omega
  have hs : 0 ≤ sbl M0 md 1 a b C ∧ sbl M0 md 1 a b C < 2 * nW M0 := by
    unfold sbl
    split <;> omega
  have k1 : ∀ x y : Int, key 1 x y = y * 4294967296 + x := fun x y => by unfold key; rw [if_neg (by omega)]
  have hCe : ∀ e : Int, 0 ≤ e → e < 2 * nW M0 → C e ≠ FARC → 4294967296 ≤ C e := fun e e0 e1 he => by
    obtain ⟨x, x0, x1, -, hx⟩ := hC.2.2.2 e e0 (by omega) he
    rcases hx with ⟨-, hx⟩ | ⟨hx, hy⟩
    · have := tdr_r h2 h4 (b := b) (f := x) b0 b1
      rw [hx]
      unfold gkk
      rw [k1]
      omega
    · have hp := prc_r h2 (w := x / 2) (h := md.2.2.1) (by omega) (by omega) u0 u1
      have he2 := en_r h2 (e := x) x0 (by omega)
      have ho := strg_r h1 h2 h4 a0 a1 b0 b1 he2.1 he2.2
      have hc0 : C x = FARC ∨ 0 ≤ C x ∧ C x < FARC := hC.1 x x0 x1
      rw [hy]
      unfold wkk offs
      rw [k1]
      have hc1 : 0 ≤ C x := by
        rcases hc0 with z | z
        · exact absurd z hx
        · exact z.1
      omega
  have lo : 4294967296 ≤ bvl M0 md 1 a b C := by
    unfold bvl at hq ⊢
    unfold vst at hq ⊢
    have hal : alone M0 1 a b (sbl M0 md 1 a b C) = FARC ∨ 4294967296 ≤ alone M0 1 a b (sbl M0 md 1 a b C) := by
      unfold alone
      split
      · rename_i z
        rw [k1]; omega
      · exact Or.inl rfl
    have hth : thru M0 1 a b C (sbl M0 md 1 a b C) = FARC ∨ 4294967296 ≤ thru M0 1 a b C (sbl M0 md 1 a b C) := by
      unfold thru
      split
      · exact Or.inl rfl
      · rename_i z
        have := hCe _ hs.1 hs.2 z
        have hf := fdr_r h2 h4 (b := a) (f := sbl M0 md 1 a b C) a0 a1
        have he2 := en_r h2 (e := sbl M0 md 1 a b C) hs.1 hs.2
        have ho := strg_r h1 h2 h4 a0 a1 b0 b1 he2.1 he2.2
        unfold offs
        rw [k1]
        omega
    have eF : FARC = 9223372036854775807 := rfl
    split
    · split <;> omega
    · omega
  rw [← hk, k1] at lo
  omega
/-- a route may be driven -/
def good (M0 : am_M) (day hour kn L : Int) (leg : Int → Int) : Prop := ∀ i : Int, 0 ≤ i → i < L → drv M0 (leg i) day hour kn ∧ (0 < i → ¬ bnd M0 (leg (i - 1)) (leg i) day hour)
theorem c_allows_l (hF : F = am_F T0 g) (hg : GG g) {rt : Nat} (hr : isRt g rt) (h2 : I2 M0) {day hour kn L : Int} {leg : Int → Int} (hs : fset M0 (-1, day, hour, kn) M) (L0 : 0 ≤ L ∧ L ≤ 80) (hl5 : A M rt 5 = L) (hleg : ∀ i : Int, 0 ≤ i → i < L → A M (rt + 1) i = leg i ∧ 0 ≤ leg i ∧ leg i < 2 * nW M0) (hfo : ∀ i : Int, 0 ≤ i → i + 1 < L → fol M0 (leg i) (leg (i + 1))) : ∀ n k : Nat, (k : Int) + n = L → F 92 2 [.ref 32, .ref rt, .int (iI k)] [] M = some (some (.int (iI (bI (∀ i : Int, (k : Int) ≤ i → i < L → drv M0 (leg i) day hour kn ∧ (0 < i → ¬ bnd M0 (leg (i - 1)) (leg i) day hour))))), M) := by
  have hn := h2.1
  intro n
  induction n with
  | zero =>
    intro k hk
    have u : L ≤ (k : Int) := by omega
    rw [bI_t (fun i i0 i1 => by omega)]
    refine s_Finder_allows_2 hF hg hr ?_
    simp (config := { maxSteps := 1000000 }) (disch := (first | omega | decide | assumption)) only [ltm_s, ok_n, rd_i, rd_j, fd_i, fd_j, wr_i, wr_j, fw_i, fw_j, ci_s, cj_s, cv_s, dv_n, dw_n, rt_1, rt_b, rt_20, rt_21, okb_0, okb_1, okb_b, nar_0, nar_1, nar_b, i_0, i_1, j_0, j_1, i_lit, j_lit, i_n, iI_add, iI_sub, iI_mul, iI_neg, jI_add, jI_sub, jI_mul, jI_neg, sh_1, an_1, xo_1, di_p, dj_p, i_64A, i_64, j_32, lq_ge, lq_lt, lq_le, lq_gt, lq_eq, i_lt, i_le, i_eq, j_eq, iI_A, jI_J, iI_b, iI_v, jI_v, ↓reduceIte, ite_true, ite_false, Int.reduceEq, Int.reduceLT, Int.reduceLE, Int.reduceAdd, Int.reduceSub, Int.reduceMul, Int.reduceNeg, not_true_eq_false, not_false_eq_true, hl5, u]
  | succ n ih =>
    intro k hk
    have u : ¬ L ≤ (k : Int) := by omega
    have hs1 : (k : Int) + 1 = ((k + 1 : Nat) : Int) := by omega
    obtain ⟨l1, l2⟩ := hleg k (by omega) (by omega)
    have us := hs.2.1 (leg k) l2.1 l2.2
    have i1 := ih (k + 1) (by omega)
    have em : mgo M0 (-1, day, hour, kn) (leg k) ↔ drv M0 (leg k) day hour kn := by
      unfold mgo; rw [if_pos rfl]
    rw [bI_cg em] at us
    by_cases q1 : drv M0 (leg k) day hour kn
    · rw [bI_t q1] at us
      by_cases q2 : (k : Int) ≤ 0
      · have iff : (∀ i : Int, (k : Int) ≤ i → i < L → drv M0 (leg i) day hour kn ∧ (0 < i → ¬ bnd M0 (leg (i - 1)) (leg i) day hour)) ↔ (∀ i : Int, ((k + 1 : Nat) : Int) ≤ i → i < L → drv M0 (leg i) day hour kn ∧ (0 < i → ¬ bnd M0 (leg (i - 1)) (leg i) day hour)) := ⟨fun h i i0 i1 => h i (by omega) i1, fun h i i0 i1 => by
          by_cases x : i = k
          · rw [x]; exact ⟨q1, fun z => by omega⟩
          · exact h i (by omega) i1⟩
        rw [bI_cg iff]
        refine s_Finder_allows_2 hF hg hr ?_
        simp (config := { maxSteps := 1000000 }) (disch := (first | omega | decide | assumption)) only [ltm_s, ok_n, rd_i, rd_j, fd_i, fd_j, wr_i, wr_j, fw_i, fw_j, ci_s, cj_s, cv_s, dv_n, dw_n, rt_1, rt_b, rt_20, rt_21, okb_0, okb_1, okb_b, nar_0, nar_1, nar_b, i_0, i_1, j_0, j_1, i_lit, j_lit, i_n, iI_add, iI_sub, iI_mul, iI_neg, jI_add, jI_sub, jI_mul, jI_neg, sh_1, an_1, xo_1, di_p, dj_p, i_64A, i_64, j_32, lq_ge, lq_lt, lq_le, lq_gt, lq_eq, i_lt, i_le, i_eq, j_eq, iI_A, jI_J, iI_b, iI_v, jI_v, ↓reduceIte, ite_true, ite_false, Int.reduceEq, Int.reduceLT, Int.reduceLE, Int.reduceAdd, Int.reduceSub, Int.reduceMul, Int.reduceNeg, not_true_eq_false, not_false_eq_true, hl5, u, l1, us, q2, hs1, i1]
      · obtain ⟨p1, p2⟩ := hleg (k - 1) (by omega) (by omega)
        have fo := hfo (k - 1) (by omega) (by omega)
        rw [show (k : Int) - 1 + 1 = k by omega] at fo
        have mt := c_mayTurn hF hg h2 hs (e := leg (k - 1)) (f := leg k) p2.1 p2.2 l2.1 l2.2 fo.1
        have emt : may M0 (-1, day, hour, kn) (leg (k - 1)) (leg k) ↔ ¬ bnd M0 (leg (k - 1)) (leg k) day hour := by
          unfold may
          constructor
          · intro ⟨x1, x2, x3⟩ x4
            exact (x3.mp (by unfold mkd; rw [if_pos rfl]; exact x4)) rfl
          · intro x
            exact ⟨fo, em.mpr q1, ⟨fun y => absurd (by unfold mkd at y; rw [if_pos rfl] at y; exact y) x, fun y => absurd rfl y⟩⟩
        rw [bI_cg emt] at mt
        by_cases q3 : bnd M0 (leg (k - 1)) (leg k) day hour
        · rw [bI_f (fun h => h q3)] at mt
          rw [bI_f (fun h => (h k (by omega) (by omega)).2 (by omega) q3)]
          refine s_Finder_allows_2 hF hg hr ?_
          simp (config := { maxSteps := 1000000 }) (disch := (first | omega | decide | assumption)) only [ltm_s, ok_n, rd_i, rd_j, fd_i, fd_j, wr_i, wr_j, fw_i, fw_j, ci_s, cj_s, cv_s, dv_n, dw_n, rt_1, rt_b, rt_20, rt_21, okb_0, okb_1, okb_b, nar_0, nar_1, nar_b, i_0, i_1, j_0, j_1, i_lit, j_lit, i_n, iI_add, iI_sub, iI_mul, iI_neg, jI_add, jI_sub, jI_mul, jI_neg, sh_1, an_1, xo_1, di_p, dj_p, i_64A, i_64, j_32, lq_ge, lq_lt, lq_le, lq_gt, lq_eq, i_lt, i_le, i_eq, j_eq, iI_A, jI_J, iI_b, iI_v, jI_v, ↓reduceIte, ite_true, ite_false, Int.reduceEq, Int.reduceLT, Int.reduceLE, Int.reduceAdd, Int.reduceSub, Int.reduceMul, Int.reduceNeg, not_true_eq_false, not_false_eq_true, hl5, u, l1, us, q2, p1, mt]
        · rw [bI_t q3] at mt
          have iff : (∀ i : Int, (k : Int) ≤ i → i < L → drv M0 (leg i) day hour kn ∧ (0 < i → ¬ bnd M0 (leg (i - 1)) (leg i) day hour)) ↔ (∀ i : Int, ((k + 1 : Nat) : Int) ≤ i → i < L → drv M0 (leg i) day hour kn ∧ (0 < i → ¬ bnd M0 (leg (i - 1)) (leg i) day hour)) := ⟨fun h i i0 i1 => h i (by omega) i1, fun h i i0 i1 => by
            by_cases x : i = k
            · rw [x]; exact ⟨q1, fun z => q3⟩
            · exact h i (by omega) i1⟩
          rw [bI_cg iff]
          refine s_Finder_allows_2 hF hg hr ?_
          simp (config := { maxSteps := 1000000 }) (disch := (first | omega | decide | assumption)) only [ltm_s, ok_n, rd_i, rd_j, fd_i, fd_j, wr_i, wr_j, fw_i, fw_j, ci_s, cj_s, cv_s, dv_n, dw_n, rt_1, rt_b, rt_20, rt_21, okb_0, okb_1, okb_b, nar_0, nar_1, nar_b, i_0, i_1, j_0, j_1, i_lit, j_lit, i_n, iI_add, iI_sub, iI_mul, iI_neg, jI_add, jI_sub, jI_mul, jI_neg, sh_1, an_1, xo_1, di_p, dj_p, i_64A, i_64, j_32, lq_ge, lq_lt, lq_le, lq_gt, lq_eq, i_lt, i_le, i_eq, j_eq, iI_A, jI_J, iI_b, iI_v, jI_v, ↓reduceIte, ite_true, ite_false, Int.reduceEq, Int.reduceLT, Int.reduceLE, Int.reduceAdd, Int.reduceSub, Int.reduceMul, Int.reduceNeg, not_true_eq_false, not_false_eq_true, hl5, u, l1, us, q2, p1, mt, hs1, i1]
    · rw [bI_f q1] at us
      rw [bI_f (fun h => q1 (h k (by omega) (by omega)).1)]
      refine s_Finder_allows_2 hF hg hr ?_
      simp (config := { maxSteps := 1000000 }) (disch := (first | omega | decide | assumption)) only [ltm_s, ok_n, rd_i, rd_j, fd_i, fd_j, wr_i, wr_j, fw_i, fw_j, ci_s, cj_s, cv_s, dv_n, dw_n, rt_1, rt_b, rt_20, rt_21, okb_0, okb_1, okb_b, nar_0, nar_1, nar_b, i_0, i_1, j_0, j_1, i_lit, j_lit, i_n, iI_add, iI_sub, iI_mul, iI_neg, jI_add, jI_sub, jI_mul, jI_neg, sh_1, an_1, xo_1, di_p, dj_p, i_64A, i_64, j_32, lq_ge, lq_lt, lq_le, lq_gt, lq_eq, i_lt, i_le, i_eq, j_eq, iI_A, jI_J, iI_b, iI_v, jI_v, ↓reduceIte, ite_true, ite_false, Int.reduceEq, Int.reduceLT, Int.reduceLE, Int.reduceAdd, Int.reduceSub, Int.reduceMul, Int.reduceNeg, not_true_eq_false, not_false_eq_true, hl5, u, l1, us]
theorem c_allows (hF : F = am_F T0 g) (hg : GG g) {rt : Nat} (hr : isRt g rt) (h2 : I2 M0) {day hour kn L : Int} {leg : Int → Int} (hs : fset M0 (-1, day, hour, kn) M) (L0 : 0 ≤ L ∧ L ≤ 80) (hl5 : A M rt 5 = L) (hleg : ∀ i : Int, 0 ≤ i → i < L → A M (rt + 1) i = leg i ∧ 0 ≤ leg i ∧ leg i < 2 * nW M0) (hfo : ∀ i : Int, 0 ≤ i → i + 1 < L → fol M0 (leg i) (leg (i + 1))) : F 92 0 [.ref 32, .ref rt] [] M = some (some (.int (iI (bI (good M0 day hour kn L leg)))), M) := by
  refine s_Finder_allows hF hg hr ?_
  exact c_allows_l hF hg hr h2 hs L0 hl5 hleg hfo L.toNat 0 (by omega)
theorem m_isWrong_l (hF : F = am_F T0 g) (hg : GG g) (hA : Ag M0 M) (h2 : I2 M0) (h6 : I6 M0) (h7 : I7 M0) {k day hour kn L : Int} {leg : Int → Int} (k0 : 0 ≤ k) (k1 : k < 24) (d0 : 0 ≤ day) (d1 : day < 300) (u0 : 0 ≤ hour) (u1 : hour < 24) (n0 : 0 ≤ kn) (n1 : kn < 300) (L0 : 0 ≤ L ∧ L ≤ 80) (hl5 : A M 256 (8 * k + 6) = L) (hleg : ∀ i : Int, 0 ≤ i → i < L → A M 257 (80 * k + i) = leg i ∧ 0 ≤ leg i ∧ leg i < 2 * nW M0) : ∀ n j : Nat, (j : Int) + n = L → F 224 3 [.ref 219, .int (iI k), .int (iI day), .int (iI hour), .int (iI kn), .int (iI j)] [] M = some (some (.int (iI (bI (¬ ∀ i : Int, (j : Int) ≤ i → i < L → drv M0 (leg i) day hour kn ∧ (0 < i → ¬ bnd M0 (leg (i - 1)) (leg i) day hour))))), M) := by
  have hn := h2.1
  intro n
  induction n with
  | zero =>
    intro j hj
    have u : L ≤ (j : Int) := by omega
    rw [bI_f (fun h => h (fun i i0 i1 => by omega))]
    refine s_Model_isWrong_3 hF hg ?_
    simp (config := { maxSteps := 1000000 }) (disch := (first | omega | decide | assumption)) only [ltm_s, ok_n, rd_i, rd_j, fd_i, fd_j, wr_i, wr_j, fw_i, fw_j, ci_s, cj_s, cv_s, dv_n, dw_n, rt_1, rt_b, rt_20, rt_21, okb_0, okb_1, okb_b, nar_0, nar_1, nar_b, i_0, i_1, j_0, j_1, i_lit, j_lit, i_n, iI_add, iI_sub, iI_mul, iI_neg, jI_add, jI_sub, jI_mul, jI_neg, sh_1, an_1, xo_1, di_p, dj_p, i_64A, i_64, j_32, lq_ge, lq_lt, lq_le, lq_gt, lq_eq, i_lt, i_le, i_eq, j_eq, iI_A, jI_J, iI_b, iI_v, jI_v, ↓reduceIte, ite_true, ite_false, Int.reduceEq, Int.reduceLT, Int.reduceLE, Int.reduceAdd, Int.reduceSub, Int.reduceMul, Int.reduceNeg, not_true_eq_false, not_false_eq_true, hl5, u]
  | succ n ih =>
    intro j hj
    have u : ¬ L ≤ (j : Int) := by omega
    have hs1 : (j : Int) + 1 = ((j + 1 : Nat) : Int) := by omega
    obtain ⟨l1, l2⟩ := hleg j (by omega) (by omega)
    have i1 := ih (j + 1) (by omega)
    have md := m_isDrivable hF hg hA h2 h6 (e := leg j) (day := day) (hour := hour) (kn := kn) l2.1 l2.2 d0 d1 u0 u1 n0 n1
    by_cases q1 : drv M0 (leg j) day hour kn
    · rw [bI_t q1] at md
      by_cases q2 : (j : Int) ≤ 0
      · have iff : (¬ ∀ i : Int, (j : Int) ≤ i → i < L → drv M0 (leg i) day hour kn ∧ (0 < i → ¬ bnd M0 (leg (i - 1)) (leg i) day hour)) ↔ (¬ ∀ i : Int, ((j + 1 : Nat) : Int) ≤ i → i < L → drv M0 (leg i) day hour kn ∧ (0 < i → ¬ bnd M0 (leg (i - 1)) (leg i) day hour)) := not_congr ⟨fun h i i0 i1 => h i (by omega) i1, fun h i i0 i1 => by
          by_cases x : i = j
          · rw [x]; exact ⟨q1, fun z => by omega⟩
          · exact h i (by omega) i1⟩
        rw [bI_cg iff]
        refine s_Model_isWrong_3 hF hg ?_
        simp (config := { maxSteps := 1000000 }) (disch := (first | omega | decide | assumption)) only [ltm_s, ok_n, rd_i, rd_j, fd_i, fd_j, wr_i, wr_j, fw_i, fw_j, ci_s, cj_s, cv_s, dv_n, dw_n, rt_1, rt_b, rt_20, rt_21, okb_0, okb_1, okb_b, nar_0, nar_1, nar_b, i_0, i_1, j_0, j_1, i_lit, j_lit, i_n, iI_add, iI_sub, iI_mul, iI_neg, jI_add, jI_sub, jI_mul, jI_neg, sh_1, an_1, xo_1, di_p, dj_p, i_64A, i_64, j_32, lq_ge, lq_lt, lq_le, lq_gt, lq_eq, i_lt, i_le, i_eq, j_eq, iI_A, jI_J, iI_b, iI_v, jI_v, ↓reduceIte, ite_true, ite_false, Int.reduceEq, Int.reduceLT, Int.reduceLE, Int.reduceAdd, Int.reduceSub, Int.reduceMul, Int.reduceNeg, not_true_eq_false, not_false_eq_true, hl5, u, l1, md, q2, hs1, i1]
      · obtain ⟨p1, p2⟩ := hleg (j - 1) (by omega) (by omega)
        rw [show 80 * k + ((j : Int) - 1) = 80 * k + j - 1 by omega] at p1
        have mb := m_isBanned hF hg hA h7 (e := leg (j - 1)) (f := leg j) (day := day) (hour := hour) (by omega) (by omega) (by omega) (by omega) d0 d1 u0 u1
        by_cases q3 : bnd M0 (leg (j - 1)) (leg j) day hour
        · rw [bI_t q3] at mb
          rw [bI_t (show ¬ _ from fun h => (h j (by omega) (by omega)).2 (by omega) q3)]
          refine s_Model_isWrong_3 hF hg ?_
          simp (config := { maxSteps := 1000000 }) (disch := (first | omega | decide | assumption)) only [ltm_s, ok_n, rd_i, rd_j, fd_i, fd_j, wr_i, wr_j, fw_i, fw_j, ci_s, cj_s, cv_s, dv_n, dw_n, rt_1, rt_b, rt_20, rt_21, okb_0, okb_1, okb_b, nar_0, nar_1, nar_b, i_0, i_1, j_0, j_1, i_lit, j_lit, i_n, iI_add, iI_sub, iI_mul, iI_neg, jI_add, jI_sub, jI_mul, jI_neg, sh_1, an_1, xo_1, di_p, dj_p, i_64A, i_64, j_32, lq_ge, lq_lt, lq_le, lq_gt, lq_eq, i_lt, i_le, i_eq, j_eq, iI_A, jI_J, iI_b, iI_v, jI_v, ↓reduceIte, ite_true, ite_false, Int.reduceEq, Int.reduceLT, Int.reduceLE, Int.reduceAdd, Int.reduceSub, Int.reduceMul, Int.reduceNeg, not_true_eq_false, not_false_eq_true, hl5, u, l1, md, q2, p1, mb]
        · rw [bI_f q3] at mb
          have iff : (¬ ∀ i : Int, (j : Int) ≤ i → i < L → drv M0 (leg i) day hour kn ∧ (0 < i → ¬ bnd M0 (leg (i - 1)) (leg i) day hour)) ↔ (¬ ∀ i : Int, ((j + 1 : Nat) : Int) ≤ i → i < L → drv M0 (leg i) day hour kn ∧ (0 < i → ¬ bnd M0 (leg (i - 1)) (leg i) day hour)) := not_congr ⟨fun h i i0 i1 => h i (by omega) i1, fun h i i0 i1 => by
            by_cases x : i = j
            · rw [x]; exact ⟨q1, fun z => q3⟩
            · exact h i (by omega) i1⟩
          rw [bI_cg iff]
          refine s_Model_isWrong_3 hF hg ?_
          simp (config := { maxSteps := 1000000 }) (disch := (first | omega | decide | assumption)) only [ltm_s, ok_n, rd_i, rd_j, fd_i, fd_j, wr_i, wr_j, fw_i, fw_j, ci_s, cj_s, cv_s, dv_n, dw_n, rt_1, rt_b, rt_20, rt_21, okb_0, okb_1, okb_b, nar_0, nar_1, nar_b, i_0, i_1, j_0, j_1, i_lit, j_lit, i_n, iI_add, iI_sub, iI_mul, iI_neg, jI_add, jI_sub, jI_mul, jI_neg, sh_1, an_1, xo_1, di_p, dj_p, i_64A, i_64, j_32, lq_ge, lq_lt, lq_le, lq_gt, lq_eq, i_lt, i_le, i_eq, j_eq, iI_A, jI_J, iI_b, iI_v, jI_v, ↓reduceIte, ite_true, ite_false, Int.reduceEq, Int.reduceLT, Int.reduceLE, Int.reduceAdd, Int.reduceSub, Int.reduceMul, Int.reduceNeg, not_true_eq_false, not_false_eq_true, hl5, u, l1, md, q2, p1, mb, hs1, i1]
    · rw [bI_f q1] at md
      rw [bI_t (show ¬ _ from fun h => q1 (h j (by omega) (by omega)).1)]
      refine s_Model_isWrong_3 hF hg ?_
      simp (config := { maxSteps := 1000000 }) (disch := (first | omega | decide | assumption)) only [ltm_s, ok_n, rd_i, rd_j, fd_i, fd_j, wr_i, wr_j, fw_i, fw_j, ci_s, cj_s, cv_s, dv_n, dw_n, rt_1, rt_b, rt_20, rt_21, okb_0, okb_1, okb_b, nar_0, nar_1, nar_b, i_0, i_1, j_0, j_1, i_lit, j_lit, i_n, iI_add, iI_sub, iI_mul, iI_neg, jI_add, jI_sub, jI_mul, jI_neg, sh_1, an_1, xo_1, di_p, dj_p, i_64A, i_64, j_32, lq_ge, lq_lt, lq_le, lq_gt, lq_eq, i_lt, i_le, i_eq, j_eq, iI_A, jI_J, iI_b, iI_v, jI_v, ↓reduceIte, ite_true, ite_false, Int.reduceEq, Int.reduceLT, Int.reduceLE, Int.reduceAdd, Int.reduceSub, Int.reduceMul, Int.reduceNeg, not_true_eq_false, not_false_eq_true, hl5, u, l1, md]
theorem m_isWrong (hF : F = am_F T0 g) (hg : GG g) (hA : Ag M0 M) (h2 : I2 M0) (h6 : I6 M0) (h7 : I7 M0) {k day hour kn L : Int} {leg : Int → Int} (k0 : 0 ≤ k) (k1 : k < 24) (d0 : 0 ≤ day) (d1 : day < 300) (u0 : 0 ≤ hour) (u1 : hour < 24) (n0 : 0 ≤ kn) (n1 : kn < 300) (L0 : 0 ≤ L ∧ L ≤ 80) (hl5 : A M 256 (8 * k + 6) = L) (hleg : ∀ i : Int, 0 ≤ i → i < L → A M 257 (80 * k + i) = leg i ∧ 0 ≤ leg i ∧ leg i < 2 * nW M0) : F 224 0 [.ref 219, .int (iI k), .int (iI day), .int (iI hour), .int (iI kn)] [] M = some (some (.int (iI (bI (¬ good M0 day hour kn L leg)))), M) := by
  refine s_Model_isWrong hF hg ?_
  exact m_isWrong_l hF hg hA h2 h6 h7 k0 k1 d0 d1 u0 u1 n0 n1 L0 hl5 hleg L.toNat 0 (by omega)
end Rw
