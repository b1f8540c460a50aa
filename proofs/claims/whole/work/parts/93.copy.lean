/-! COPY, by both -/
section Cp
variable {M0 M M' : am_M} {g : am_G} {F : am_FT} {β : Type}
def cpM (M : am_M) (a : Nat) (i : Int) (b : Nat) (j n : Int) : am_M := wA M b (va_cpy (M.1 a) (M.1 b) i.toNat j.toNat n.toNat)
theorem cp_s {a b : Nat} {ka kb : Nat} {i j n : Int} {κ : am_M → Option β} (ha : gK g a = (1, ka)) (hb : gK g b = (1, kb)) (i0 : 0 ≤ i) (i1 : i < 2147483648) (j0 : 0 ≤ j) (j1 : j < 2147483648) (n0 : 0 ≤ n) (n1 : n < 2147483648) (hi : i + n ≤ ka) (hj : j + n ≤ kb) : am_cp g M a (iI i) b (iI j) (iI n) κ = κ (cpM M a i b j n) := by
  have z0 : ∀ v : Int, 0 ≤ v → v < 2147483648 → ¬ iI v < 0 := fun v v0 v1 h => by
    rw [i_lt, iI_v (by omega) v1] at h
    have e : (0 : Int32).toInt = 0 := rfl
    omega
  unfold am_cp
  rw [iI_n (by omega) i1, iI_n (by omega) j1, iI_n (by omega) n1, ha, hb, if_pos ⟨rfl, rfl, z0 i i0 i1, z0 j j0 j1, z0 n n0 n1, by show i.toNat + n.toNat ≤ ka; omega, by show j.toNat + n.toNat ≤ kb; omega⟩]
  rfl
theorem cp_in {a b : Nat} {i j n z : Int} (i0 : 0 ≤ i) (j0 : 0 ≤ j) (h0 : j ≤ z) (h1 : z < j + n) : A (cpM M a i b j n) b z = A M a (i + (z - j)) := by
  show ((if b = b then va_cpy (M.1 a) (M.1 b) i.toNat j.toNat n.toNat z.toNat else M.1 b z.toNat) : Int32).toInt = _
  rw [if_pos rfl]
  unfold va_cpy
  rw [if_pos (by omega)]
  unfold A
  rw [show i.toNat + (z.toNat - j.toNat) = (i + (z - j)).toNat by omega]
theorem cp_out {a b : Nat} {i j n z : Int} (j0 : 0 ≤ j) (n0 : 0 ≤ n) (z0 : 0 ≤ z) (h : ¬ (j ≤ z ∧ z < j + n)) : A (cpM M a i b j n) b z = A M b z := by
  show ((if b = b then va_cpy (M.1 a) (M.1 b) i.toNat j.toNat n.toNat z.toNat else M.1 b z.toNat) : Int32).toInt = _
  rw [if_pos rfl]
  unfold va_cpy
  rw [if_neg (by omega)]
  rfl
theorem cp_ch {a b : Nat} {i j n : Int} : Ch [b] [] M (cpM M a i b j n) := fun c k hc _ => by
  refine ⟨?_, fun _ => rfl⟩
  show (if c = b then _ else M.1 c k) = _
  rw [if_neg fun q => hc (by rw [q]; exact List.mem_singleton.mpr rfl)]
theorem m_copy_f (hF : F = am_F T0 g) (hg : GG g) {n a b : Int} (a0 : 0 ≤ a) (b0 : 0 ≤ b) (ha : a + n ≤ 400) (hb : b + n ≤ 400) (hab : b ≤ a) : ∀ (m k : Nat) (M1 : am_M), (k : Int) + m = n → Ch [261] [] M M1 → (∀ x : Int, 0 ≤ x → x < (k : Int) → A M1 261 (b + x) = A M 261 (a + x)) → (∀ z : Int, 0 ≤ z → ¬ (b ≤ z ∧ z < b + (k : Int)) → A M1 261 z = A M 261 z) → ∃ M2 : am_M, F 107 147 [.ref 219, .int (iI n), .int (iI a), .int (iI b), .int (iI k)] [] M1 = some (some (.int (iI n)), M2) ∧ Ch [261] [] M M2 ∧ (∀ x : Int, 0 ≤ x → x < n → A M2 261 (b + x) = A M 261 (a + x)) ∧ ∀ z : Int, 0 ≤ z → ¬ (b ≤ z ∧ z < b + n) → A M2 261 z = A M 261 z := by
  intro m
  induction m with
  | zero =>
    intro k M1 hk c h1 h2
    have e : (k : Int) = n := by omega
    rw [e] at h1 h2 ⊢
    have q : n ≤ n := Int.le_refl _
    refine ⟨M1, ?_, c, h1, h2⟩
    refine s_Model_copy_147 hF hg ?_
    simp (config := { maxSteps := 1000000 }) (disch := (first | omega | decide | assumption)) only [ltm_s, ok_n, rd_i, rd_j, fd_i, fd_j, wr_i, wr_j, fw_i, fw_j, ci_s, cj_s, cv_s, dv_n, dw_n, rt_1, rt_b, rt_20, rt_21, okb_0, okb_1, okb_b, nar_0, nar_1, nar_b, i_0, i_1, j_0, j_1, i_lit, j_lit, i_n, iI_add, iI_sub, iI_mul, iI_neg, jI_add, jI_sub, jI_mul, jI_neg, sh_1, an_1, xo_1, di_p, dj_p, i_64A, i_64, j_32, lq_ge, lq_lt, lq_le, lq_gt, lq_eq, i_lt, i_le, i_eq, j_eq, iI_A, jI_J, iI_b, iI_v, jI_v, ↓reduceIte, ite_true, ite_false, Int.reduceEq, Int.reduceLT, Int.reduceLE, Int.reduceAdd, Int.reduceSub, Int.reduceMul, Int.reduceNeg, not_true_eq_false, not_false_eq_true, q]
  | succ m ih =>
    intro k M1 hk c h1 h2
    have q : ¬ n ≤ (k : Int) := by omega
    have hs : (k : Int) + 1 = ((k + 1 : Nat) : Int) := by omega
    have rd := h2 (a + k) (by omega) (by omega)
    obtain ⟨M2, p1, p2, p3, p4⟩ := ih (k + 1) (W_ M1 261 (b + k) (A M1 261 (a + k))) (by omega) (c.wm (Or.inl (by decide))) (fun x x0 x1 => by
      by_cases q2 : x = k
      · rw [q2, A_WA, rd]
      · rw [A_Wo (by omega) (by omega) (by omega)]; exact h1 x x0 (by omega)) (fun z z0 z1 => by
      rw [A_Wo (by omega) z0 (by omega)]; exact h2 z z0 (by omega))
    refine ⟨M2, ?_, p2, p3, p4⟩
    refine s_Model_copy_147 hF hg ?_
    simp (config := { maxSteps := 1000000 }) (disch := (first | omega | decide | assumption)) only [ltm_s, ok_n, rd_i, rd_j, fd_i, fd_j, wr_i, wr_j, fw_i, fw_j, ci_s, cj_s, cv_s, dv_n, dw_n, rt_1, rt_b, rt_20, rt_21, okb_0, okb_1, okb_b, nar_0, nar_1, nar_b, i_0, i_1, j_0, j_1, i_lit, j_lit, i_n, iI_add, iI_sub, iI_mul, iI_neg, jI_add, jI_sub, jI_mul, jI_neg, sh_1, an_1, xo_1, di_p, dj_p, i_64A, i_64, j_32, lq_ge, lq_lt, lq_le, lq_gt, lq_eq, i_lt, i_le, i_eq, j_eq, iI_A, jI_J, iI_b, iI_v, jI_v, ↓reduceIte, ite_true, ite_false, Int.reduceEq, Int.reduceLT, Int.reduceLE, Int.reduceAdd, Int.reduceSub, Int.reduceMul, Int.reduceNeg, not_true_eq_false, not_false_eq_true, q, hab, hs, p1]
theorem m_copy_b (hF : F = am_F T0 g) (hg : GG g) {n a b : Int} (a0 : 0 ≤ a) (b0 : 0 ≤ b) (ha : a + n ≤ 400) (hb : b + n ≤ 400) (hab : ¬ b ≤ a) : ∀ (m k : Nat) (M1 : am_M), (k : Int) + m = n → Ch [261] [] M M1 → (∀ x : Int, n - (k : Int) ≤ x → x < n → A M1 261 (b + x) = A M 261 (a + x)) → (∀ z : Int, 0 ≤ z → ¬ (b + n - (k : Int) ≤ z ∧ z < b + n) → A M1 261 z = A M 261 z) → ∃ M2 : am_M, F 107 147 [.ref 219, .int (iI n), .int (iI a), .int (iI b), .int (iI k)] [] M1 = some (some (.int (iI n)), M2) ∧ Ch [261] [] M M2 ∧ (∀ x : Int, 0 ≤ x → x < n → A M2 261 (b + x) = A M 261 (a + x)) ∧ ∀ z : Int, 0 ≤ z → ¬ (b ≤ z ∧ z < b + n) → A M2 261 z = A M 261 z := by
  intro m
  induction m with
  | zero =>
    intro k M1 hk c h1 h2
    have e : (k : Int) = n := by omega
    rw [e] at h1 h2 ⊢
    have q : n ≤ n := Int.le_refl _
    refine ⟨M1, ?_, c, fun x x0 x1 => h1 x (by omega) x1, fun z z0 z1 => h2 z z0 (by omega)⟩
    refine s_Model_copy_147 hF hg ?_
    simp (config := { maxSteps := 1000000 }) (disch := (first | omega | decide | assumption)) only [ltm_s, ok_n, rd_i, rd_j, fd_i, fd_j, wr_i, wr_j, fw_i, fw_j, ci_s, cj_s, cv_s, dv_n, dw_n, rt_1, rt_b, rt_20, rt_21, okb_0, okb_1, okb_b, nar_0, nar_1, nar_b, i_0, i_1, j_0, j_1, i_lit, j_lit, i_n, iI_add, iI_sub, iI_mul, iI_neg, jI_add, jI_sub, jI_mul, jI_neg, sh_1, an_1, xo_1, di_p, dj_p, i_64A, i_64, j_32, lq_ge, lq_lt, lq_le, lq_gt, lq_eq, i_lt, i_le, i_eq, j_eq, iI_A, jI_J, iI_b, iI_v, jI_v, ↓reduceIte, ite_true, ite_false, Int.reduceEq, Int.reduceLT, Int.reduceLE, Int.reduceAdd, Int.reduceSub, Int.reduceMul, Int.reduceNeg, not_true_eq_false, not_false_eq_true, q]
  | succ m ih =>
    intro k M1 hk c h1 h2
    have q : ¬ n ≤ (k : Int) := by omega
    have hs : (k : Int) + 1 = ((k + 1 : Nat) : Int) := by omega
    have rd := h2 (a + (n - 1 - k)) (by omega) (by omega)
    obtain ⟨M2, p1, p2, p3, p4⟩ := ih (k + 1) (W_ M1 261 (b + (n - 1 - k)) (A M1 261 (a + (n - 1 - k)))) (by omega) (c.wm (Or.inl (by decide))) (fun x x0 x1 => by
      by_cases q2 : x = n - 1 - k
      · rw [q2, A_WA, rd]
      · rw [A_Wo (by omega) (by omega) (by omega)]; exact h1 x (by omega) x1) (fun z z0 z1 => by
      rw [A_Wo (by omega) z0 (by omega)]; exact h2 z z0 (by omega))
    refine ⟨M2, ?_, p2, p3, p4⟩
    refine s_Model_copy_147 hF hg ?_
    simp (config := { maxSteps := 1000000 }) (disch := (first | omega | decide | assumption)) only [ltm_s, ok_n, rd_i, rd_j, fd_i, fd_j, wr_i, wr_j, fw_i, fw_j, ci_s, cj_s, cv_s, dv_n, dw_n, rt_1, rt_b, rt_20, rt_21, okb_0, okb_1, okb_b, nar_0, nar_1, nar_b, i_0, i_1, j_0, j_1, i_lit, j_lit, i_n, iI_add, iI_sub, iI_mul, iI_neg, jI_add, jI_sub, jI_mul, jI_neg, sh_1, an_1, xo_1, di_p, dj_p, i_64A, i_64, j_32, lq_ge, lq_lt, lq_le, lq_gt, lq_eq, i_lt, i_le, i_eq, j_eq, iI_A, jI_J, iI_b, iI_v, jI_v, ↓reduceIte, ite_true, ite_false, Int.reduceEq, Int.reduceLT, Int.reduceLE, Int.reduceAdd, Int.reduceSub, Int.reduceMul, Int.reduceNeg, not_true_eq_false, not_false_eq_true, q, hab, hs, p1]
theorem m_copy (hF : F = am_F T0 g) (hg : GG g) {n a b : Int} (n0 : 0 ≤ n) (a0 : 0 ≤ a) (b0 : 0 ≤ b) (ha : a + n ≤ 400) (hb : b + n ≤ 400) : ∃ M2 : am_M, F 107 147 [.ref 219, .int (iI n), .int (iI a), .int (iI b), .int (iI 0)] [] M = some (some (.int (iI n)), M2) ∧ Ch [261] [] M M2 ∧ (∀ x : Int, 0 ≤ x → x < n → A M2 261 (b + x) = A M 261 (a + x)) ∧ ∀ z : Int, 0 ≤ z → ¬ (b ≤ z ∧ z < b + n) → A M2 261 z = A M 261 z := by
  by_cases hab : b ≤ a
  · exact m_copy_f hF hg a0 b0 ha hb hab n.toNat 0 M (by omega) Ch.refl (fun x x0 x1 => by omega) (fun _ _ _ => rfl)
  · exact m_copy_b hF hg a0 b0 ha hb hab n.toNat 0 M (by omega) Ch.refl (fun x x0 x1 => by omega) (fun _ _ _ => rfl)
theorem b_copy (hF : F = am_F T0 g) (hg : GG g) (hI : Inv M) {s i t j n : Int} (s1 : -2147483648 ≤ s) (s2 : s < 2147483648) (i1 : -2147483648 ≤ i) (i2 : i < 2147483648) (t1 : -2147483648 ≤ t) (t2 : t < 2147483648) (j1 : -2147483648 ≤ j) (j2 : j < 2147483648) (n1 : -2147483648 ≤ n) (n2 : n < 2147483648) :
    ∃ (r : Int) (M1 M2 : am_M), F 201 0 [.ref 0, .int (iI s), .int (iI i), .int (iI t), .int (iI j), .int (iI n)] [] M = some (some (.int (iI r)), M1) ∧ F 107 0 [.ref 219, .int (iI s), .int (iI i), .int (iI t), .int (iI j), .int (iI n)] [] M1 = some (some (.int (iI r)), M2) ∧ Inv M2 := by
  have hI' := hI
  obtain ⟨h1, h2, h3, h4, h5, h6, h7, h8, h9, h10, h11, h12, h13, h14, h15, h16, h17, h18, h19, hm, ht⟩ := hI
  have wrong : ∀ r : Int, F 201 0 [.ref 0, .int (iI s), .int (iI i), .int (iI t), .int (iI j), .int (iI n)] [] M = some (some (.int (iI r)), M) → F 107 0 [.ref 219, .int (iI s), .int (iI i), .int (iI t), .int (iI j), .int (iI n)] [] M = some (some (.int (iI r)), M) → ∃ (r : Int) (M1 M2 : am_M), F 201 0 [.ref 0, .int (iI s), .int (iI i), .int (iI t), .int (iI j), .int (iI n)] [] M = some (some (.int (iI r)), M1) ∧ F 107 0 [.ref 219, .int (iI s), .int (iI i), .int (iI t), .int (iI j), .int (iI n)] [] M1 = some (some (.int (iI r)), M2) ∧ Inv M2 := fun r p q => ⟨r, M, M, p, q, hI'⟩
  have cs := c_noSheet hF hg (M := M) s1 s2
  have ms : ∀ N : am_M, F 53 0 [.int (iI s), .int 0, .int 3] [] N = some (some (.int (iI (bI (0 ≤ s ∧ s ≤ 3)))), N) := fun N => m_inn (l := 0) (h := 3) hF hg s1 s2 (by omega) (by omega) (by omega) (by omega)
  have ct := c_noSheet hF hg (M := M) t1 t2
  have mt : ∀ N : am_M, F 53 0 [.int (iI t), .int 0, .int 3] [] N = some (some (.int (iI (bI (0 ≤ t ∧ t ≤ 3)))), N) := fun N => m_inn (l := 0) (h := 3) hF hg t1 t2 (by omega) (by omega) (by omega) (by omega)
  by_cases q1 : s < 0 ∨ 3 < s
  · rw [bI_t q1] at cs
    rw [bI_f (by omega)] at ms
    refine wrong (-2) ?_ ?_
    · refine s_RunSayer_copy hF hg ?_
      refine ci_in cs ?_
      rfl
    · refine s_Model_copy hF hg ?_
      refine ci_in (ms M) ?_
      rfl
  rw [bI_f q1] at cs
  rw [bI_t (by omega)] at ms
  by_cases q2 : t < 0 ∨ 3 < t
  · rw [bI_t q2] at ct
    rw [bI_f (by omega)] at mt
    refine wrong (-2) ?_ ?_
    · refine s_RunSayer_copy hF hg ?_
      refine ci_in (cs) ?_
      rw [if_pos (show iI 0 = 0 from rfl)]
      refine ci_in ct ?_
      rfl
    · refine s_Model_copy hF hg ?_
      refine ci_in (ms M) ?_
      rw [if_neg (show ¬ iI 1 = 0 by decide)]
      refine ci_in (mt M) ?_
      rfl
  rw [bI_f q2] at ct
  rw [bI_t (by omega)] at mt
  have hns : (iI s).toNatClampNeg = s.toNat := iI_n (by omega) (by omega)
  have hnt : (iI t).toNatClampNeg = t.toNat := iI_n (by omega) (by omega)
  have ks := sh_ok hg (s := s) (by omega) (by omega)
  have kt := sh_ok hg (s := t) (by omega) (by omega)
  obtain ⟨b1, b2, b3, b4, b5⟩ := h18 s (by omega) (by omega)
  obtain ⟨d1, d2, d3, d4, d5⟩ := h18 t (by omega) (by omega)
  by_cases q3 : A M 259 s = -1
  · refine wrong (-11) ?_ ?_
    · refine s_RunSayer_copy hF hg ?_
      refine ci_in (cs) ?_
      rw [if_pos (show iI 0 = 0 from rfl)]
      refine ci_in (ct) ?_
      rw [if_pos (show iI 0 = 0 from rfl)]
      simp (config := { maxSteps := 1000000 }) (disch := (first | omega | decide | assumption)) only [ltm_s, ok_n, rd_i, rd_j, fd_i, fd_j, wr_i, wr_j, fw_i, fw_j, ci_s, cj_s, cv_s, dv_n, dw_n, rt_1, rt_b, rt_20, rt_21, okb_0, okb_1, okb_b, nar_0, nar_1, nar_b, i_0, i_1, j_0, j_1, i_lit, j_lit, i_n, iI_add, iI_sub, iI_mul, iI_neg, jI_add, jI_sub, jI_mul, jI_neg, sh_1, an_1, xo_1, di_p, dj_p, i_64A, i_64, j_32, lq_ge, lq_lt, lq_le, lq_gt, lq_eq, i_lt, i_le, i_eq, j_eq, iI_A, jI_J, iI_b, iI_v, jI_v, ↓reduceIte, ite_true, ite_false, Int.reduceEq, Int.reduceLT, Int.reduceLE, Int.reduceAdd, Int.reduceSub, Int.reduceMul, Int.reduceNeg, not_true_eq_false, not_false_eq_true, iI_n, rdn_i, rdn_j, wrn_i, wrn_j, b3, eq_true q3]
    · refine s_Model_copy hF hg ?_
      refine ci_in (ms M) ?_
      rw [if_neg (show ¬ iI 1 = 0 by decide)]
      refine ci_in (mt M) ?_
      rw [if_neg (show ¬ iI 1 = 0 by decide)]
      simp (config := { maxSteps := 1000000 }) (disch := (first | omega | decide | assumption)) only [ltm_s, ok_n, rd_i, rd_j, fd_i, fd_j, wr_i, wr_j, fw_i, fw_j, ci_s, cj_s, cv_s, dv_n, dw_n, rt_1, rt_b, rt_20, rt_21, okb_0, okb_1, okb_b, nar_0, nar_1, nar_b, i_0, i_1, j_0, j_1, i_lit, j_lit, i_n, iI_add, iI_sub, iI_mul, iI_neg, jI_add, jI_sub, jI_mul, jI_neg, sh_1, an_1, xo_1, di_p, dj_p, i_64A, i_64, j_32, lq_ge, lq_lt, lq_le, lq_gt, lq_eq, i_lt, i_le, i_eq, j_eq, iI_A, jI_J, iI_b, iI_v, jI_v, ↓reduceIte, ite_true, ite_false, Int.reduceEq, Int.reduceLT, Int.reduceLE, Int.reduceAdd, Int.reduceSub, Int.reduceMul, Int.reduceNeg, not_true_eq_false, not_false_eq_true, eq_true q3]
  by_cases q4 : A M 259 t = -1
  · refine wrong (-11) ?_ ?_
    · refine s_RunSayer_copy hF hg ?_
      refine ci_in (cs) ?_
      rw [if_pos (show iI 0 = 0 from rfl)]
      refine ci_in (ct) ?_
      rw [if_pos (show iI 0 = 0 from rfl)]
      simp (config := { maxSteps := 1000000 }) (disch := (first | omega | decide | assumption)) only [ltm_s, ok_n, rd_i, rd_j, fd_i, fd_j, wr_i, wr_j, fw_i, fw_j, ci_s, cj_s, cv_s, dv_n, dw_n, rt_1, rt_b, rt_20, rt_21, okb_0, okb_1, okb_b, nar_0, nar_1, nar_b, i_0, i_1, j_0, j_1, i_lit, j_lit, i_n, iI_add, iI_sub, iI_mul, iI_neg, jI_add, jI_sub, jI_mul, jI_neg, sh_1, an_1, xo_1, di_p, dj_p, i_64A, i_64, j_32, lq_ge, lq_lt, lq_le, lq_gt, lq_eq, i_lt, i_le, i_eq, j_eq, iI_A, jI_J, iI_b, iI_v, jI_v, ↓reduceIte, ite_true, ite_false, Int.reduceEq, Int.reduceLT, Int.reduceLE, Int.reduceAdd, Int.reduceSub, Int.reduceMul, Int.reduceNeg, not_true_eq_false, not_false_eq_true, iI_n, rdn_i, rdn_j, wrn_i, wrn_j, b3, d3, q3, eq_true q4]
    · refine s_Model_copy hF hg ?_
      refine ci_in (ms M) ?_
      rw [if_neg (show ¬ iI 1 = 0 by decide)]
      refine ci_in (mt M) ?_
      rw [if_neg (show ¬ iI 1 = 0 by decide)]
      simp (config := { maxSteps := 1000000 }) (disch := (first | omega | decide | assumption)) only [ltm_s, ok_n, rd_i, rd_j, fd_i, fd_j, wr_i, wr_j, fw_i, fw_j, ci_s, cj_s, cv_s, dv_n, dw_n, rt_1, rt_b, rt_20, rt_21, okb_0, okb_1, okb_b, nar_0, nar_1, nar_b, i_0, i_1, j_0, j_1, i_lit, j_lit, i_n, iI_add, iI_sub, iI_mul, iI_neg, jI_add, jI_sub, jI_mul, jI_neg, sh_1, an_1, xo_1, di_p, dj_p, i_64A, i_64, j_32, lq_ge, lq_lt, lq_le, lq_gt, lq_eq, i_lt, i_le, i_eq, j_eq, iI_A, jI_J, iI_b, iI_v, jI_v, ↓reduceIte, ite_true, ite_false, Int.reduceEq, Int.reduceLT, Int.reduceLE, Int.reduceAdd, Int.reduceSub, Int.reduceMul, Int.reduceNeg, not_true_eq_false, not_false_eq_true, q3, eq_true q4]
  by_cases q5 : A M 259 s = A M 259 t
  · have hr := c_hasRow hF hg ks (M := M) b4 b2.1 b2.2 i1 i2 n1 n2
    have hq := c_hasRow hF hg kt (M := M) d4 d2.1 d2.2 j1 j2 n1 n2
    have bad : ¬ ((0 ≤ i ∧ 0 ≤ n ∧ n ≤ A M 260 s ∧ i ≤ A M 260 s - n) ∧ (0 ≤ j ∧ 0 ≤ n ∧ n ≤ A M 260 t ∧ j ≤ A M 260 t - n)) → F 107 0 [.ref 219, .int (iI s), .int (iI i), .int (iI t), .int (iI j), .int (iI n)] [] M = some (some (.int (iI (-12))), M) := fun hb => by
      refine s_Model_copy hF hg ?_
      refine ci_in (ms M) ?_
      rw [if_neg (show ¬ iI 1 = 0 by decide)]
      refine ci_in (mt M) ?_
      rw [if_neg (show ¬ iI 1 = 0 by decide)]
      by_cases p1 : n < 0
      · simp (config := { maxSteps := 1000000 }) (disch := (first | omega | decide | assumption)) only [ltm_s, ok_n, rd_i, rd_j, fd_i, fd_j, wr_i, wr_j, fw_i, fw_j, ci_s, cj_s, cv_s, dv_n, dw_n, rt_1, rt_b, rt_20, rt_21, okb_0, okb_1, okb_b, nar_0, nar_1, nar_b, i_0, i_1, j_0, j_1, i_lit, j_lit, i_n, iI_add, iI_sub, iI_mul, iI_neg, jI_add, jI_sub, jI_mul, jI_neg, sh_1, an_1, xo_1, di_p, dj_p, i_64A, i_64, j_32, lq_ge, lq_lt, lq_le, lq_gt, lq_eq, i_lt, i_le, i_eq, j_eq, iI_A, jI_J, iI_b, iI_v, jI_v, ↓reduceIte, ite_true, ite_false, Int.reduceEq, Int.reduceLT, Int.reduceLE, Int.reduceAdd, Int.reduceSub, Int.reduceMul, Int.reduceNeg, not_true_eq_false, not_false_eq_true, q3, q4, eq_true q5, p1]
      by_cases p2 : i < 0
      · simp (config := { maxSteps := 1000000 }) (disch := (first | omega | decide | assumption)) only [ltm_s, ok_n, rd_i, rd_j, fd_i, fd_j, wr_i, wr_j, fw_i, fw_j, ci_s, cj_s, cv_s, dv_n, dw_n, rt_1, rt_b, rt_20, rt_21, okb_0, okb_1, okb_b, nar_0, nar_1, nar_b, i_0, i_1, j_0, j_1, i_lit, j_lit, i_n, iI_add, iI_sub, iI_mul, iI_neg, jI_add, jI_sub, jI_mul, jI_neg, sh_1, an_1, xo_1, di_p, dj_p, i_64A, i_64, j_32, lq_ge, lq_lt, lq_le, lq_gt, lq_eq, i_lt, i_le, i_eq, j_eq, iI_A, jI_J, iI_b, iI_v, jI_v, ↓reduceIte, ite_true, ite_false, Int.reduceEq, Int.reduceLT, Int.reduceLE, Int.reduceAdd, Int.reduceSub, Int.reduceMul, Int.reduceNeg, not_true_eq_false, not_false_eq_true, q3, q4, eq_true q5, p1, p2]
      by_cases p3 : j < 0
      · simp (config := { maxSteps := 1000000 }) (disch := (first | omega | decide | assumption)) only [ltm_s, ok_n, rd_i, rd_j, fd_i, fd_j, wr_i, wr_j, fw_i, fw_j, ci_s, cj_s, cv_s, dv_n, dw_n, rt_1, rt_b, rt_20, rt_21, okb_0, okb_1, okb_b, nar_0, nar_1, nar_b, i_0, i_1, j_0, j_1, i_lit, j_lit, i_n, iI_add, iI_sub, iI_mul, iI_neg, jI_add, jI_sub, jI_mul, jI_neg, sh_1, an_1, xo_1, di_p, dj_p, i_64A, i_64, j_32, lq_ge, lq_lt, lq_le, lq_gt, lq_eq, i_lt, i_le, i_eq, j_eq, iI_A, jI_J, iI_b, iI_v, jI_v, ↓reduceIte, ite_true, ite_false, Int.reduceEq, Int.reduceLT, Int.reduceLE, Int.reduceAdd, Int.reduceSub, Int.reduceMul, Int.reduceNeg, not_true_eq_false, not_false_eq_true, q3, q4, eq_true q5, p1, p2, p3]
      by_cases p4 : A M 260 s < i
      · simp (config := { maxSteps := 1000000 }) (disch := (first | omega | decide | assumption)) only [ltm_s, ok_n, rd_i, rd_j, fd_i, fd_j, wr_i, wr_j, fw_i, fw_j, ci_s, cj_s, cv_s, dv_n, dw_n, rt_1, rt_b, rt_20, rt_21, okb_0, okb_1, okb_b, nar_0, nar_1, nar_b, i_0, i_1, j_0, j_1, i_lit, j_lit, i_n, iI_add, iI_sub, iI_mul, iI_neg, jI_add, jI_sub, jI_mul, jI_neg, sh_1, an_1, xo_1, di_p, dj_p, i_64A, i_64, j_32, lq_ge, lq_lt, lq_le, lq_gt, lq_eq, i_lt, i_le, i_eq, j_eq, iI_A, jI_J, iI_b, iI_v, jI_v, ↓reduceIte, ite_true, ite_false, Int.reduceEq, Int.reduceLT, Int.reduceLE, Int.reduceAdd, Int.reduceSub, Int.reduceMul, Int.reduceNeg, not_true_eq_false, not_false_eq_true, q3, q4, eq_true q5, p1, p2, p3, p4]
      by_cases p5 : A M 260 t < j
      · simp (config := { maxSteps := 1000000 }) (disch := (first | omega | decide | assumption)) only [ltm_s, ok_n, rd_i, rd_j, fd_i, fd_j, wr_i, wr_j, fw_i, fw_j, ci_s, cj_s, cv_s, dv_n, dw_n, rt_1, rt_b, rt_20, rt_21, okb_0, okb_1, okb_b, nar_0, nar_1, nar_b, i_0, i_1, j_0, j_1, i_lit, j_lit, i_n, iI_add, iI_sub, iI_mul, iI_neg, jI_add, jI_sub, jI_mul, jI_neg, sh_1, an_1, xo_1, di_p, dj_p, i_64A, i_64, j_32, lq_ge, lq_lt, lq_le, lq_gt, lq_eq, i_lt, i_le, i_eq, j_eq, iI_A, jI_J, iI_b, iI_v, jI_v, ↓reduceIte, ite_true, ite_false, Int.reduceEq, Int.reduceLT, Int.reduceLE, Int.reduceAdd, Int.reduceSub, Int.reduceMul, Int.reduceNeg, not_true_eq_false, not_false_eq_true, q3, q4, eq_true q5, p1, p2, p3, p4, p5]
      by_cases p6 : A M 260 s - i < n
      · simp (config := { maxSteps := 1000000 }) (disch := (first | omega | decide | assumption)) only [ltm_s, ok_n, rd_i, rd_j, fd_i, fd_j, wr_i, wr_j, fw_i, fw_j, ci_s, cj_s, cv_s, dv_n, dw_n, rt_1, rt_b, rt_20, rt_21, okb_0, okb_1, okb_b, nar_0, nar_1, nar_b, i_0, i_1, j_0, j_1, i_lit, j_lit, i_n, iI_add, iI_sub, iI_mul, iI_neg, jI_add, jI_sub, jI_mul, jI_neg, sh_1, an_1, xo_1, di_p, dj_p, i_64A, i_64, j_32, lq_ge, lq_lt, lq_le, lq_gt, lq_eq, i_lt, i_le, i_eq, j_eq, iI_A, jI_J, iI_b, iI_v, jI_v, ↓reduceIte, ite_true, ite_false, Int.reduceEq, Int.reduceLT, Int.reduceLE, Int.reduceAdd, Int.reduceSub, Int.reduceMul, Int.reduceNeg, not_true_eq_false, not_false_eq_true, q3, q4, eq_true q5, p1, p2, p3, p4, p5, p6]
      have p7 : ¬ n ≤ A M 260 t - j := by omega
      simp (config := { maxSteps := 1000000 }) (disch := (first | omega | decide | assumption)) only [ltm_s, ok_n, rd_i, rd_j, fd_i, fd_j, wr_i, wr_j, fw_i, fw_j, ci_s, cj_s, cv_s, dv_n, dw_n, rt_1, rt_b, rt_20, rt_21, okb_0, okb_1, okb_b, nar_0, nar_1, nar_b, i_0, i_1, j_0, j_1, i_lit, j_lit, i_n, iI_add, iI_sub, iI_mul, iI_neg, jI_add, jI_sub, jI_mul, jI_neg, sh_1, an_1, xo_1, di_p, dj_p, i_64A, i_64, j_32, lq_ge, lq_lt, lq_le, lq_gt, lq_eq, i_lt, i_le, i_eq, j_eq, iI_A, jI_J, iI_b, iI_v, jI_v, ↓reduceIte, ite_true, ite_false, Int.reduceEq, Int.reduceLT, Int.reduceLE, Int.reduceAdd, Int.reduceSub, Int.reduceMul, Int.reduceNeg, not_true_eq_false, not_false_eq_true, q3, q4, eq_true q5, p1, p2, p3, p4, p5, p6, p7]
    by_cases r1 : 0 ≤ i ∧ 0 ≤ n ∧ n ≤ A M 260 s ∧ i ≤ A M 260 s - n
    · rw [bI_t r1] at hr
      by_cases r2 : 0 ≤ j ∧ 0 ≤ n ∧ n ≤ A M 260 t ∧ j ≤ A M 260 t - n
      · rw [bI_t r2] at hq
        obtain ⟨M1, w1⟩ : ∃ y : am_M, y = cpM M (210 + 2 * s.toNat + 1) i (210 + 2 * t.toNat + 1) j n := ⟨_, rfl⟩
        have c1 : Ch [210 + 2 * t.toNat + 1] [] M M1 := by rw [w1]; exact cp_ch
        have f1 : ∀ a : Nat, ¬ a = 210 + 2 * t.toNat + 1 → ∀ z, A M1 a z = A M a z := fun a h1 z => congrArg Int32.toInt (c1 a z.toNat (by rw [List.mem_singleton]; exact h1) (by simp only [List.not_mem_nil, not_false_eq_true])).1
        obtain ⟨M2, m1, m2, m3, m4⟩ := m_copy hF hg (M := M1) (n := n) (a := 100 * s + i) (b := 100 * t + j) (by omega) (by omega) (by omega) (by omega) (by omega)
        have f2 : ∀ a : Nat, ¬ a = 261 → ∀ z, A M2 a z = A M1 a z := fun a h1 z => congrArg Int32.toInt (m2 a z.toNat (by rw [List.mem_singleton]; exact h1) (by simp only [List.not_mem_nil, not_false_eq_true])).1
        have c : Ch [210, 211, 212, 213, 214, 215, 216, 217, 259, 260, 261] [] M M2 := (c1.sub (fun a ha => by rw [List.mem_singleton] at ha; exact sh_mem (s := t) (by omega) (by omega) a (by rw [ha]; simp only [List.mem_cons, true_or, or_true]))).trans (m2.sub (fun a ha => by rw [List.mem_singleton.mp ha]; decide))
        refine ⟨n, M1, M2, ?_, ?_, sh_inv hI' c ?_⟩
        · refine s_RunSayer_copy hF hg ?_
          refine ci_in (cs) ?_
          rw [if_pos (show iI 0 = 0 from rfl)]
          refine ci_in (ct) ?_
          rw [if_pos (show iI 0 = 0 from rfl)]
          simp (config := { maxSteps := 1000000 }) (disch := (first | omega | decide | assumption)) only [ltm_s, ok_n, rd_i, rd_j, fd_i, fd_j, wr_i, wr_j, fw_i, fw_j, ci_s, cj_s, cv_s, dv_n, dw_n, rt_1, rt_b, rt_20, rt_21, okb_0, okb_1, okb_b, nar_0, nar_1, nar_b, i_0, i_1, j_0, j_1, i_lit, j_lit, i_n, iI_add, iI_sub, iI_mul, iI_neg, jI_add, jI_sub, jI_mul, jI_neg, sh_1, an_1, xo_1, di_p, dj_p, i_64A, i_64, j_32, lq_ge, lq_lt, lq_le, lq_gt, lq_eq, i_lt, i_le, i_eq, j_eq, iI_A, jI_J, iI_b, iI_v, jI_v, ↓reduceIte, ite_true, ite_false, Int.reduceEq, Int.reduceLT, Int.reduceLE, Int.reduceAdd, Int.reduceSub, Int.reduceMul, Int.reduceNeg, not_true_eq_false, not_false_eq_true, iI_n, rdn_i, rdn_j, wrn_i, wrn_j, b3, d3, q3, q4, eq_true q5, hr, hq]
          rw [cp_s ks.2.2 kt.2.2 (by omega) (by omega) (by omega) (by omega) (by omega) (by omega) (by omega) (by omega), w1]
        · have e0 : ∀ z, A M1 259 z = A M 259 z := f1 259 (by omega)
          have e1 : ∀ z, A M1 260 z = A M 260 z := f1 260 (by omega)
          refine s_Model_copy hF hg ?_
          refine ci_in (ms M1) ?_
          rw [if_neg (show ¬ iI 1 = 0 by decide)]
          refine ci_in (mt M1) ?_
          rw [if_neg (show ¬ iI 1 = 0 by decide)]
          have p1 : ¬ n < 0 := by omega
          have p2 : ¬ i < 0 := by omega
          have p3 : ¬ j < 0 := by omega
          have p4 : ¬ A M 260 s < i := by omega
          have p5 : ¬ A M 260 t < j := by omega
          have p6 : ¬ A M 260 s - i < n := by omega
          have p7 : n ≤ A M 260 t - j := by omega
          simp (config := { maxSteps := 1000000 }) (disch := (first | omega | decide | assumption)) only [ltm_s, ok_n, rd_i, rd_j, fd_i, fd_j, wr_i, wr_j, fw_i, fw_j, ci_s, cj_s, cv_s, dv_n, dw_n, rt_1, rt_b, rt_20, rt_21, okb_0, okb_1, okb_b, nar_0, nar_1, nar_b, i_0, i_1, j_0, j_1, i_lit, j_lit, i_n, iI_add, iI_sub, iI_mul, iI_neg, jI_add, jI_sub, jI_mul, jI_neg, sh_1, an_1, xo_1, di_p, dj_p, i_64A, i_64, j_32, lq_ge, lq_lt, lq_le, lq_gt, lq_eq, i_lt, i_le, i_eq, j_eq, iI_A, jI_J, iI_b, iI_v, jI_v, ↓reduceIte, ite_true, ite_false, Int.reduceEq, Int.reduceLT, Int.reduceLE, Int.reduceAdd, Int.reduceSub, Int.reduceMul, Int.reduceNeg, not_true_eq_false, not_false_eq_true, e0, e1, q3, q4, eq_true q5, p1, p2, p3, p4, p5, p6, p7, m1]
        · refine I18_up h18 (s := t) (by omega) (by omega) ?_ (fun a a0 a1 a2 a3 z => by rw [f2 a (by omega), f1 a a3]) (fun x _ _ => by rw [f2 259 (by omega), f1 259 (by omega)]) (fun x _ _ => by rw [f2 260 (by omega), f1 260 (by omega)]) (fun x x0 x1 => by rw [m4 x x0 (by omega), f1 261 (by omega)])
          refine ⟨by rw [f2 259 (by omega), f1 259 (by omega)]; exact d1, by rw [f2 260 (by omega), f1 260 (by omega)]; exact d2, by rw [f2 _ (by omega), f1 _ (by omega), f2 259 (by omega), f1 259 (by omega)]; exact d3, by rw [f2 _ (by omega), f1 _ (by omega), f2 260 (by omega), f1 260 (by omega)]; exact d4, fun x x0 x1 => ?_⟩
          rw [f2 _ (by omega)]
          by_cases q : j ≤ x ∧ x < j + n
          · have hm := m3 (x - j) (by omega) (by omega)
            rw [show 100 * t + j + (x - j) = 100 * t + x by omega, f1 261 (by omega)] at hm
            rw [hm, w1, cp_in (by omega) (by omega) q.1 q.2, b5 (i + (x - j)) (by omega) (by omega), show 100 * s + i + (x - j) = 100 * s + (i + (x - j)) by omega]
          · rw [m4 (100 * t + x) (by omega) (by omega), f1 261 (by omega), w1, cp_out (by omega) (by omega) x0 q]
            exact d5 x x0 x1
      · rw [bI_f r2] at hq
        refine wrong (-12) ?_ (bad (fun h => r2 h.2))
        refine s_RunSayer_copy hF hg ?_
        refine ci_in (cs) ?_
        rw [if_pos (show iI 0 = 0 from rfl)]
        refine ci_in (ct) ?_
        rw [if_pos (show iI 0 = 0 from rfl)]
        simp (config := { maxSteps := 1000000 }) (disch := (first | omega | decide | assumption)) only [ltm_s, ok_n, rd_i, rd_j, fd_i, fd_j, wr_i, wr_j, fw_i, fw_j, ci_s, cj_s, cv_s, dv_n, dw_n, rt_1, rt_b, rt_20, rt_21, okb_0, okb_1, okb_b, nar_0, nar_1, nar_b, i_0, i_1, j_0, j_1, i_lit, j_lit, i_n, iI_add, iI_sub, iI_mul, iI_neg, jI_add, jI_sub, jI_mul, jI_neg, sh_1, an_1, xo_1, di_p, dj_p, i_64A, i_64, j_32, lq_ge, lq_lt, lq_le, lq_gt, lq_eq, i_lt, i_le, i_eq, j_eq, iI_A, jI_J, iI_b, iI_v, jI_v, ↓reduceIte, ite_true, ite_false, Int.reduceEq, Int.reduceLT, Int.reduceLE, Int.reduceAdd, Int.reduceSub, Int.reduceMul, Int.reduceNeg, not_true_eq_false, not_false_eq_true, iI_n, rdn_i, rdn_j, wrn_i, wrn_j, b3, d3, q3, q4, eq_true q5, hr, hq]
    · rw [bI_f r1] at hr
      refine wrong (-12) ?_ (bad (fun h => r1 h.1))
      refine s_RunSayer_copy hF hg ?_
      refine ci_in (cs) ?_
      rw [if_pos (show iI 0 = 0 from rfl)]
      refine ci_in (ct) ?_
      rw [if_pos (show iI 0 = 0 from rfl)]
      simp (config := { maxSteps := 1000000 }) (disch := (first | omega | decide | assumption)) only [ltm_s, ok_n, rd_i, rd_j, fd_i, fd_j, wr_i, wr_j, fw_i, fw_j, ci_s, cj_s, cv_s, dv_n, dw_n, rt_1, rt_b, rt_20, rt_21, okb_0, okb_1, okb_b, nar_0, nar_1, nar_b, i_0, i_1, j_0, j_1, i_lit, j_lit, i_n, iI_add, iI_sub, iI_mul, iI_neg, jI_add, jI_sub, jI_mul, jI_neg, sh_1, an_1, xo_1, di_p, dj_p, i_64A, i_64, j_32, lq_ge, lq_lt, lq_le, lq_gt, lq_eq, i_lt, i_le, i_eq, j_eq, iI_A, jI_J, iI_b, iI_v, jI_v, ↓reduceIte, ite_true, ite_false, Int.reduceEq, Int.reduceLT, Int.reduceLE, Int.reduceAdd, Int.reduceSub, Int.reduceMul, Int.reduceNeg, not_true_eq_false, not_false_eq_true, iI_n, rdn_i, rdn_j, wrn_i, wrn_j, b3, d3, q3, q4, eq_true q5, hr]
  · refine wrong (-13) ?_ ?_
    · refine s_RunSayer_copy hF hg ?_
      refine ci_in (cs) ?_
      rw [if_pos (show iI 0 = 0 from rfl)]
      refine ci_in (ct) ?_
      rw [if_pos (show iI 0 = 0 from rfl)]
      simp (config := { maxSteps := 1000000 }) (disch := (first | omega | decide | assumption)) only [ltm_s, ok_n, rd_i, rd_j, fd_i, fd_j, wr_i, wr_j, fw_i, fw_j, ci_s, cj_s, cv_s, dv_n, dw_n, rt_1, rt_b, rt_20, rt_21, okb_0, okb_1, okb_b, nar_0, nar_1, nar_b, i_0, i_1, j_0, j_1, i_lit, j_lit, i_n, iI_add, iI_sub, iI_mul, iI_neg, jI_add, jI_sub, jI_mul, jI_neg, sh_1, an_1, xo_1, di_p, dj_p, i_64A, i_64, j_32, lq_ge, lq_lt, lq_le, lq_gt, lq_eq, i_lt, i_le, i_eq, j_eq, iI_A, jI_J, iI_b, iI_v, jI_v, ↓reduceIte, ite_true, ite_false, Int.reduceEq, Int.reduceLT, Int.reduceLE, Int.reduceAdd, Int.reduceSub, Int.reduceMul, Int.reduceNeg, not_true_eq_false, not_false_eq_true, iI_n, rdn_i, rdn_j, wrn_i, wrn_j, b3, d3, q3, q4, q5]
    · refine s_Model_copy hF hg ?_
      refine ci_in (ms M) ?_
      rw [if_neg (show ¬ iI 1 = 0 by decide)]
      refine ci_in (mt M) ?_
      rw [if_neg (show ¬ iI 1 = 0 by decide)]
      simp (config := { maxSteps := 1000000 }) (disch := (first | omega | decide | assumption)) only [ltm_s, ok_n, rd_i, rd_j, fd_i, fd_j, wr_i, wr_j, fw_i, fw_j, ci_s, cj_s, cv_s, dv_n, dw_n, rt_1, rt_b, rt_20, rt_21, okb_0, okb_1, okb_b, nar_0, nar_1, nar_b, i_0, i_1, j_0, j_1, i_lit, j_lit, i_n, iI_add, iI_sub, iI_mul, iI_neg, jI_add, jI_sub, jI_mul, jI_neg, sh_1, an_1, xo_1, di_p, dj_p, i_64A, i_64, j_32, lq_ge, lq_lt, lq_le, lq_gt, lq_eq, i_lt, i_le, i_eq, j_eq, iI_A, jI_J, iI_b, iI_v, jI_v, ↓reduceIte, ite_true, ite_false, Int.reduceEq, Int.reduceLT, Int.reduceLE, Int.reduceAdd, Int.reduceSub, Int.reduceMul, Int.reduceNeg, not_true_eq_false, not_false_eq_true, q3, q4, q5]
end Cp
