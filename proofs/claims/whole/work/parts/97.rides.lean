/-! RIDES: each side by itself -/
/-- once more, but not more than six times -/
def up6 (x : Int) : Int := if 6 ≤ x then x else x + 1
/-- the number t is one of the run's links -/
def inR (M : am_M) (r t : Int) : Prop := ∃ i : Int, 0 ≤ i ∧ i < A M 247 r - 1 ∧ lkn M r i = t
section Rd_
variable {M0 M M' : am_M} {g : am_G} {F : am_FT}
theorem c_rideLink (hF : F = am_F T0 g) (hg : GG g) {a : Nat} (ha : isPu g a) {l day : Int} (l0 : 0 ≤ l) (l1 : l < 200) (ht : 0 ≤ A M (a + 1) l ∧ A M (a + 1) l ≤ 6) : F 143 0 [.ref a, .int (iI l), .int (iI day)] [] M = some (none, W_ (W_ M (a + 1) l (up6 (A M (a + 1) l))) (a + 2) l day) := by
  have hm := c_minI hF hg (M := M) (v := A M (a + 1) l + 1) (w := 6) (by omega) (by omega) (by omega) (by omega)
  have e : (if 6 < A M (a + 1) l + 1 then 6 else A M (a + 1) l + 1) = up6 (A M (a + 1) l) := by
    unfold up6
    split <;> split <;> omega
  rw [e] at hm
  refine s_Pupil_rideLink hF hg ha ?_
  simp (config := { maxSteps := 1000000 }) (disch := (first | omega | decide | assumption)) only [ltm_s, ok_n, rd_i, rd_j, fd_i, fd_j, wr_i, wr_j, fw_i, fw_j, ci_s, cj_s, cv_s, dv_n, dw_n, rt_1, rt_b, rt_20, rt_21, okb_0, okb_1, okb_b, nar_0, nar_1, nar_b, i_0, i_1, j_0, j_1, i_lit, j_lit, i_n, iI_add, iI_sub, iI_mul, iI_neg, jI_add, jI_sub, jI_mul, jI_neg, sh_1, an_1, xo_1, di_p, dj_p, i_64A, i_64, j_32, lq_ge, lq_lt, lq_le, lq_gt, lq_eq, i_lt, i_le, i_eq, j_eq, iI_A, jI_J, iI_b, iI_v, jI_v, ↓reduceIte, ite_true, ite_false, Int.reduceEq, Int.reduceLT, Int.reduceLE, Int.reduceAdd, Int.reduceSub, Int.reduceMul, Int.reduceNeg, not_true_eq_false, not_false_eq_true, hm]
theorem c_rideRun_l (hF : F = am_F T0 g) (hg : GG g) {a : Nat} (ha : isPu g a) (hna : 72 ≤ a ∧ a < 90) {r day n : Int} (r0 : 0 ≤ r) (r1 : r < 10) (n0 : 0 ≤ n ∧ n ≤ 20) {o : Int → Int} (ho : ∀ i : Int, 0 ≤ i → i < n → 0 ≤ o i ∧ o i < 200) (hi : ∀ i j : Int, 0 ≤ i → i < j → j < n → ¬ o i = o j) : ∀ (m k : Nat) (M : am_M), (k : Int) + m = n → A M 57 r = n → (∀ i : Int, 0 ≤ i → i < n → A M (47 + 1 * r.toNat) i = o i) → (∀ i : Int, (k : Int) ≤ i → i < n → 0 ≤ A M (a + 1) (o i) ∧ A M (a + 1) (o i) ≤ 6) →
    ∃ M' : am_M, F 176 3 [.ref 42, .ref a, .int (iI r), .int (iI day), .int (iI k)] [] M = some (none, M') ∧ Ch [a + 1, a + 2] [] M M' ∧ (∀ i : Int, (k : Int) ≤ i → i < n → A M' (a + 1) (o i) = up6 (A M (a + 1) (o i)) ∧ A M' (a + 2) (o i) = (iI day).toInt) ∧ ∀ z : Int, 0 ≤ z → (∀ i : Int, (k : Int) ≤ i → i < n → ¬ o i = z) → A M' (a + 1) z = A M (a + 1) z ∧ A M' (a + 2) z = A M (a + 2) z := by
  intro m
  induction m with
  | zero =>
    intro k M hk h57 h47 ht
    have q : n ≤ (k : Int) := by omega
    refine ⟨M, ?_, Ch.refl, fun i i0 i1 => by omega, fun _ _ _ => ⟨rfl, rfl⟩⟩
    refine s_Links_rideRun_3 hF hg ha ?_
    simp (config := { maxSteps := 1000000 }) (disch := (first | omega | decide | assumption)) only [ltm_s, ok_n, rd_i, rd_j, fd_i, fd_j, wr_i, wr_j, fw_i, fw_j, ci_s, cj_s, cv_s, dv_n, dw_n, rt_1, rt_b, rt_20, rt_21, okb_0, okb_1, okb_b, nar_0, nar_1, nar_b, i_0, i_1, j_0, j_1, i_lit, j_lit, i_n, iI_add, iI_sub, iI_mul, iI_neg, jI_add, jI_sub, jI_mul, jI_neg, sh_1, an_1, xo_1, di_p, dj_p, i_64A, i_64, j_32, lq_ge, lq_lt, lq_le, lq_gt, lq_eq, i_lt, i_le, i_eq, j_eq, iI_A, jI_J, iI_b, iI_v, jI_v, ↓reduceIte, ite_true, ite_false, Int.reduceEq, Int.reduceLT, Int.reduceLE, Int.reduceAdd, Int.reduceSub, Int.reduceMul, Int.reduceNeg, not_true_eq_false, not_false_eq_true, h57, q]
  | succ m ih =>
    intro k M hk h57 h47 ht
    have q : ¬ n ≤ (k : Int) := by omega
    have hs : (k : Int) + 1 = ((k + 1 : Nat) : Int) := by omega
    have hk47 := h47 k (by omega) (by omega)
    have hok := ho k (by omega) (by omega)
    have hr := c_rideLink hF hg ha (M := M) (day := day) hok.1 hok.2 (ht k (by omega) (by omega))
    obtain ⟨M', p1, p2, p3, p4⟩ := ih (k + 1) (W_ (W_ M (a + 1) (o k) (up6 (A M (a + 1) (o k)))) (a + 2) (o k) day) (by omega) (by rw [A_Wn (by omega), A_Wn (by omega)]; exact h57) (fun i i0 i1 => by rw [A_Wn (by omega), A_Wn (by omega)]; exact h47 i i0 i1) (fun i i0 i1 => by
      have hne := hi k i (by omega) (by omega) i1
      have hoi := ho i (by omega) i1
      rw [A_Wn (by omega), A_Wo hok.1 hoi.1 (fun h => hne h.symm)]
      exact ht i (by omega) i1)
    have hup : -2147483648 ≤ up6 (A M (a + 1) (o k)) ∧ up6 (A M (a + 1) (o k)) < 2147483648 := by
      have := ht k (by omega) (by omega)
      unfold up6
      split <;> omega
    refine ⟨M', ?_, ((Ch.refl.wm (Or.inl (by simp only [List.mem_cons, true_or, or_true]))).wm (Or.inl (by simp only [List.mem_cons, true_or, or_true]))).trans p2, fun i i0 i1 => ?_, fun z z0 hz => ?_⟩
    · refine s_Links_rideRun_3 hF hg ha ?_
      have hnr : (iI r).toNatClampNeg = r.toNat := iI_n (by omega) (by omega)
      simp (config := { maxSteps := 1000000 }) (disch := (first | omega | decide | assumption)) only [ltm_s, ok_n, rd_i, rd_j, fd_i, fd_j, wr_i, wr_j, fw_i, fw_j, ci_s, cj_s, cv_s, dv_n, dw_n, rt_1, rt_b, rt_20, rt_21, okb_0, okb_1, okb_b, nar_0, nar_1, nar_b, i_0, i_1, j_0, j_1, i_lit, j_lit, i_n, iI_add, iI_sub, iI_mul, iI_neg, jI_add, jI_sub, jI_mul, jI_neg, sh_1, an_1, xo_1, di_p, dj_p, i_64A, i_64, j_32, lq_ge, lq_lt, lq_le, lq_gt, lq_eq, i_lt, i_le, i_eq, j_eq, iI_A, jI_J, iI_b, iI_v, jI_v, ↓reduceIte, ite_true, ite_false, Int.reduceEq, Int.reduceLT, Int.reduceLE, Int.reduceAdd, Int.reduceSub, Int.reduceMul, Int.reduceNeg, not_true_eq_false, not_false_eq_true, iI_n, rdn_i, rdn_j, wrn_i, wrn_j, h57, q, hk47, hr, hs, p1]
    · by_cases e : i = k
      · rw [e]
        have h := p4 (o k) hok.1 (fun j j0 j1 h => hi k j (by omega) (by omega) j1 h.symm)
        rw [h.1, h.2, A_Wn (by omega), A_Ws hup.1 hup.2, A_Wv]
        exact ⟨rfl, rfl⟩
      · have hne := hi k i (by omega) (by omega) i1
        have hoi := ho i (by omega) i1
        have h := p3 i (by omega) i1
        rw [h.1, h.2, A_Wn (by omega), A_Wo hok.1 hoi.1 (fun h => hne h.symm)]
        exact ⟨rfl, rfl⟩
    · have hz0 := hz k (by omega) (by omega)
      have h := p4 z z0 (fun j j0 j1 => hz j (by omega) j1)
      rw [h.1, h.2, A_Wn (by omega), A_Wo hok.1 z0 (fun h => hz0 h.symm), A_Wo hok.1 z0 (fun h => hz0 h.symm), A_Wn (by omega)]
      exact ⟨rfl, rfl⟩
theorem c_rideRun (hF : F = am_F T0 g) (hg : GG g) {a : Nat} (ha : isPu g a) (hna : 72 ≤ a ∧ a < 90) {r day n : Int} (r0 : 0 ≤ r) (r1 : r < 10) (d0 : 0 ≤ day) (d1 : day ≤ 100000) (n0 : 0 ≤ n ∧ n ≤ 20) {o : Int → Int} (ho : ∀ i : Int, 0 ≤ i → i < n → 0 ≤ o i ∧ o i < 200) (hi : ∀ i j : Int, 0 ≤ i → i < j → j < n → ¬ o i = o j) (h57 : A M 57 r = n) (h47 : ∀ i : Int, 0 ≤ i → i < n → A M (47 + 1 * r.toNat) i = o i) (ht : ∀ i : Int, 0 ≤ i → i < n → 0 ≤ A M (a + 1) (o i) ∧ A M (a + 1) (o i) ≤ 6) :
    ∃ M' : am_M, F 176 0 [.ref 42, .ref a, .int (iI r), .int (iI day)] [] M = some (none, M') ∧ Ch [a + 1, a + 2] [] M M' ∧ ∀ z : Int, 0 ≤ z → ((∃ i : Int, 0 ≤ i ∧ i < n ∧ o i = z) → A M' (a + 1) z = up6 (A M (a + 1) z) ∧ A M' (a + 2) z = day) ∧ ((¬ ∃ i : Int, 0 ≤ i ∧ i < n ∧ o i = z) → A M' (a + 1) z = A M (a + 1) z ∧ A M' (a + 2) z = A M (a + 2) z) := by
  obtain ⟨M', p1, p2, p3, p4⟩ := c_rideRun_l hF hg ha hna r0 r1 n0 ho hi (day := day) n.toNat 0 M (by omega) h57 h47 (fun i i0 i1 => ht i (by omega) i1)
  refine ⟨M', ?_, p2, fun z z0 => ⟨?_, fun h => p4 z z0 (fun i i0 i1 e => h ⟨i, by omega, i1, e⟩)⟩⟩
  · refine s_Links_rideRun hF hg ha ?_
    exact p1
  · rintro ⟨i, i0, i1, e⟩
    have h := p3 i (by omega) i1
    rw [e, iI_v (by omega) (by omega)] at h
    exact h
-- the model
theorem m_linkOf_l (hF : F = am_F T0 g) (hg : GG g) {r i : Int} (r0 : 0 ≤ r) (r1 : r < 10) (i0 : 0 ≤ i) (i1 : i < 20) (hleg : ∀ j : Int, 0 ≤ j → j ≤ i + 1 → 0 ≤ A M 248 (21 * r + j) ∧ A M 248 (21 * r + j) < 80) : ∀ m k : Nat, (k : Int) + m = i → F 60 32 [.ref 219, .int (iI r), .int (iI i), .int (iI (lkn M r i)), .int (iI k)] [] M = some (some (.int (iI (if bI (∃ j : Int, (k : Int) ≤ j ∧ j < i ∧ lkn M r j = lkn M r i) = 1 then -1 else lkn M r i))), M) := by
  have hli : 0 ≤ lkn M r i ∧ lkn M r i < 6480 := by
    have a := hleg i i0 (by omega)
    have b := hleg (i + 1) (by omega) (by omega)
    rw [show 21 * r + (i + 1) = 21 * r + i + 1 by omega] at b
    unfold lkn
    omega
  intro m
  induction m with
  | zero =>
    intro k hk
    have q : i ≤ (k : Int) := by omega
    rw [bI_f (fun ⟨j, j0, j1, _⟩ => by omega), if_neg (by omega)]
    refine s_Model_linkOf_32 hF hg ?_
    simp (config := { maxSteps := 1000000 }) (disch := (first | omega | decide | assumption)) only [ltm_s, ok_n, rd_i, rd_j, fd_i, fd_j, wr_i, wr_j, fw_i, fw_j, ci_s, cj_s, cv_s, dv_n, dw_n, rt_1, rt_b, rt_20, rt_21, okb_0, okb_1, okb_b, nar_0, nar_1, nar_b, i_0, i_1, j_0, j_1, i_lit, j_lit, i_n, iI_add, iI_sub, iI_mul, iI_neg, jI_add, jI_sub, jI_mul, jI_neg, sh_1, an_1, xo_1, di_p, dj_p, i_64A, i_64, j_32, lq_ge, lq_lt, lq_le, lq_gt, lq_eq, i_lt, i_le, i_eq, j_eq, iI_A, jI_J, iI_b, iI_v, jI_v, ↓reduceIte, ite_true, ite_false, Int.reduceEq, Int.reduceLT, Int.reduceLE, Int.reduceAdd, Int.reduceSub, Int.reduceMul, Int.reduceNeg, not_true_eq_false, not_false_eq_true, q]
  | succ m ih =>
    intro k hk
    have q : ¬ i ≤ (k : Int) := by omega
    have hs : (k : Int) + 1 = ((k + 1 : Nat) : Int) := by omega
    have a := hleg k (by omega) (by omega)
    have b := hleg (k + 1) (by omega) (by omega)
    rw [show 21 * r + ((k : Int) + 1) = 21 * r + k + 1 by omega] at b
    have el : 80 * A M 248 (21 * r + k) + A M 248 (21 * r + k + 1) = lkn M r k := rfl
    have hlk : 0 ≤ lkn M r k ∧ lkn M r k < 6480 := by rw [← el]; omega
    by_cases e : lkn M r k = lkn M r i
    · rw [bI_t ⟨k, by omega, by omega, e⟩, if_pos rfl]
      refine s_Model_linkOf_32 hF hg ?_
      simp (config := { maxSteps := 1000000 }) (disch := (first | omega | decide | assumption)) only [ltm_s, ok_n, rd_i, rd_j, fd_i, fd_j, wr_i, wr_j, fw_i, fw_j, ci_s, cj_s, cv_s, dv_n, dw_n, rt_1, rt_b, rt_20, rt_21, okb_0, okb_1, okb_b, nar_0, nar_1, nar_b, i_0, i_1, j_0, j_1, i_lit, j_lit, i_n, iI_add, iI_sub, iI_mul, iI_neg, jI_add, jI_sub, jI_mul, jI_neg, sh_1, an_1, xo_1, di_p, dj_p, i_64A, i_64, j_32, lq_ge, lq_lt, lq_le, lq_gt, lq_eq, i_lt, i_le, i_eq, j_eq, iI_A, jI_J, iI_b, iI_v, jI_v, ↓reduceIte, ite_true, ite_false, Int.reduceEq, Int.reduceLT, Int.reduceLE, Int.reduceAdd, Int.reduceSub, Int.reduceMul, Int.reduceNeg, not_true_eq_false, not_false_eq_true, q, el, eq_true e]
    · have ih' := ih (k + 1) (by omega)
      rw [bI_cg (show (∃ j : Int, ((k + 1 : Nat) : Int) ≤ j ∧ j < i ∧ lkn M r j = lkn M r i) ↔ (∃ j : Int, (k : Int) ≤ j ∧ j < i ∧ lkn M r j = lkn M r i) from ⟨fun ⟨j, j0, j1, h⟩ => ⟨j, by omega, j1, h⟩, fun ⟨j, j0, j1, h⟩ => ⟨j, by (by_cases p : j = k; exact absurd (p ▸ h) e; omega), j1, h⟩⟩)] at ih'
      refine s_Model_linkOf_32 hF hg ?_
      simp (config := { maxSteps := 1000000 }) (disch := (first | omega | decide | assumption)) only [ltm_s, ok_n, rd_i, rd_j, fd_i, fd_j, wr_i, wr_j, fw_i, fw_j, ci_s, cj_s, cv_s, dv_n, dw_n, rt_1, rt_b, rt_20, rt_21, okb_0, okb_1, okb_b, nar_0, nar_1, nar_b, i_0, i_1, j_0, j_1, i_lit, j_lit, i_n, iI_add, iI_sub, iI_mul, iI_neg, jI_add, jI_sub, jI_mul, jI_neg, sh_1, an_1, xo_1, di_p, dj_p, i_64A, i_64, j_32, lq_ge, lq_lt, lq_le, lq_gt, lq_eq, i_lt, i_le, i_eq, j_eq, iI_A, jI_J, iI_b, iI_v, jI_v, ↓reduceIte, ite_true, ite_false, Int.reduceEq, Int.reduceLT, Int.reduceLE, Int.reduceAdd, Int.reduceSub, Int.reduceMul, Int.reduceNeg, not_true_eq_false, not_false_eq_true, q, el, e, hs, ih']
theorem m_linkOf (hF : F = am_F T0 g) (hg : GG g) {r i : Int} (r0 : 0 ≤ r) (r1 : r < 10) (i0 : 0 ≤ i) (i1 : i < 20) (hleg : ∀ j : Int, 0 ≤ j → j ≤ i + 1 → 0 ≤ A M 248 (21 * r + j) ∧ A M 248 (21 * r + j) < 80) : F 60 0 [.ref 219, .int (iI r), .int (iI i)] [] M = some (some (.int (iI (if bI (∃ j : Int, 0 ≤ j ∧ j < i ∧ lkn M r j = lkn M r i) = 1 then -1 else lkn M r i))), M) := by
  have a := hleg i i0 (by omega)
  have b := hleg (i + 1) (by omega) (by omega)
  rw [show 21 * r + (i + 1) = 21 * r + i + 1 by omega] at b
  have el : 80 * A M 248 (21 * r + i) + A M 248 (21 * r + i + 1) = lkn M r i := rfl
  refine s_Model_linkOf hF hg ?_
  simp (config := { maxSteps := 1000000 }) (disch := (first | omega | decide | assumption)) only [ltm_s, ok_n, rd_i, rd_j, fd_i, fd_j, wr_i, wr_j, fw_i, fw_j, ci_s, cj_s, cv_s, dv_n, dw_n, rt_1, rt_b, rt_20, rt_21, okb_0, okb_1, okb_b, nar_0, nar_1, nar_b, i_0, i_1, j_0, j_1, i_lit, j_lit, i_n, iI_add, iI_sub, iI_mul, iI_neg, jI_add, jI_sub, jI_mul, jI_neg, sh_1, an_1, xo_1, di_p, dj_p, i_64A, i_64, j_32, lq_ge, lq_lt, lq_le, lq_gt, lq_eq, i_lt, i_le, i_eq, j_eq, iI_A, jI_J, iI_b, iI_v, jI_v, ↓reduceIte, ite_true, ite_false, Int.reduceEq, Int.reduceLT, Int.reduceLE, Int.reduceAdd, Int.reduceSub, Int.reduceMul, Int.reduceNeg, not_true_eq_false, not_false_eq_true, el]
  exact m_linkOf_l hF hg r0 r1 i0 i1 hleg i.toNat 0 (by omega)
theorem lkn_w {N : am_M} {r i : Int} (c : Ch [251, 252] [] M N) : lkn N r i = lkn M r i := by
  unfold lkn; rw [c.a (a := 248) rfl, c.a (a := 248) rfl]
theorem m_rides_l (hF : F = am_F T0 g) (hg : GG g) {p r day n : Int} (p0 : 0 ≤ p) (p3 : p < 4) (r0 : 0 ≤ r) (r1 : r < 10) (d0 : 0 ≤ day) (d1 : day ≤ 100000) (n0 : 0 ≤ n ∧ n ≤ 20) : ∀ (m k : Nat) (M : am_M), (k : Int) + m = n → A M 247 r = n + 1 → (∀ j : Int, 0 ≤ j → j ≤ n → 0 ≤ A M 248 (21 * r + j) ∧ A M 248 (21 * r + j) < 80) → (∀ j : Int, 0 ≤ j → j < n → lkn M r j < 6400) → (∀ z : Int, 0 ≤ z → z < 25600 → 0 ≤ A M 251 z ∧ A M 251 z ≤ 6) →
    ∃ M' : am_M, F 135 3 [.ref 219, .int (iI p), .int (iI r), .int (iI day), .int (iI k)] [] M = some (none, M') ∧ Ch [251, 252] [] M M' ∧ (∀ z : Int, 0 ≤ z → z < 25600 → 0 ≤ A M' 251 z ∧ A M' 251 z ≤ 6) ∧ (∀ t : Int, 0 ≤ t → t < 6400 → ((∃ i : Int, (k : Int) ≤ i ∧ i < n ∧ lkn M r i = t ∧ ¬ ∃ j : Int, 0 ≤ j ∧ j < i ∧ lkn M r j = t) → A M' 251 (6400 * p + t) = up6 (A M 251 (6400 * p + t)) ∧ A M' 252 (6400 * p + t) = day) ∧ ((¬ ∃ i : Int, (k : Int) ≤ i ∧ i < n ∧ lkn M r i = t ∧ ¬ ∃ j : Int, 0 ≤ j ∧ j < i ∧ lkn M r j = t) → A M' 251 (6400 * p + t) = A M 251 (6400 * p + t) ∧ A M' 252 (6400 * p + t) = A M 252 (6400 * p + t))) ∧ ∀ z : Int, 0 ≤ z → z < 6400 * p ∨ 6400 * p + 6400 ≤ z → A M' 251 z = A M 251 z ∧ A M' 252 z = A M 252 z := by
  intro m
  induction m with
  | zero =>
    intro k M hk h247 hleg hlk ht
    have q : n + 1 - 1 ≤ (k : Int) := by omega
    refine ⟨M, ?_, Ch.refl, ht, fun t t0 t1 => ⟨fun ⟨i, i0, i1, _⟩ => by omega, fun _ => ⟨rfl, rfl⟩⟩, fun _ _ _ => ⟨rfl, rfl⟩⟩
    refine s_Model_rides_3 hF hg ?_
    simp (config := { maxSteps := 1000000 }) (disch := (first | omega | decide | assumption)) only [ltm_s, ok_n, rd_i, rd_j, fd_i, fd_j, wr_i, wr_j, fw_i, fw_j, ci_s, cj_s, cv_s, dv_n, dw_n, rt_1, rt_b, rt_20, rt_21, okb_0, okb_1, okb_b, nar_0, nar_1, nar_b, i_0, i_1, j_0, j_1, i_lit, j_lit, i_n, iI_add, iI_sub, iI_mul, iI_neg, jI_add, jI_sub, jI_mul, jI_neg, sh_1, an_1, xo_1, di_p, dj_p, i_64A, i_64, j_32, lq_ge, lq_lt, lq_le, lq_gt, lq_eq, i_lt, i_le, i_eq, j_eq, iI_A, jI_J, iI_b, iI_v, jI_v, ↓reduceIte, ite_true, ite_false, Int.reduceEq, Int.reduceLT, Int.reduceLE, Int.reduceAdd, Int.reduceSub, Int.reduceMul, Int.reduceNeg, not_true_eq_false, not_false_eq_true, h247, q]
  | succ m ih =>
    intro k M hk h247 hleg hlk ht
    have q : ¬ n + 1 - 1 ≤ (k : Int) := by omega
    have hs : (k : Int) + 1 = ((k + 1 : Nat) : Int) := by omega
    have ml := m_linkOf hF hg (M := M) (r := r) (i := k) r0 r1 (by omega) (by omega) (fun j j0 j1 => hleg j j0 (by omega))
    have hl0 : 0 ≤ lkn M r k := by
      have a := hleg k (by omega) (by omega)
      have b := hleg (k + 1) (by omega) (by omega)
      rw [show 21 * r + ((k : Int) + 1) = 21 * r + k + 1 by omega] at b
      unfold lkn
      omega
    have hl1 := hlk k (by omega) (by omega)
    by_cases e : ∃ j : Int, 0 ≤ j ∧ j < (k : Int) ∧ lkn M r j = lkn M r k
    · rw [bI_t e, if_pos rfl] at ml
      obtain ⟨M', p1, p2, p3', p4, p5⟩ := ih (k + 1) M (by omega) h247 hleg hlk ht
      refine ⟨M', ?_, p2, p3', fun t t0 t1 => ?_, p5⟩
      · refine s_Model_rides_3 hF hg ?_
        simp (config := { maxSteps := 1000000 }) (disch := (first | omega | decide | assumption)) only [ltm_s, ok_n, rd_i, rd_j, fd_i, fd_j, wr_i, wr_j, fw_i, fw_j, ci_s, cj_s, cv_s, dv_n, dw_n, rt_1, rt_b, rt_20, rt_21, okb_0, okb_1, okb_b, nar_0, nar_1, nar_b, i_0, i_1, j_0, j_1, i_lit, j_lit, i_n, iI_add, iI_sub, iI_mul, iI_neg, jI_add, jI_sub, jI_mul, jI_neg, sh_1, an_1, xo_1, di_p, dj_p, i_64A, i_64, j_32, lq_ge, lq_lt, lq_le, lq_gt, lq_eq, i_lt, i_le, i_eq, j_eq, iI_A, jI_J, iI_b, iI_v, jI_v, ↓reduceIte, ite_true, ite_false, Int.reduceEq, Int.reduceLT, Int.reduceLE, Int.reduceAdd, Int.reduceSub, Int.reduceMul, Int.reduceNeg, not_true_eq_false, not_false_eq_true, h247, q, ml, hs, p1]
      · have h := p4 t t0 t1
        have hiff : (∃ i : Int, ((k + 1 : Nat) : Int) ≤ i ∧ i < n ∧ lkn M r i = t ∧ ¬ ∃ j : Int, 0 ≤ j ∧ j < i ∧ lkn M r j = t) ↔ (∃ i : Int, (k : Int) ≤ i ∧ i < n ∧ lkn M r i = t ∧ ¬ ∃ j : Int, 0 ≤ j ∧ j < i ∧ lkn M r j = t) := ⟨fun ⟨i, i0, i1, i2, i3⟩ => ⟨i, by omega, i1, i2, i3⟩, fun ⟨i, i0, i1, i2, i3⟩ => ⟨i, by
          by_cases pe : i = k
          · exfalso
            subst pe
            exact i3 (by rw [← i2]; exact e)
          · omega, i1, i2, i3⟩⟩
        exact ⟨fun a => h.1 (hiff.mpr a), fun a => h.2 (fun b => a (hiff.mp b))⟩
    · rw [bI_f e, if_neg (by omega)] at ml
      have ht0 := ht (6400 * p + lkn M r k) (by omega) (by omega)
      have hup : 0 ≤ up6 (A M 251 (6400 * p + lkn M r k)) ∧ up6 (A M 251 (6400 * p + lkn M r k)) ≤ 6 := by
        unfold up6
        split <;> omega
      obtain ⟨N, eN⟩ : ∃ N : am_M, N = W_ (W_ M 251 (6400 * p + lkn M r k) (up6 (A M 251 (6400 * p + lkn M r k)))) 252 (6400 * p + lkn M r k) day := ⟨_, rfl⟩
      have cN : Ch [251, 252] [] M N := by
        rw [eN]; exact (Ch.refl.wm (Or.inl (by decide))).wm (Or.inl (by decide))
      have n251 : ∀ z : Int, 0 ≤ z → ¬ z = 6400 * p + lkn M r k → A N 251 z = A M 251 z := fun z z0 z1 => by
        rw [eN, A_Wn (by decide), A_Wo (by omega) z0 z1]
      have n252 : ∀ z : Int, 0 ≤ z → ¬ z = 6400 * p + lkn M r k → A N 252 z = A M 252 z := fun z z0 z1 => by
        rw [eN, A_Wo (by omega) z0 z1, A_Wn (by decide)]
      have s251 : A N 251 (6400 * p + lkn M r k) = up6 (A M 251 (6400 * p + lkn M r k)) := by
        rw [eN, A_Wn (by decide), A_Ws (by omega) (by omega)]
      have s252 : A N 252 (6400 * p + lkn M r k) = day := by
        rw [eN, A_Ws (by omega) (by omega)]
      have el : ∀ i, lkn N r i = lkn M r i := fun i => lkn_w cN
      obtain ⟨M', p1, p2, p3', p4, p5⟩ := ih (k + 1) N (by omega) (by rw [cN.a (a := 247) rfl]; exact h247) (fun j j0 j1 => by rw [cN.a (a := 248) rfl]; exact hleg j j0 j1) (fun j j0 j1 => by rw [el]; exact hlk j j0 j1) (fun z z0 z1 => by
        by_cases pz : z = 6400 * p + lkn M r k
        · rw [pz, s251]; exact hup
        · rw [n251 z z0 pz]; exact ht z z0 z1)
      refine ⟨M', ?_, cN.trans p2, p3', fun t t0 t1 => ?_, fun z z0 z1 => ?_⟩
      · refine s_Model_rides_3 hF hg ?_
        have hne : ¬ lkn M r k = -1 := by omega
        by_cases u : 6 ≤ A M 251 (6400 * p + lkn M r k)
        · have e2 : A M 251 (6400 * p + lkn M r k) + 0 = up6 (A M 251 (6400 * p + lkn M r k)) := by
            unfold up6; rw [if_pos u]; omega
          simp (config := { maxSteps := 1000000 }) (disch := (first | omega | decide | assumption)) only [ltm_s, ok_n, rd_i, rd_j, fd_i, fd_j, wr_i, wr_j, fw_i, fw_j, ci_s, cj_s, cv_s, dv_n, dw_n, rt_1, rt_b, rt_20, rt_21, okb_0, okb_1, okb_b, nar_0, nar_1, nar_b, i_0, i_1, j_0, j_1, i_lit, j_lit, i_n, iI_add, iI_sub, iI_mul, iI_neg, jI_add, jI_sub, jI_mul, jI_neg, sh_1, an_1, xo_1, di_p, dj_p, i_64A, i_64, j_32, lq_ge, lq_lt, lq_le, lq_gt, lq_eq, i_lt, i_le, i_eq, j_eq, iI_A, jI_J, iI_b, iI_v, jI_v, ↓reduceIte, ite_true, ite_false, Int.reduceEq, Int.reduceLT, Int.reduceLE, Int.reduceAdd, Int.reduceSub, Int.reduceMul, Int.reduceNeg, not_true_eq_false, not_false_eq_true, h247, q, ml, hne, u, e2, eN.symm, hs, p1]
        · have e2 : A M 251 (6400 * p + lkn M r k) + 1 = up6 (A M 251 (6400 * p + lkn M r k)) := by
            unfold up6; rw [if_neg u]
          simp (config := { maxSteps := 1000000 }) (disch := (first | omega | decide | assumption)) only [ltm_s, ok_n, rd_i, rd_j, fd_i, fd_j, wr_i, wr_j, fw_i, fw_j, ci_s, cj_s, cv_s, dv_n, dw_n, rt_1, rt_b, rt_20, rt_21, okb_0, okb_1, okb_b, nar_0, nar_1, nar_b, i_0, i_1, j_0, j_1, i_lit, j_lit, i_n, iI_add, iI_sub, iI_mul, iI_neg, jI_add, jI_sub, jI_mul, jI_neg, sh_1, an_1, xo_1, di_p, dj_p, i_64A, i_64, j_32, lq_ge, lq_lt, lq_le, lq_gt, lq_eq, i_lt, i_le, i_eq, j_eq, iI_A, jI_J, iI_b, iI_v, jI_v, ↓reduceIte, ite_true, ite_false, Int.reduceEq, Int.reduceLT, Int.reduceLE, Int.reduceAdd, Int.reduceSub, Int.reduceMul, Int.reduceNeg, not_true_eq_false, not_false_eq_true, h247, q, ml, hne, u, e2, eN.symm, hs, p1]
      · have h := p4 t t0 t1
        simp only [el] at h
        by_cases pt : t = lkn M r k
        · have no : ¬ ∃ i : Int, ((k + 1 : Nat) : Int) ≤ i ∧ i < n ∧ lkn M r i = t ∧ ¬ ∃ j : Int, 0 ≤ j ∧ j < i ∧ lkn M r j = t := fun ⟨i, i0, i1, i2, i3⟩ => i3 ⟨k, by omega, by omega, pt.symm⟩
          have h2 := h.2 no
          rw [pt] at h2 ⊢
          rw [s251, s252] at h2
          refine ⟨fun _ => h2, fun a => absurd ⟨k, by omega, by omega, rfl, e⟩ a⟩
        · have hiff : (∃ i : Int, ((k + 1 : Nat) : Int) ≤ i ∧ i < n ∧ lkn M r i = t ∧ ¬ ∃ j : Int, 0 ≤ j ∧ j < i ∧ lkn M r j = t) ↔ (∃ i : Int, (k : Int) ≤ i ∧ i < n ∧ lkn M r i = t ∧ ¬ ∃ j : Int, 0 ≤ j ∧ j < i ∧ lkn M r j = t) := ⟨fun ⟨i, i0, i1, i2, i3⟩ => ⟨i, by omega, i1, i2, i3⟩, fun ⟨i, i0, i1, i2, i3⟩ => ⟨i, by
            by_cases pe : i = k
            · exact absurd (by rw [← i2, pe]) pt
            · omega, i1, i2, i3⟩⟩
          rw [n251 (6400 * p + t) (by omega) (by omega), n252 (6400 * p + t) (by omega) (by omega)] at h
          exact ⟨fun a => h.1 (hiff.mpr a), fun a => h.2 (fun b => a (hiff.mp b))⟩
      · have h := p5 z z0 z1
        rw [n251 z z0 (by omega), n252 z z0 (by omega)] at h
        exact h
/-- a link of a row has a first place -/
theorem fst_at {f : Int → Int} {t : Int} : ∀ n : Nat, (∃ i : Int, 0 ≤ i ∧ i < (n : Int) ∧ f i = t) → ∃ i : Int, 0 ≤ i ∧ i < (n : Int) ∧ f i = t ∧ ¬ ∃ j : Int, 0 ≤ j ∧ j < i ∧ f j = t := by
  intro n
  induction n with
  | zero =>
    rintro ⟨i, i0, i1, -⟩
    omega
  | succ n ih =>
    rintro ⟨i, i0, i1, i2⟩
    by_cases q : ∃ j : Int, 0 ≤ j ∧ j < (n : Int) ∧ f j = t
    · obtain ⟨j, j0, j1, j2, j3⟩ := ih q
      exact ⟨j, j0, by omega, j2, j3⟩
    · refine ⟨i, i0, i1, i2, fun ⟨j, j0, j1, j2⟩ => q ⟨j, j0, by omega, j2⟩⟩
theorem m_rides (hF : F = am_F T0 g) (hg : GG g) {p r day : Int} (p0 : 0 ≤ p) (p3 : p < 4) (r0 : 0 ≤ r) (r1 : r < 10) (d0 : 0 ≤ day) (d1 : day ≤ 100000) (hm : 1 ≤ A M 247 r ∧ A M 247 r ≤ 21) (hleg : ∀ j : Int, 0 ≤ j → j < A M 247 r → 0 ≤ A M 248 (21 * r + j) ∧ A M 248 (21 * r + j) < 80) (ht : ∀ z : Int, 0 ≤ z → z < 25600 → 0 ≤ A M 251 z ∧ A M 251 z ≤ 6) :
    ∃ M' : am_M, F 135 0 [.ref 219, .int (iI p), .int (iI r), .int (iI day)] [] M = some (none, M') ∧ Ch [251, 252] [] M M' ∧ (∀ z : Int, 0 ≤ z → z < 25600 → 0 ≤ A M' 251 z ∧ A M' 251 z ≤ 6) ∧ (∀ t : Int, 0 ≤ t → t < 6400 → (inR M r t → A M' 251 (6400 * p + t) = up6 (A M 251 (6400 * p + t)) ∧ A M' 252 (6400 * p + t) = day) ∧ (¬ inR M r t → A M' 251 (6400 * p + t) = A M 251 (6400 * p + t) ∧ A M' 252 (6400 * p + t) = A M 252 (6400 * p + t))) ∧ ∀ z : Int, 0 ≤ z → z < 6400 * p ∨ 6400 * p + 6400 ≤ z → A M' 251 z = A M 251 z ∧ A M' 252 z = A M 252 z := by
  have hlk : ∀ j : Int, 0 ≤ j → j < A M 247 r - 1 → lkn M r j < 6400 := fun j j0 j1 => by
    have a := hleg j j0 (by omega)
    have b := hleg (j + 1) (by omega) (by omega)
    rw [show 21 * r + (j + 1) = 21 * r + j + 1 by omega] at b
    unfold lkn
    omega
  obtain ⟨M', p1, p2, p3', p4, p5⟩ := m_rides_l hF hg p0 p3 r0 r1 d0 d1 (n := A M 247 r - 1) (by omega) (A M 247 r - 1).toNat 0 M (by omega) (by omega) (fun j j0 j1 => hleg j j0 (by omega)) hlk ht
  refine ⟨M', ?_, p2, p3', fun t t0 t1 => ?_, p5⟩
  · refine s_Model_rides hF hg ?_
    exact p1
  · have h := p4 t t0 t1
    refine ⟨fun ⟨i, i0, i1, i2⟩ => h.1 ?_, fun a => h.2 (fun ⟨i, i0, i1, i2, i3⟩ => a ⟨i, by omega, i1, i2⟩)⟩
    obtain ⟨j, j0, j1, j2, j3⟩ := fst_at (f := lkn M r) (t := t) (A M 247 r - 1).toNat ⟨i, i0, by omega, i2⟩
    exact ⟨j, by omega, by omega, j2, j3⟩
end Rd_
