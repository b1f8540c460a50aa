/-! GATHER: a set of runs, made ready -/
section Ga
variable {M0 M N M' : am_M} {g : am_G} {F : am_FT}
def orb (x j : Int) : Int := (iI x ||| (iI 1 <<< (iI j &&& iI 31))).toInt
theorem orb_i {x j : Int} : (iI x ||| (iI 1 <<< (iI j &&& iI 31))) = iI (orb x j) := (iI_of _).symm
theorem orb_n : ∀ x : Nat, x < 16 → ∀ j : Nat, j < 4 → (0 ≤ orb (x : Int) (j : Int) ∧ orb (x : Int) (j : Int) < 16) ∧ ∀ i : Nat, i < 4 → bt (orb (x : Int) (j : Int)) (i : Int) = if i = j then 1 else bt (x : Int) (i : Int) := by decide +kernel
theorem orb_v {x j : Int} (x0 : 0 ≤ x) (x1 : x < 16) (j0 : 0 ≤ j) (j1 : j < 4) : (0 ≤ orb x j ∧ orb x j < 16) ∧ ∀ i : Int, 0 ≤ i → i < 4 → bt (orb x j) i = if i = j then 1 else bt x i := by
  have h := orb_n x.toNat (by omega) j.toNat (by omega)
  rw [Int.toNat_of_nonneg x0, Int.toNat_of_nonneg j0] at h
  refine ⟨h.1, fun i i0 i1 => ?_⟩
  have h2 := h.2 i.toNat (by omega)
  rw [Int.toNat_of_nonneg i0] at h2
  rw [h2]
  by_cases q : i = j
  · rw [if_pos q, if_pos (by omega)]
  · rw [if_neg q, if_neg (by omega)]
theorem bt_00 : ∀ i : Nat, i < 4 → bt 0 (i : Int) = 0 := by decide +kernel
/-- the links of one run get its bit -/
theorem c_bits_l (hF : F = am_F T0 g) (hg : GG g) {s r j n c : Int} (c1 : c ≤ 200) (r0 : 0 ≤ r) (r1 : r < 10) (j0 : 0 ≤ j) (j1 : j < 4) (n0 : 0 ≤ n ∧ n ≤ 20) {o : Int → Int} (ho : ∀ i : Int, 0 ≤ i → i < n → 0 ≤ o i ∧ o i < c) : ∀ (m k : Nat) (N : am_M), (k : Int) + m = n → A N 57 r = n → A N 42 7 = j → (∀ i : Int, 0 ≤ i → i < n → A N (47 + 1 * r.toNat) i = o i) → (∀ l : Int, 0 ≤ l → l < c → 0 ≤ A N 59 l ∧ A N 59 l < 16) → ∃ N' : am_M, (∀ R, F 37 57 [.ref 42, .int (iI s), .int (iI r), .int (iI n)] [] N' = some R → F 37 57 [.ref 42, .int (iI s), .int (iI r), .int (iI k)] [] N = some R) ∧ Ch [59] [] N N' ∧ (∀ l : Int, 0 ≤ l → l < c → 0 ≤ A N' 59 l ∧ A N' 59 l < 16) ∧ ∀ l i : Int, 0 ≤ l → l < c → 0 ≤ i → i < 4 → (bt (A N' 59 l) i = 1 ↔ bt (A N 59 l) i = 1 ∨ i = j ∧ ∃ x : Int, (k : Int) ≤ x ∧ x < n ∧ o x = l) := by
  intro m
  induction m with
  | zero =>
    intro k N hk h57 h42 h47 hr
    have e : (k : Int) = n := by omega
    exact ⟨N, fun R hR => by rw [e]; exact hR, Ch.refl, hr, fun l i l0 l1 i0 i1 => ⟨Or.inl, fun h => h.resolve_right (fun ⟨_, x, x0, x1, _⟩ => by omega)⟩⟩
  | succ m ih =>
    intro k N hk h57 h42 h47 hr
    have u : ¬ n ≤ (k : Int) := by omega
    have hs : (k : Int) + 1 = ((k + 1 : Nat) : Int) := by omega
    have ok := ho k (by omega) (by omega)
    have e47 := h47 k (by omega) (by omega)
    have rx := hr (o k) ok.1 ok.2
    obtain ⟨v1, v2⟩ := orb_v rx.1 rx.2 j0 j1
    obtain ⟨N', q1, q2, q3, q4⟩ := ih (k + 1) (W_ N 59 (o k) (orb (A N 59 (o k)) j)) (by omega) (by rw [A_Wn (by decide)]; exact h57) (by rw [A_Wn (by decide)]; exact h42) (fun i i0 i1 => by rw [A_Wn (by omega)]; exact h47 i i0 i1) (fun l l0 l1 => by
      by_cases e : l = o k
      · rw [e, A_Ws (by omega) (by omega)]; exact v1
      · rw [A_Wo ok.1 l0 e]; exact hr l l0 l1)
    refine ⟨N', fun R hR => ?_, (Ch.refl.wm (Or.inl (by decide))).trans q2, q3, fun l i l0 l1 i0 i1 => ?_⟩
    · refine s_Links_gather_57 hF hg ?_
      have hnr : (iI r).toNatClampNeg = r.toNat := iI_n (by omega) (by omega)
      simp (config := { maxSteps := 1000000 }) (disch := (first | omega | decide | assumption)) only [ltm_s, ok_n, rd_i, rd_j, fd_i, fd_j, wr_i, wr_j, fw_i, fw_j, ci_s, cj_s, cv_s, dv_n, dw_n, rt_1, rt_b, rt_20, rt_21, okb_0, okb_1, okb_b, nar_0, nar_1, nar_b, i_0, i_1, j_0, j_1, i_lit, j_lit, i_n, iI_add, iI_sub, iI_mul, iI_neg, jI_add, jI_sub, jI_mul, jI_neg, sh_1, an_1, xo_1, di_p, dj_p, i_64A, i_64, j_32, lq_ge, lq_lt, lq_le, lq_gt, lq_eq, i_lt, i_le, i_eq, j_eq, iI_A, jI_J, iI_b, iI_v, jI_v, ↓reduceIte, ite_true, ite_false, Int.reduceEq, Int.reduceLT, Int.reduceLE, Int.reduceAdd, Int.reduceSub, Int.reduceMul, Int.reduceNeg, not_true_eq_false, not_false_eq_true, iI_n, rdn_i, rdn_j, wrn_i, wrn_j, h57, u, e47, h42, orb_i, hs]
      exact q1 R hR
    · rw [q4 l i l0 l1 i0 i1]
      by_cases e : l = o k
      · rw [e, A_Ws (by omega) (by omega), v2 i i0 i1]
        by_cases ei : i = j
        · rw [if_pos ei]
          exact ⟨fun _ => Or.inr ⟨ei, k, by omega, by omega, rfl⟩, fun _ => Or.inl rfl⟩
        · rw [if_neg ei]
          exact ⟨fun h => Or.inl (h.resolve_right (fun h => ei h.1)), fun h => Or.inl (h.resolve_right (fun h => ei h.1))⟩
      · rw [A_Wo ok.1 l0 e]
        refine or_congr Iff.rfl (and_congr Iff.rfl ⟨fun ⟨x, x0, x1, x2⟩ => ⟨x, by omega, x1, x2⟩, fun ⟨x, x0, x1, x2⟩ => ⟨x, by
          by_cases ex : x = k
          · rw [ex] at x2; exact absurd x2.symm e
          · omega, x1, x2⟩⟩)
theorem c_zero_l (hF : F = am_F T0 g) (hg : GG g) {s c : Int} (c0 : 0 ≤ c) (c1 : c ≤ 200) : ∀ (m k : Nat) (N : am_M), (k : Int) + m = c → A N 42 2 = c → (∀ l : Int, 0 ≤ l → l < (k : Int) → A N 59 l = 0) → ∃ N' : am_M, (∀ R, F 37 30 [.ref 42, .int (iI s), .int (iI 0)] [] N' = some R → F 37 7 [.ref 42, .int (iI s), .int (iI k)] [] N = some R) ∧ Ch [59] [] N N' ∧ ∀ l : Int, 0 ≤ l → l < c → A N' 59 l = 0 := by
  intro m
  induction m with
  | zero =>
    intro k N hk h42 h
    have u : c ≤ (k : Int) := by omega
    refine ⟨N, fun R hR => ?_, Ch.refl, fun l l0 l1 => h l l0 (by omega)⟩
    refine s_Links_gather_7 hF hg ?_
    simp (config := { maxSteps := 1000000 }) (disch := (first | omega | decide | assumption)) only [ltm_s, ok_n, rd_i, rd_j, fd_i, fd_j, wr_i, wr_j, fw_i, fw_j, ci_s, cj_s, cv_s, dv_n, dw_n, rt_1, rt_b, rt_20, rt_21, okb_0, okb_1, okb_b, nar_0, nar_1, nar_b, i_0, i_1, j_0, j_1, i_lit, j_lit, i_n, iI_add, iI_sub, iI_mul, iI_neg, jI_add, jI_sub, jI_mul, jI_neg, sh_1, an_1, xo_1, di_p, dj_p, i_64A, i_64, j_32, lq_ge, lq_lt, lq_le, lq_gt, lq_eq, i_lt, i_le, i_eq, j_eq, iI_A, jI_J, iI_b, iI_v, jI_v, ↓reduceIte, ite_true, ite_false, Int.reduceEq, Int.reduceLT, Int.reduceLE, Int.reduceAdd, Int.reduceSub, Int.reduceMul, Int.reduceNeg, not_true_eq_false, not_false_eq_true, h42, u]
    exact hR
  | succ m ih =>
    intro k N hk h42 h
    have u : ¬ c ≤ (k : Int) := by omega
    have hs : (k : Int) + 1 = ((k + 1 : Nat) : Int) := by omega
    obtain ⟨N', q1, q2, q3⟩ := ih (k + 1) (W_ N 59 k 0) (by omega) (by rw [A_Wn (by decide)]; exact h42) (fun l l0 l1 => by
      by_cases e : l = k
      · rw [e, A_Ws (by omega) (by omega)]
      · rw [A_Wo (by omega) l0 e]; exact h l l0 (by omega))
    refine ⟨N', fun R hR => ?_, (Ch.refl.wm (Or.inl (by decide))).trans q2, q3⟩
    refine s_Links_gather_7 hF hg ?_
    simp (config := { maxSteps := 1000000 }) (disch := (first | omega | decide | assumption)) only [ltm_s, ok_n, rd_i, rd_j, fd_i, fd_j, wr_i, wr_j, fw_i, fw_j, ci_s, cj_s, cv_s, dv_n, dw_n, rt_1, rt_b, rt_20, rt_21, okb_0, okb_1, okb_b, nar_0, nar_1, nar_b, i_0, i_1, j_0, j_1, i_lit, j_lit, i_n, iI_add, iI_sub, iI_mul, iI_neg, jI_add, jI_sub, jI_mul, jI_neg, sh_1, an_1, xo_1, di_p, dj_p, i_64A, i_64, j_32, lq_ge, lq_lt, lq_le, lq_gt, lq_eq, i_lt, i_le, i_eq, j_eq, iI_A, jI_J, iI_b, iI_v, jI_v, ↓reduceIte, ite_true, ite_false, Int.reduceEq, Int.reduceLT, Int.reduceLE, Int.reduceAdd, Int.reduceSub, Int.reduceMul, Int.reduceNeg, not_true_eq_false, not_false_eq_true, h42, u, hs]
    exact q1 R hR
theorem c_gath_l (hF : F = am_F T0 g) (hg : GG g) {s c : Int} (c0 : 0 ≤ c) (c1 : c ≤ 200) (h4 : pcs s 10 ≤ 4) (hrun : ∀ r : Int, 0 ≤ r → r < 10 → bt s r = 1 → (0 ≤ A M 57 r ∧ A M 57 r ≤ 20) ∧ ∀ i : Int, 0 ≤ i → i < A M 57 r → 0 ≤ A M (47 + 1 * r.toNat) i ∧ A M (47 + 1 * r.toNat) i < c) : ∀ (m k : Nat) (N : am_M), k + m = 10 → Ch [58, 59] [(42, 7)] M N → A N 42 7 = pcs s k → (∀ l : Int, 0 ≤ l → l < c → 0 ≤ A N 59 l ∧ A N 59 l < 16) → (∀ r : Int, 0 ≤ r → r < (k : Int) → bt s r = 1 → A N 58 (pcs s r.toNat) = r) → (∀ l r : Int, 0 ≤ l → l < c → 0 ≤ r → r < (k : Int) → bt s r = 1 → (bt (A N 59 l) (pcs s r.toNat) = 1 ↔ ∃ x : Int, 0 ≤ x ∧ x < A M 57 r ∧ A M (47 + 1 * r.toNat) x = l)) → (∀ l i : Int, 0 ≤ l → l < c → pcs s k ≤ i → i < 4 → ¬ bt (A N 59 l) i = 1) →
    ∃ N' : am_M, F 37 30 [.ref 42, .int (iI s), .int (iI k)] [] N = some (none, N') ∧ Ch [58, 59] [(42, 7)] M N' ∧ A N' 42 7 = pcs s 10 ∧ (∀ r : Int, 0 ≤ r → r < 10 → bt s r = 1 → A N' 58 (pcs s r.toNat) = r) ∧ ∀ l r : Int, 0 ≤ l → l < c → 0 ≤ r → r < 10 → bt s r = 1 → (bt (A N' 59 l) (pcs s r.toNat) = 1 ↔ ∃ x : Int, 0 ≤ x ∧ x < A M 57 r ∧ A M (47 + 1 * r.toNat) x = l) := by
  intro m
  induction m with
  | zero =>
    intro k N hk cN h42 hr h58 h59 hz
    have e : k = 10 := by omega
    subst e
    have u : (10 : Int) ≤ ((10 : Nat) : Int) := by omega
    refine ⟨N, ?_, cN, h42, fun r r0 r1 rb => h58 r r0 r1 rb, fun l r l0 l1 r0 r1 rb => h59 l r l0 l1 r0 r1 rb⟩
    refine s_Links_gather_30 hF hg ?_
    simp (config := { maxSteps := 1000000 }) (disch := (first | omega | decide | assumption)) only [ltm_s, ok_n, rd_i, rd_j, fd_i, fd_j, wr_i, wr_j, fw_i, fw_j, ci_s, cj_s, cv_s, dv_n, dw_n, rt_1, rt_b, rt_20, rt_21, okb_0, okb_1, okb_b, nar_0, nar_1, nar_b, i_0, i_1, j_0, j_1, i_lit, j_lit, i_n, iI_add, iI_sub, iI_mul, iI_neg, jI_add, jI_sub, jI_mul, jI_neg, sh_1, an_1, xo_1, di_p, dj_p, i_64A, i_64, j_32, lq_ge, lq_lt, lq_le, lq_gt, lq_eq, i_lt, i_le, i_eq, j_eq, iI_A, jI_J, iI_b, iI_v, jI_v, ↓reduceIte, ite_true, ite_false, Int.reduceEq, Int.reduceLT, Int.reduceLE, Int.reduceAdd, Int.reduceSub, Int.reduceMul, Int.reduceNeg, not_true_eq_false, not_false_eq_true, u]
  | succ m ih =>
    intro k N hk cN h42 hr h58 h59 hz
    have u : ¬ 10 ≤ (k : Int) := by omega
    have hs : (k : Int) + 1 = ((k + 1 : Nat) : Int) := by omega
    have pk := pcs_r (s := s) k
    have pm := pcs_mono (s := s) (x := k) (y := 10) (by omega)
    have et : pcs s (k + 1) = pcs s k + bt s k := rfl
    have pm1 := pcs_mono (s := s) (x := k + 1) (y := 10) (by omega)
    by_cases q4 : 4 ≤ pcs s k
    · have none_ : ∀ r : Int, (k : Int) ≤ r → r < 10 → ¬ bt s r = 1 := fun r r0 r1 rb => by
        have a := pcs_mono (s := s) (x := k) (y := r.toNat) (by omega)
        have b : pcs s (r.toNat + 1) = pcs s r.toNat + bt s (r.toNat : Int) := rfl
        rw [Int.toNat_of_nonneg (by omega), rb] at b
        have d := pcs_mono (s := s) (x := r.toNat + 1) (y := 10) (by omega)
        omega
      refine ⟨N, ?_, cN, by rw [h42]; omega, fun r r0 r1 rb => h58 r r0 (by
        by_cases x : r < (k : Int)
        · exact x
        · exact absurd rb (none_ r (by omega) r1)) rb, fun l r l0 l1 r0 r1 rb => h59 l r l0 l1 r0 (by
        by_cases x : r < (k : Int)
        · exact x
        · exact absurd rb (none_ r (by omega) r1)) rb⟩
      refine s_Links_gather_30 hF hg ?_
      simp (config := { maxSteps := 1000000 }) (disch := (first | omega | decide | assumption)) only [ltm_s, ok_n, rd_i, rd_j, fd_i, fd_j, wr_i, wr_j, fw_i, fw_j, ci_s, cj_s, cv_s, dv_n, dw_n, rt_1, rt_b, rt_20, rt_21, okb_0, okb_1, okb_b, nar_0, nar_1, nar_b, i_0, i_1, j_0, j_1, i_lit, j_lit, i_n, iI_add, iI_sub, iI_mul, iI_neg, jI_add, jI_sub, jI_mul, jI_neg, sh_1, an_1, xo_1, di_p, dj_p, i_64A, i_64, j_32, lq_ge, lq_lt, lq_le, lq_gt, lq_eq, i_lt, i_le, i_eq, j_eq, iI_A, jI_J, iI_b, iI_v, jI_v, ↓reduceIte, ite_true, ite_false, Int.reduceEq, Int.reduceLT, Int.reduceLE, Int.reduceAdd, Int.reduceSub, Int.reduceMul, Int.reduceNeg, not_true_eq_false, not_false_eq_true, u, h42, q4]
    · rcases bt_01 (x := s) (i := (k : Int)) with hb | hb
      · obtain ⟨N', q1, q2⟩ := ih (k + 1) N (by omega) cN (by rw [et, hb, h42]; omega) hr (fun r r0 r1 rb => h58 r r0 (by
          by_cases e : r = k
          · rw [e] at rb; omega
          · omega) rb) (fun l r l0 l1 r0 r1 rb => h59 l r l0 l1 r0 (by
          by_cases e : r = k
          · rw [e] at rb; omega
          · omega) rb) (fun l i l0 l1 i0 i1 => hz l i l0 l1 (by omega) i1)
        refine ⟨N', ?_, q2⟩
        refine s_Links_gather_30 hF hg ?_
        simp (config := { maxSteps := 1000000 }) (disch := (first | omega | decide | assumption)) only [ltm_s, ok_n, rd_i, rd_j, fd_i, fd_j, wr_i, wr_j, fw_i, fw_j, ci_s, cj_s, cv_s, dv_n, dw_n, rt_1, rt_b, rt_20, rt_21, okb_0, okb_1, okb_b, nar_0, nar_1, nar_b, i_0, i_1, j_0, j_1, i_lit, j_lit, i_n, iI_add, iI_sub, iI_mul, iI_neg, jI_add, jI_sub, jI_mul, jI_neg, sh_1, an_1, xo_1, di_p, dj_p, i_64A, i_64, j_32, lq_ge, lq_lt, lq_le, lq_gt, lq_eq, i_lt, i_le, i_eq, j_eq, iI_A, jI_J, iI_b, iI_v, jI_v, ↓reduceIte, ite_true, ite_false, Int.reduceEq, Int.reduceLT, Int.reduceLE, Int.reduceAdd, Int.reduceSub, Int.reduceMul, Int.reduceNeg, not_true_eq_false, not_false_eq_true, u, h42, q4, bt_i, hb, hs, q1]
      · obtain ⟨ra, rb_⟩ := hrun k (by omega) (by omega) hb
        have k57 : A N 57 k = A M 57 k := cN.a rfl
        have k47 : ∀ i, A N (47 + 1 * (k : Int).toNat) i = A M (47 + 1 * (k : Int).toNat) i := fun i => cN.r (List.range' 47 10) [] rfl (Or.inl (mRg (by omega) (by omega)))
        obtain ⟨N1, w1, w2, w3, w4⟩ := c_bits_l hF hg (s := s) (r := k) (j := pcs s k) (n := A M 57 k) (c := c) c1 (by omega) (by omega) (by omega) (by omega) ra (o := fun i => A M (47 + 1 * (k : Int).toNat) i) rb_ (A M 57 k).toNat 0 N (by omega) k57 h42 (fun i i0 i1 => k47 i) hr
        obtain ⟨N2, e2⟩ : ∃ y : am_M, y = W_ (W_ N1 58 (pcs s k) k) 42 7 (pcs s k + 1) := ⟨_, rfl⟩
        have c2 : Ch [58, 59] [(42, 7)] M N2 := by
          rw [e2]; exact (((cN.trans (w2.mono rfl)).wm (Or.inl (by decide))).wm (Or.inr (by decide)))
        have e59 : ∀ z, A N2 59 z = A N1 59 z := fun z => by rw [e2, A_Wn (by decide), A_Wn (by decide)]
        obtain ⟨N', q1, q2⟩ := ih (k + 1) N2 (by omega) c2 (by rw [et, hb, e2, A_Ws (by omega) (by omega)]) (fun l l0 l1 => by rw [e59]; exact w3 l l0 l1) (fun r r0 r1 rb => by
          by_cases e : r = k
          · rw [e, Int.toNat_natCast, e2, A_Wn (by decide), A_Ws (by omega) (by omega)]
          · have hlt : pcs s r.toNat < pcs s k := by
              have a := pcs_mono (s := s) (x := r.toNat + 1) (y := k) (by omega)
              have b : pcs s (r.toNat + 1) = pcs s r.toNat + bt s (r.toNat : Int) := rfl
              rw [Int.toNat_of_nonneg r0, rb] at b
              omega
            have pr2 := pcs_r (s := s) r.toNat
            rw [e2, A_Wn (by decide), A_Wo (by omega) (by omega) (by omega), w2.a (a := 58) rfl]
            exact h58 r r0 (by omega) rb) (fun l r l0 l1 r0 r1 rb => by
          rw [e59]
          by_cases e : r = k
          · rw [e, Int.toNat_natCast, w4 l (pcs s k) l0 l1 (by omega) (by omega)]
            exact ⟨fun h => (h.resolve_left (hz l (pcs s k) l0 l1 (Int.le_refl _) (by omega))).2.elim (fun x hx => ⟨x, by omega, hx.2.1, hx.2.2⟩), fun ⟨x, x0, x1, x2⟩ => Or.inr ⟨rfl, x, by omega, x1, x2⟩⟩
          · have hlt : pcs s r.toNat < pcs s k := by
              have a := pcs_mono (s := s) (x := r.toNat + 1) (y := k) (by omega)
              have b : pcs s (r.toNat + 1) = pcs s r.toNat + bt s (r.toNat : Int) := rfl
              rw [Int.toNat_of_nonneg r0, rb] at b
              omega
            have pr2 := pcs_r (s := s) r.toNat
            rw [w4 l (pcs s r.toNat) l0 l1 (by omega) (by omega), ← h59 l r l0 l1 r0 (by omega) rb]
            exact ⟨fun h => h.resolve_right (fun h => by omega), Or.inl⟩) (fun l i l0 l1 i0 i1 h => by
          rw [et, hb] at i0
          rw [e59, w4 l i l0 l1 (by omega) i1] at h
          rcases h with h | h
          · exact hz l i l0 l1 (by omega) i1 h
          · omega)
        refine ⟨N', ?_, q2⟩
        have f57 : A N1 57 k = A M 57 k := by rw [w2.a (a := 57) rfl]; exact k57
        have f42 : A N1 42 7 = pcs s k := by rw [w2.f (a := 42) (z := 7) rfl]; exact h42
        have last : F 37 57 [.ref 42, .int (iI s), .int (iI k), .int (iI (A M 57 k))] [] N1 = some (none, N') := by
          have uu : A M 57 k ≤ A M 57 k := Int.le_refl _
          refine s_Links_gather_57 hF hg ?_
          simp (config := { maxSteps := 1000000 }) (disch := (first | omega | decide | assumption)) only [ltm_s, ok_n, rd_i, rd_j, fd_i, fd_j, wr_i, wr_j, fw_i, fw_j, ci_s, cj_s, cv_s, dv_n, dw_n, rt_1, rt_b, rt_20, rt_21, okb_0, okb_1, okb_b, nar_0, nar_1, nar_b, i_0, i_1, j_0, j_1, i_lit, j_lit, i_n, iI_add, iI_sub, iI_mul, iI_neg, jI_add, jI_sub, jI_mul, jI_neg, sh_1, an_1, xo_1, di_p, dj_p, i_64A, i_64, j_32, lq_ge, lq_lt, lq_le, lq_gt, lq_eq, i_lt, i_le, i_eq, j_eq, iI_A, jI_J, iI_b, iI_v, jI_v, ↓reduceIte, ite_true, ite_false, Int.reduceEq, Int.reduceLT, Int.reduceLE, Int.reduceAdd, Int.reduceSub, Int.reduceMul, Int.reduceNeg, not_true_eq_false, not_false_eq_true, A_Wn, A_WA, A_Wb, A_Ws, A_Wo, A_X, J_W, J_Xn, J_XJ, J_Xs, J_Xo, f57, uu, f42, e2.symm, hs, q1]
        refine s_Links_gather_30 hF hg ?_
        simp (config := { maxSteps := 1000000 }) (disch := (first | omega | decide | assumption)) only [ltm_s, ok_n, rd_i, rd_j, fd_i, fd_j, wr_i, wr_j, fw_i, fw_j, ci_s, cj_s, cv_s, dv_n, dw_n, rt_1, rt_b, rt_20, rt_21, okb_0, okb_1, okb_b, nar_0, nar_1, nar_b, i_0, i_1, j_0, j_1, i_lit, j_lit, i_n, iI_add, iI_sub, iI_mul, iI_neg, jI_add, jI_sub, jI_mul, jI_neg, sh_1, an_1, xo_1, di_p, dj_p, i_64A, i_64, j_32, lq_ge, lq_lt, lq_le, lq_gt, lq_eq, i_lt, i_le, i_eq, j_eq, iI_A, jI_J, iI_b, iI_v, jI_v, ↓reduceIte, ite_true, ite_false, Int.reduceEq, Int.reduceLT, Int.reduceLE, Int.reduceAdd, Int.reduceSub, Int.reduceMul, Int.reduceNeg, not_true_eq_false, not_false_eq_true, u, h42, q4, bt_i, hb]
        exact w1 _ last
end Ga
