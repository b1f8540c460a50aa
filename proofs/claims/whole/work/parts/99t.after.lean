/-! HELD AFTER a row, the class's count -/
section Ha
variable {M0 M N M' : am_M} {g : am_G} {F : am_FT}
theorem c_after_l (hF : F = am_F T0 g) (hg : GG g) {a : Nat} (ha : isPu g a) {n first day K c : Int} {h : Int → Int → Prop} (n4 : 0 ≤ n ∧ n ≤ 4) (hc : A N 42 2 = c) (c0 : 0 ≤ c) (c1 : c ≤ 200) (hK : A N a 0 = K) (k0 : 0 ≤ K) (k30 : K ≤ 30) (ht : ∀ l : Int, 0 ≤ l → l < c → (0 ≤ A N (a + 1) l ∧ A N (a + 1) l ≤ 6) ∧ 0 ≤ A N (a + 2) l ∧ A N (a + 2) l ≤ 1000) (f0 : 0 ≤ first ∧ first ≤ 900) (y0 : 0 ≤ day) (y1 : day ≤ 2000) (hb : ∀ l i : Int, 0 ≤ l → l < c → 0 ≤ i → i < n → (0 ≤ A N 60 i ∧ A N 60 i < 4) ∧ (bt (A N 59 l) (A N 60 i) = 1 ↔ h l i)) : ∀ m k : Nat, (k : Int) + m = c → F 175 6 [.ref 42, .ref a, .int (iI n), .int (iI first), .int (iI day), .int (iI (cn (fun l => 0 < A N (a + 1) l + cn (h l) n.toNat ∧ lsd (h l) (A N (a + 2) l) first n.toNat ≤ day ∧ day ≤ lsd (h l) (A N (a + 2) l) first n.toNat + sl K (min6 (A N (a + 1) l + cn (h l) n.toNat) - 1)) k)), .int (iI k)] [] N = some (some (.int (iI (cn (fun l => 0 < A N (a + 1) l + cn (h l) n.toNat ∧ lsd (h l) (A N (a + 2) l) first n.toNat ≤ day ∧ day ≤ lsd (h l) (A N (a + 2) l) first n.toNat + sl K (min6 (A N (a + 1) l + cn (h l) n.toNat) - 1)) c.toNat))), N) := by
  intro m
  induction m with
  | zero =>
    intro k hk
    have e : c.toNat = k := by omega
    have u : c ≤ (k : Int) := by omega
    rw [e]
    refine s_Links_heldAfter_6 hF hg ha ?_
    simp (config := { maxSteps := 1000000 }) (disch := (first | omega | decide | assumption)) only [ltm_s, ok_n, rd_i, rd_j, fd_i, fd_j, wr_i, wr_j, fw_i, fw_j, ci_s, cj_s, cv_s, dv_n, dw_n, rt_1, rt_b, rt_20, rt_21, okb_0, okb_1, okb_b, nar_0, nar_1, nar_b, i_0, i_1, j_0, j_1, i_lit, j_lit, i_n, iI_add, iI_sub, iI_mul, iI_neg, jI_add, jI_sub, jI_mul, jI_neg, sh_1, an_1, xo_1, di_p, dj_p, i_64A, i_64, j_32, lq_ge, lq_lt, lq_le, lq_gt, lq_eq, i_lt, i_le, i_eq, j_eq, iI_A, jI_J, iI_b, iI_v, jI_v, ↓reduceIte, ite_true, ite_false, Int.reduceEq, Int.reduceLT, Int.reduceLE, Int.reduceAdd, Int.reduceSub, Int.reduceMul, Int.reduceNeg, not_true_eq_false, not_false_eq_true, hc, u]
  | succ m ih =>
    intro k hk
    have u : ¬ c ≤ (k : Int) := by omega
    have hs : (k : Int) + 1 = ((k + 1 : Nat) : Int) := by omega
    have i1 := ih (k + 1) (by omega)
    rw [← hs] at i1
    have tk := ht k (by omega) (by omega)
    have ai := c_after_i hF hg ha (N := N) (n := n) (first := first) (day := day) (held := cn (fun l => 0 < A N (a + 1) l + cn (h l) n.toNat ∧ lsd (h l) (A N (a + 2) l) first n.toNat ≤ day ∧ day ≤ lsd (h l) (A N (a + 2) l) first n.toNat + sl K (min6 (A N (a + 1) l + cn (h l) n.toNat) - 1)) k) (l := k) (T := A N (a + 1) k) (D := A N (a + 2) k) (h := h k) n4 hK k0 k30 tk.1 tk.2 f0 y0 y1 (by omega) (by omega) (fun i i0 i1 => hb k i (by omega) (by omega) i0 i1) i1 rfl n.toNat 0 (by omega)
    have e1 : cn (h k) 0 = 0 := rfl
    have e2 : lsd (h k) (A N (a + 2) k) first 0 = A N (a + 2) k := rfl
    rw [e1, e2, Int.add_zero] at ai
    refine s_Links_heldAfter_6 hF hg ha ?_
    simp (config := { maxSteps := 1000000 }) (disch := (first | omega | decide | assumption)) only [ltm_s, ok_n, rd_i, rd_j, fd_i, fd_j, wr_i, wr_j, fw_i, fw_j, ci_s, cj_s, cv_s, dv_n, dw_n, rt_1, rt_b, rt_20, rt_21, okb_0, okb_1, okb_b, nar_0, nar_1, nar_b, i_0, i_1, j_0, j_1, i_lit, j_lit, i_n, iI_add, iI_sub, iI_mul, iI_neg, jI_add, jI_sub, jI_mul, jI_neg, sh_1, an_1, xo_1, di_p, dj_p, i_64A, i_64, j_32, lq_ge, lq_lt, lq_le, lq_gt, lq_eq, i_lt, i_le, i_eq, j_eq, iI_A, jI_J, iI_b, iI_v, jI_v, ↓reduceIte, ite_true, ite_false, Int.reduceEq, Int.reduceLT, Int.reduceLE, Int.reduceAdd, Int.reduceSub, Int.reduceMul, Int.reduceNeg, not_true_eq_false, not_false_eq_true, hc, u]
    exact ai
theorem c_heldAfter (hF : F = am_F T0 g) (hg : GG g) {a : Nat} (ha : isPu g a) {n first day K c : Int} {h : Int → Int → Prop} (n4 : 0 ≤ n ∧ n ≤ 4) (hc : A N 42 2 = c) (c0 : 0 ≤ c) (c1 : c ≤ 200) (hK : A N a 0 = K) (k0 : 0 ≤ K) (k30 : K ≤ 30) (ht : ∀ l : Int, 0 ≤ l → l < c → (0 ≤ A N (a + 1) l ∧ A N (a + 1) l ≤ 6) ∧ 0 ≤ A N (a + 2) l ∧ A N (a + 2) l ≤ 1000) (f0 : 0 ≤ first ∧ first ≤ 900) (y0 : 0 ≤ day) (y1 : day ≤ 2000) (hb : ∀ l i : Int, 0 ≤ l → l < c → 0 ≤ i → i < n → (0 ≤ A N 60 i ∧ A N 60 i < 4) ∧ (bt (A N 59 l) (A N 60 i) = 1 ↔ h l i)) : F 175 0 [.ref 42, .ref a, .int (iI n), .int (iI first), .int (iI day)] [] N = some (some (.int (iI (cn (fun l => 0 < A N (a + 1) l + cn (h l) n.toNat ∧ lsd (h l) (A N (a + 2) l) first n.toNat ≤ day ∧ day ≤ lsd (h l) (A N (a + 2) l) first n.toNat + sl K (min6 (A N (a + 1) l + cn (h l) n.toNat) - 1)) c.toNat))), N) := by
  refine s_Links_heldAfter hF hg ha ?_
  exact c_after_l hF hg ha n4 hc c0 c1 hK k0 k30 ht f0 y0 y1 hb c.toNat 0 (by omega)
end Ha
