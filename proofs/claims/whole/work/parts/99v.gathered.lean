/-! GATHER, as a whole -/
section Gw
variable {M0 M N M' : am_M} {g : am_G} {F : am_FT}
/-- the set's runs are said runs -/
theorem set_said {s c r : Int} (s0 : 0 ≤ s) (c0 : 0 ≤ c) (c1 : c ≤ 10) (h : s < p2 c) (r0 : 0 ≤ r) (r1 : r < 10) (hb : bt s r = 1) : r < c := by
  by_cases q : r < c
  · exact q
  · exfalso
    have ec : ((c.toNat : Nat) : Int) = c := by omega
    have pe := (pcs_eq (s := s) (n := c.toNat) s0 (by omega) (by rw [ec]; exact h)).1
    have a := pcs_mono (s := s) (x := c.toNat) (y := r.toNat) (by omega)
    have b : pcs s (r.toNat + 1) = pcs s r.toNat + bt s (r.toNat : Int) := rfl
    rw [Int.toNat_of_nonneg r0, hb] at b
    have d := pcs_mono (s := s) (x := r.toNat + 1) (y := 10) (by omega)
    omega
theorem c_gather (hF : F = am_F T0 g) (hg : GG g) (h14 : I14 M) {s : Int} (s0 : 0 ≤ s) (hs : s < p2 (A M 219 37)) (hsaid : 0 ≤ A M 219 37) (h4 : pcs s 10 ≤ 4) :
    ∃ N' : am_M, F 37 0 [.ref 42, .int (iI s)] [] M = some (none, N') ∧ Ch [58, 59] [(42, 7)] M N' ∧ A N' 42 7 = pcs s 10 ∧ (∀ r : Int, 0 ≤ r → r < 10 → bt s r = 1 → A N' 58 (pcs s r.toNat) = r) ∧ ∀ l r : Int, 0 ≤ l → l < A M 42 2 → 0 ≤ r → r < 10 → bt s r = 1 → (bt (A N' 59 l) (pcs s r.toNat) = 1 ↔ ∃ x : Int, 0 ≤ x ∧ x < A M 57 r ∧ A M (47 + 1 * r.toNat) x = l) := by
  obtain ⟨c1, c2, c3, c4⟩ := h14
  obtain ⟨N1, q1, q2, q3⟩ := c_zero_l hF hg (s := s) (c := A M 42 2) c1.1 (by omega) (A M 42 2).toNat 0 (W_ M 42 7 0) (by omega) (by rw [A_Wo (by omega) (by omega) (by omega)]) (fun l l0 l1 => by omega)
  have cN : Ch [58, 59] [(42, 7)] M N1 := (Ch.refl.wm (Or.inr (by decide))).trans (q2.mono rfl)
  have e0 : pcs s 0 = 0 := rfl
  obtain ⟨N', w1, w2⟩ := c_gath_l hF hg (M := M) (s := s) (c := A M 42 2) c1.1 (by omega) h4 (fun r r0 r1 rb => by
    have hr := set_said s0 hsaid (by omega) hs r0 r1 rb
    obtain ⟨b1, b2, -⟩ := c4 r r0 hr
    exact ⟨b1, fun i i0 i1 => (b2 i i0 i1).1⟩) 10 0 N1 (by omega) cN (by rw [e0, q2.f (a := 42) (z := 7) rfl, A_Ws (by omega) (by omega)]) (fun l l0 l1 => by rw [q3 l l0 l1]; omega) (fun r r0 r1 => by omega) (fun l r l0 l1 r0 r1 => by omega) (fun l i l0 l1 i0 i1 => by
    rw [e0] at i0
    have h := bt_00 i.toNat (by omega)
    rw [Int.toNat_of_nonneg i0] at h
    rw [q3 l l0 l1, h]
    omega)
  refine ⟨N', ?_, w2⟩
  refine s_Links_gather hF hg ?_
  simp (config := { maxSteps := 1000000 }) (disch := (first | omega | decide | assumption)) only [ltm_s, ok_n, rd_i, rd_j, fd_i, fd_j, wr_i, wr_j, fw_i, fw_j, ci_s, cj_s, cv_s, dv_n, dw_n, rt_1, rt_b, rt_20, rt_21, okb_0, okb_1, okb_b, nar_0, nar_1, nar_b, i_0, i_1, j_0, j_1, i_lit, j_lit, i_n, iI_add, iI_sub, iI_mul, iI_neg, jI_add, jI_sub, jI_mul, jI_neg, sh_1, an_1, xo_1, di_p, dj_p, i_64A, i_64, j_32, lq_ge, lq_lt, lq_le, lq_gt, lq_eq, i_lt, i_le, i_eq, j_eq, iI_A, jI_J, iI_b, iI_v, jI_v, ↓reduceIte, ite_true, ite_false, Int.reduceEq, Int.reduceLT, Int.reduceLE, Int.reduceAdd, Int.reduceSub, Int.reduceMul, Int.reduceNeg, not_true_eq_false, not_false_eq_true]
  exact q1 _ w1
end Gw
