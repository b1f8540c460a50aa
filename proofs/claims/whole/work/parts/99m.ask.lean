/-! ASK, what it needs -/
section Ak
variable {M0 M N N' M' X : am_M} {g : am_G} {F : am_FT}
theorem Ag.ww (h : Ag M N) {a : Nat} {z v : Int} : Ag (W_ M a z v) (W_ N a z v) := fun b k hb => by
  refine ⟨?_, (h b k hb).2⟩
  show (if b = a ∧ k = z.toNat then iI v else N.1 b k) = (if b = a ∧ k = z.toNat then iI v else M.1 b k)
  by_cases q : b = a ∧ k = z.toNat
  · rw [if_pos q, if_pos q]
  · rw [if_neg q, if_neg q]; exact (h b k hb).1
/-- row 219 apart -/
theorem ch219 {S S' : List Nat} (h : Ke S N N') (hS : ∀ a, a ∈ S → a = 219 ∨ a ∈ S') (o1 : ∀ z : Int, 71 ≤ z → A N' 219 z = A N 219 z) (o2 : ∀ z : Int, 0 ≤ z → z < 56 → A N' 219 z = A N 219 z) (o3 : ∀ z : Int, 0 ≤ z → z < 56 ∨ 71 ≤ z → J N' 219 z = J N 219 z) : Ch S' [(219, 56), (219, 57), (219, 58), (219, 59), (219, 60), (219, 61), (219, 62), (219, 63), (219, 64), (219, 65), (219, 66), (219, 67), (219, 68), (219, 69), (219, 70)] N N' := fun a z ha hz => by
  by_cases q : a = 219
  · subst q
    have hz' : z < 56 ∨ 71 ≤ z := by
      simp only [List.mem_cons, Prod.mk.injEq, true_and, List.not_mem_nil, or_false] at hz
      omega
    refine ⟨?_, fun j => ?_⟩
    · have h : A N' 219 (z : Int) = A N 219 (z : Int) := by
        rcases hz' with h | h
        · exact o2 z (by omega) (by omega)
        · exact o1 z (by omega)
      unfold A at h
      rw [Int.toNat_natCast] at h
      exact Int32.toInt_inj.mp h
    · have h' := o3 (z : Int) (by omega) (by omega)
      unfold J at h'
      rw [Int.toNat_natCast] at h'
      exact Int64.toInt_inj.mp h'
  · have e := h a (fun q2 => by
      rcases hS a q2 with y | y
      · exact q y
      · exact ha y)
    exact ⟨congrFun e.1 z, fun _ => congrFun e.2 z⟩
theorem tot_eq (e1 : ∀ z, A X 253 z = A M 253 z) (e2 : ∀ z, A X 254 z = A M 254 z) (e3 : ∀ z, A X 255 z = A M 255 z) (V : Int → Int) : ∀ n : Nat, tot X V n = tot M V n
  | 0 => rfl
  | n + 1 => by
    show tot X V n + ddr X V n = tot M V n + ddr M V n
    rw [tot_eq e1 e2 e3 V n]
    unfold ddr
    simp only [e1, e2, e3]
theorem mkx_eq (e0 : A X 219 45 = A M 219 45) (e1 : ∀ z, A X 253 z = A M 253 z) (e2 : ∀ z, A X 254 z = A M 254 z) (e3 : ∀ z, A X 255 z = A M 255 z) (V : Int → Int) : mkx X V = mkx M V := by
  unfold mkx
  rw [e0, tot_eq e1 e2 e3 V]
/-- the said legs are written down -/
theorem m_ask_l (hF : F = am_F T0 g) (hg : GG g) {n L : Int} (n0 : 0 ≤ n) (n1 : n < 24) (L1 : L ≤ 80) : ∀ (m j : Nat) (N : am_M), (j : Int) + m = L → A N 219 64 = L → A N 219 49 = n → (∀ i : Int, 0 ≤ i → i < (j : Int) → A N 257 (80 * n + i) = A N 264 i) → ∃ N' : am_M, (∀ R, F 271 145 [.ref 219, .int (iI L)] [] N' = some R → F 271 145 [.ref 219, .int (iI j)] [] N = some R) ∧ Ke [257] N N' ∧ (∀ i : Int, 0 ≤ i → i < L → A N' 257 (80 * n + i) = A N 264 i) ∧ ∀ z : Int, 0 ≤ z → z < 80 * n ∨ 80 * n + 80 ≤ z → A N' 257 z = A N 257 z := by
  intro m
  induction m with
  | zero =>
    intro j N hj h64 h49 h
    have e : (j : Int) = L := by omega
    exact ⟨N, fun R hR => by rw [e]; exact hR, Ke.refl, fun i i0 i1 => h i i0 (by omega), fun _ _ _ => rfl⟩
  | succ m ih =>
    intro j N hj h64 h49 h
    have u : ¬ L ≤ (j : Int) := by omega
    have hs : (j : Int) + 1 = ((j + 1 : Nat) : Int) := by omega
    obtain ⟨N', q1, q2, q3, q4⟩ := ih (j + 1) (W_ N 257 (80 * n + j) (A N 264 j)) (by omega) (by rw [A_Wn (by decide)]; exact h64) (by rw [A_Wn (by decide)]; exact h49) (fun i i0 i1 => by
      by_cases e : i = j
      · rw [e, A_WA, A_Wn (by decide)]
      · rw [A_Wo (by omega) (by omega) (by omega), A_Wn (by decide)]; exact h i i0 (by omega))
    refine ⟨N', fun R hR => ?_, (Ke.refl.w (by decide)).trans q2, fun i i0 i1 => by rw [q3 i i0 i1, A_Wn (by decide)], fun z z0 z1 => by rw [q4 z z0 z1, A_Wo (by omega) z0 (by omega)]⟩
    refine s_Model_ask_145 hF hg ?_
    simp (config := { maxSteps := 1000000 }) (disch := (first | omega | decide | assumption)) only [ltm_s, ok_n, rd_i, rd_j, fd_i, fd_j, wr_i, wr_j, fw_i, fw_j, ci_s, cj_s, cv_s, dv_n, dw_n, rt_1, rt_b, rt_20, rt_21, okb_0, okb_1, okb_b, nar_0, nar_1, nar_b, i_0, i_1, j_0, j_1, i_lit, j_lit, i_n, iI_add, iI_sub, iI_mul, iI_neg, jI_add, jI_sub, jI_mul, jI_neg, sh_1, an_1, xo_1, di_p, dj_p, i_64A, i_64, j_32, lq_ge, lq_lt, lq_le, lq_gt, lq_eq, i_lt, i_le, i_eq, j_eq, iI_A, jI_J, iI_b, iI_v, jI_v, ↓reduceIte, ite_true, ite_false, Int.reduceEq, Int.reduceLT, Int.reduceLE, Int.reduceAdd, Int.reduceSub, Int.reduceMul, Int.reduceNeg, not_true_eq_false, not_false_eq_true, h64, h49, u, hs]
    exact q1 R hR
/-- M, but for some rows of N -/
def mixr (M N : am_M) : am_M := (fun a k => if 256 ≤ a ∧ a ≤ 258 then N.1 a k else M.1 a k, fun a k => if 256 ≤ a ∧ a ≤ 258 then N.2 a k else M.2 a k)
theorem mixr_ch : Ch [256, 257, 258] [] M (mixr M N) := fun a k ha _ => by
  have h : ¬ (256 ≤ a ∧ a ≤ 258) := fun h => ha (by simp only [List.mem_cons, List.not_mem_nil, or_false]; omega)
  refine ⟨?_, fun _ => ?_⟩
  · show (if 256 ≤ a ∧ a ≤ 258 then N.1 a k else M.1 a k) = _
    rw [if_neg h]
  · show (if 256 ≤ a ∧ a ≤ 258 then N.2 a k else M.2 a k) = _
    rw [if_neg h]
theorem mixr_ag (h : Ag M N') (k : Ke [256, 257, 258] N' N) : Ag (mixr M N) N := fun a j hs => by
  by_cases q : 256 ≤ a ∧ a ≤ 258
  · refine ⟨?_, ?_⟩
    · show _ = (if 256 ≤ a ∧ a ≤ 258 then N.1 a j else M.1 a j)
      rw [if_pos q]
    · show _ = (if 256 ≤ a ∧ a ≤ 258 then N.2 a j else M.2 a j)
      rw [if_pos q]
  · have e := k a (fun y => q (by simp only [List.mem_cons, List.not_mem_nil, or_false] at y; omega))
    refine ⟨?_, ?_⟩
    · show _ = (if 256 ≤ a ∧ a ≤ 258 then N.1 a j else M.1 a j)
      rw [if_neg q, congrFun e.1 j]
      exact (h a j hs).1
    · show _ = (if 256 ≤ a ∧ a ≤ 258 then N.2 a j else M.2 a j)
      rw [if_neg q, congrFun e.2 j]
      exact (h a j hs).2
end Ak
