/-! ONE ROW of a plan, ridden, by both -/
section Or
variable {M0 M N M' : am_M} {g : am_G} {F : am_FT}
def min6 (x : Int) : Int := if 6 < x then 6 else x
/-- the last day on which it was ridden -/
noncomputable def lsd (h : Int → Prop) (D first : Int) : Nat → Int
  | 0 => D
  | k + 1 => if bI (h k) = 1 then first + k else lsd h D first k
theorem lsd_cg {h h2 : Int → Prop} {D first : Int} : ∀ {n : Nat}, (∀ k : Int, 0 ≤ k → k < (n : Int) → (h k ↔ h2 k)) → lsd h D first n = lsd h2 D first n
  | 0, _ => rfl
  | n + 1, e => by
    show (if bI (h n) = 1 then first + n else lsd h D first n) = (if bI (h2 n) = 1 then first + n else lsd h2 D first n)
    rw [bI_cg (e n (by omega) (by omega)), lsd_cg (n := n) fun k k0 k1 => e k k0 (by omega)]
theorem lsd_r {h : Int → Prop} {D first : Int} (d0 : 0 ≤ D ∧ D ≤ 1000) (f0 : 0 ≤ first ∧ first ≤ 900) : ∀ {n : Nat}, n ≤ 4 → 0 ≤ lsd h D first n ∧ lsd h D first n ≤ 1000
  | 0, _ => d0
  | n + 1, e => by
    have := lsd_r (h := h) d0 f0 (n := n) (by omega)
    show 0 ≤ (if bI (h n) = 1 then first + n else lsd h D first n) ∧ (if bI (h n) = 1 then first + n else lsd h D first n) ≤ 1000
    split <;> omega
theorem m_row_l (hF : F = am_F T0 g) (hg : GG g) {p n day m rows best row today c : Int} (p0 : 0 ≤ p) (p3 : p < 4) (n4 : n ≤ 4) (td : 0 ≤ today ∧ today < 300) (h14 : A M 219 14 = today) (hrow : ∀ j : Int, 0 ≤ j → j < n → 0 ≤ A M 272 j ∧ A M 272 j < 10) (hm : ∀ j : Int, 0 ≤ j → j < n → 1 ≤ A M 247 (A M 272 j) ∧ A M 247 (A M 272 j) ≤ 21) (hleg : ∀ j i : Int, 0 ≤ j → j < n → 0 ≤ i → i < A M 247 (A M 272 j) → 0 ≤ A M 248 (21 * A M 272 j + i) ∧ A M 248 (21 * A M 272 j + i) < 80) (ht : ∀ z : Int, 0 ≤ z → z < 25600 → 0 ≤ A M 251 z ∧ A M 251 z ≤ 6) : ∀ k : Nat, (k : Int) ≤ n → ∃ N' : am_M, (∀ R, F 191 205 [.ref 219, .int (iI p), .int (iI n), .int (iI day), .int (iI m), .int (iI rows), .int (iI best), .int (iI row), .int (iI k)] [] N' = some R → F 191 205 [.ref 219, .int (iI p), .int (iI n), .int (iI day), .int (iI m), .int (iI rows), .int (iI best), .int (iI row), .int (iI 0)] [] M = some R) ∧ Ch [251, 252] [] M N' ∧ (∀ z : Int, 0 ≤ z → z < 25600 → 0 ≤ A N' 251 z ∧ A N' 251 z ≤ 6) ∧ (∀ t : Int, 0 ≤ t → t < 6400 → A N' 251 (6400 * p + t) = min6 (A M 251 (6400 * p + t) + cn (fun j => inR M (A M 272 j) t) k) ∧ A N' 252 (6400 * p + t) = lsd (fun j => inR M (A M 272 j) t) (A M 252 (6400 * p + t)) today k) ∧ ∀ z : Int, 0 ≤ z → z < 6400 * p ∨ 6400 * p + 6400 ≤ z → A N' 251 z = A M 251 z ∧ A N' 252 z = A M 252 z := by
  intro k
  induction k with
  | zero =>
    intro _
    refine ⟨M, fun R hR => hR, Ch.refl, ht, fun t t0 t1 => ⟨?_, rfl⟩, fun _ _ _ => ⟨rfl, rfl⟩⟩
    have e : cn (fun j => inR M (A M 272 j) t) 0 = 0 := rfl
    have := ht (6400 * p + t) (by omega) (by omega)
    rw [e]
    unfold min6
    split <;> omega
  | succ k ih =>
    intro hk
    obtain ⟨N1, q1, q2, q3, q4, q5⟩ := ih (by omega)
    have u : ¬ n ≤ (k : Int) := by omega
    have hs : (k : Int) + 1 = ((k + 1 : Nat) : Int) := by omega
    have rk := hrow k (by omega) (by omega)
    have e247 : ∀ z, A N1 247 z = A M 247 z := fun z => q2.a rfl
    have e248 : ∀ z, A N1 248 z = A M 248 z := fun z => q2.a rfl
    have e272 : ∀ z, A N1 272 z = A M 272 z := fun z => q2.a rfl
    have e14 : A N1 219 14 = today := by rw [q2.f (a := 219) (z := 14) rfl]; exact h14
    obtain ⟨N2, w1, w2, w3, w4, w5⟩ := m_rides hF hg (M := N1) (p := p) (r := A M 272 k) (day := today + k) p0 p3 rk.1 rk.2 (by omega) (by omega) (by rw [e247]; exact hm k (by omega) (by omega)) (fun j j0 j1 => by
      rw [e247] at j1
      rw [e248]
      exact hleg k j (by omega) (by omega) j0 j1) q3
    have eR : ∀ t, inR N1 (A M 272 k) t ↔ inR M (A M 272 k) t := fun t => by
      unfold inR lkn
      simp only [e247, e248]
    refine ⟨N2, fun R hR => q1 R ?_, q2.trans w2, w3, fun t t0 t1 => ?_, fun z z0 z1 => ?_⟩
    · refine s_Model_plan_205 hF hg ?_
      simp (config := { maxSteps := 1000000 }) (disch := (first | omega | decide | assumption)) only [ltm_s, ok_n, rd_i, rd_j, fd_i, fd_j, wr_i, wr_j, fw_i, fw_j, ci_s, cj_s, cv_s, dv_n, dw_n, rt_1, rt_b, rt_20, rt_21, okb_0, okb_1, okb_b, nar_0, nar_1, nar_b, i_0, i_1, j_0, j_1, i_lit, j_lit, i_n, iI_add, iI_sub, iI_mul, iI_neg, jI_add, jI_sub, jI_mul, jI_neg, sh_1, an_1, xo_1, di_p, dj_p, i_64A, i_64, j_32, lq_ge, lq_lt, lq_le, lq_gt, lq_eq, i_lt, i_le, i_eq, j_eq, iI_A, jI_J, iI_b, iI_v, jI_v, ↓reduceIte, ite_true, ite_false, Int.reduceEq, Int.reduceLT, Int.reduceLE, Int.reduceAdd, Int.reduceSub, Int.reduceMul, Int.reduceNeg, not_true_eq_false, not_false_eq_true, u, e272, e14, w1, hs]
      exact hR
    · have h := w4 t t0 t1
      have o := q4 t t0 t1
      have ec : cn (fun j => inR M (A M 272 j) t) (k + 1) = cn (fun j => inR M (A M 272 j) t) k + bI (inR M (A M 272 k) t) := rfl
      have el : lsd (fun j => inR M (A M 272 j) t) (A M 252 (6400 * p + t)) today (k + 1) = if bI (inR M (A M 272 k) t) = 1 then today + k else lsd (fun j => inR M (A M 272 j) t) (A M 252 (6400 * p + t)) today k := rfl
      rw [ec, el]
      by_cases y : inR M (A M 272 k) t
      · have h2 := h.1 ((eR t).mpr y)
        rw [h2.1, h2.2, o.1, bI_t y, if_pos rfl]
        refine ⟨?_, rfl⟩
        unfold up6 min6
        (repeat' split) <;> omega
      · have h2 := h.2 (fun x => y ((eR t).mp x))
        rw [h2.1, h2.2, o.1, o.2, bI_f y, if_neg (by omega), Int.add_zero]
        exact ⟨rfl, rfl⟩
    · have h := w5 z z0 z1
      have o := q5 z z0 z1
      rw [h.1, h.2]
      exact o
/-- the class, for one link -/
theorem c_after_i (hF : F = am_F T0 g) (hg : GG g) {a : Nat} (ha : isPu g a) {n first day held l T D K : Int} {h : Int → Prop} (n4 : 0 ≤ n ∧ n ≤ 4) (hK : A N a 0 = K) (k0 : 0 ≤ K) (k30 : K ≤ 30) (t0 : 0 ≤ T ∧ T ≤ 6) (d0 : 0 ≤ D ∧ D ≤ 1000) (f0 : 0 ≤ first ∧ first ≤ 900) (y0 : 0 ≤ day) (y1 : day ≤ 2000) (l0 : 0 ≤ l) (l1 : l < 200) (hb : ∀ i : Int, 0 ≤ i → i < n → (0 ≤ A N 60 i ∧ A N 60 i < 4) ∧ (bt (A N 59 l) (A N 60 i) = 1 ↔ h i)) {R : Option am_R} (hR : F 175 6 [.ref 42, .ref a, .int (iI n), .int (iI first), .int (iI day), .int (iI (held + bI (0 < T + cn h n.toNat ∧ lsd h D first n.toNat ≤ day ∧ day ≤ lsd h D first n.toNat + sl K (min6 (T + cn h n.toNat) - 1)))), .int (iI (l + 1))] [] N = R) {r : am_R} (er : R = some r) : ∀ m k : Nat, (k : Int) + m = n → F 175 36 [.ref 42, .ref a, .int (iI n), .int (iI first), .int (iI day), .int (iI held), .int (iI l), .int (iI (T + cn h k)), .int (iI (lsd h D first k)), .int (iI k)] [] N = some r := by
  subst er
  intro m
  induction m with
  | zero =>
    intro k hk
    have e : n.toNat = k := by omega
    rw [e] at hR
    have u : n ≤ (k : Int) := by omega
    have cb := cn_b (C := h) k
    have lr := lsd_r (h := h) d0 f0 (n := k) (by omega)
    have hw := c_wouldHold hF hg ha (M := N) (T := T + cn h k) (D := lsd h D first k) (day := day) hK k0 k30 (by omega) (by omega) lr.1 (by omega) y0 (by omega)
    have em : (if 6 < T + cn h k then 6 else T + cn h k) = min6 (T + cn h k) := rfl
    rw [em] at hw
    refine s_Links_heldAfter_36 hF hg ha ?_
    by_cases q : 0 < T + cn h k ∧ lsd h D first k ≤ day ∧ day ≤ lsd h D first k + sl K (min6 (T + cn h k) - 1)
    · rw [bI_t q] at hw hR
      simp (config := { maxSteps := 1000000 }) (disch := (first | omega | decide | assumption)) only [ltm_s, ok_n, rd_i, rd_j, fd_i, fd_j, wr_i, wr_j, fw_i, fw_j, ci_s, cj_s, cv_s, dv_n, dw_n, rt_1, rt_b, rt_20, rt_21, okb_0, okb_1, okb_b, nar_0, nar_1, nar_b, i_0, i_1, j_0, j_1, i_lit, j_lit, i_n, iI_add, iI_sub, iI_mul, iI_neg, jI_add, jI_sub, jI_mul, jI_neg, sh_1, an_1, xo_1, di_p, dj_p, i_64A, i_64, j_32, lq_ge, lq_lt, lq_le, lq_gt, lq_eq, i_lt, i_le, i_eq, j_eq, iI_A, jI_J, iI_b, iI_v, jI_v, ↓reduceIte, ite_true, ite_false, Int.reduceEq, Int.reduceLT, Int.reduceLE, Int.reduceAdd, Int.reduceSub, Int.reduceMul, Int.reduceNeg, not_true_eq_false, not_false_eq_true, u, hw]
      exact hR
    · rw [bI_f q] at hw hR
      rw [Int.add_zero] at hR
      simp (config := { maxSteps := 1000000 }) (disch := (first | omega | decide | assumption)) only [ltm_s, ok_n, rd_i, rd_j, fd_i, fd_j, wr_i, wr_j, fw_i, fw_j, ci_s, cj_s, cv_s, dv_n, dw_n, rt_1, rt_b, rt_20, rt_21, okb_0, okb_1, okb_b, nar_0, nar_1, nar_b, i_0, i_1, j_0, j_1, i_lit, j_lit, i_n, iI_add, iI_sub, iI_mul, iI_neg, jI_add, jI_sub, jI_mul, jI_neg, sh_1, an_1, xo_1, di_p, dj_p, i_64A, i_64, j_32, lq_ge, lq_lt, lq_le, lq_gt, lq_eq, i_lt, i_le, i_eq, j_eq, iI_A, jI_J, iI_b, iI_v, jI_v, ↓reduceIte, ite_true, ite_false, Int.reduceEq, Int.reduceLT, Int.reduceLE, Int.reduceAdd, Int.reduceSub, Int.reduceMul, Int.reduceNeg, not_true_eq_false, not_false_eq_true, u, hw]
      exact hR
  | succ m ih =>
    intro k hk
    have u : ¬ n ≤ (k : Int) := by omega
    have hs : (k : Int) + 1 = ((k + 1 : Nat) : Int) := by omega
    have ih' := ih (k + 1) (by omega)
    obtain ⟨b1, b2⟩ := hb k (by omega) (by omega)
    have ec : cn h (k + 1) = cn h k + bI (h k) := rfl
    have el : lsd h D first (k + 1) = if bI (h k) = 1 then first + k else lsd h D first k := rfl
    rw [ec, el] at ih'
    refine s_Links_heldAfter_36 hF hg ha ?_
    by_cases q : h k
    · rw [bI_t q, if_pos rfl, show T + (cn h k + 1) = T + cn h k + 1 by omega] at ih'
      have b3 := b2.mpr q
      simp (config := { maxSteps := 1000000 }) (disch := (first | omega | decide | assumption)) only [ltm_s, ok_n, rd_i, rd_j, fd_i, fd_j, wr_i, wr_j, fw_i, fw_j, ci_s, cj_s, cv_s, dv_n, dw_n, rt_1, rt_b, rt_20, rt_21, okb_0, okb_1, okb_b, nar_0, nar_1, nar_b, i_0, i_1, j_0, j_1, i_lit, j_lit, i_n, iI_add, iI_sub, iI_mul, iI_neg, jI_add, jI_sub, jI_mul, jI_neg, sh_1, an_1, xo_1, di_p, dj_p, i_64A, i_64, j_32, lq_ge, lq_lt, lq_le, lq_gt, lq_eq, i_lt, i_le, i_eq, j_eq, iI_A, jI_J, iI_b, iI_v, jI_v, ↓reduceIte, ite_true, ite_false, Int.reduceEq, Int.reduceLT, Int.reduceLE, Int.reduceAdd, Int.reduceSub, Int.reduceMul, Int.reduceNeg, not_true_eq_false, not_false_eq_true, u, bt_i, b3, hs, ih']
    · rw [bI_f q, if_neg (by omega), Int.add_zero] at ih'
      have b3 : ¬ bt (A N 59 l) (A N 60 k) = 1 := fun x => q (b2.mp x)
      have b4 : bt (A N 59 l) (A N 60 k) = 0 := by
        rcases bt_01 (x := A N 59 l) (i := A N 60 k) with x | x
        · exact x
        · exact absurd x b3
      simp (config := { maxSteps := 1000000 }) (disch := (first | omega | decide | assumption)) only [ltm_s, ok_n, rd_i, rd_j, fd_i, fd_j, wr_i, wr_j, fw_i, fw_j, ci_s, cj_s, cv_s, dv_n, dw_n, rt_1, rt_b, rt_20, rt_21, okb_0, okb_1, okb_b, nar_0, nar_1, nar_b, i_0, i_1, j_0, j_1, i_lit, j_lit, i_n, iI_add, iI_sub, iI_mul, iI_neg, jI_add, jI_sub, jI_mul, jI_neg, sh_1, an_1, xo_1, di_p, dj_p, i_64A, i_64, j_32, lq_ge, lq_lt, lq_le, lq_gt, lq_eq, i_lt, i_le, i_eq, j_eq, iI_A, jI_J, iI_b, iI_v, jI_v, ↓reduceIte, ite_true, ite_false, Int.reduceEq, Int.reduceLT, Int.reduceLE, Int.reduceAdd, Int.reduceSub, Int.reduceMul, Int.reduceNeg, not_true_eq_false, not_false_eq_true, u, bt_i, b4, hs, ih']
end Or
