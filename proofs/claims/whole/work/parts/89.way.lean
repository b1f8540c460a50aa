/-! WAY: what it changes -/
def B3 (M : am_M) (j : Int) : Prop := (0 ≤ A M 17 j ∧ A M 17 j ≤ nW M) ∧ (nJ M ≤ j → A M 17 j = 0) ∧ (∀ k : Int, 0 ≤ k → k < A M 17 j → (0 ≤ A M 16 (j * 40 + k) ∧ A M 16 (j * 40 + k) < 2 * nW M) ∧ bg M (A M 16 (j * 40 + k)) = j) ∧ (∀ k l : Int, 0 ≤ k → k < l → l < A M 17 j → A M 16 (j * 40 + k) < A M 16 (j * 40 + l)) ∧ ∀ e : Int, 0 ≤ e → e < 2 * nW M → bg M e = j → ∃ k : Int, 0 ≤ k ∧ k < A M 17 j ∧ A M 16 (j * 40 + k) = e
section Lg
variable {M M' : am_M}
theorem legs_one {j x c : Int} (h : B3 M j) (j1 : j < nJ M') (hc : A M 17 j = c) (hc2 : A M' 17 j = c + 1) (hw : nW M' = nW M + 1)
    (same : ∀ k : Int, 0 ≤ k → k < c → A M' 16 (j * 40 + k) = A M 16 (j * 40 + k)) (new : A M' 16 (j * 40 + c) = x) (x0 : 2 * nW M ≤ x) (x1 : x < 2 * nW M + 2) (hn : 0 ≤ nW M) (bx : bg M' x = j)
    (bold : ∀ e : Int, 0 ≤ e → e < 2 * nW M → bg M' e = bg M e) (only : ∀ e : Int, 2 * nW M ≤ e → e < 2 * nW M + 2 → bg M' e = j → e = x) : B3 M' j := by
  obtain ⟨b1, b2, b3, b4, b5⟩ := h
  rw [hc] at b1 b3 b4 b5
  unfold B3
  rw [hc2, hw]
  refine ⟨by omega, fun q => by omega, fun k k0 k1 => ?_, fun k l k0 kl l1 => ?_, fun e e0 e1 q => ?_⟩
  · by_cases q : k = c
    · rw [q, new]; exact ⟨by omega, bx⟩
    · rw [same k k0 (by omega)]
      obtain ⟨y1, y2⟩ := b3 k k0 (by omega)
      exact ⟨by omega, by rw [bold _ y1.1 y1.2]; exact y2⟩
  · by_cases q : l = c
    · rw [q, new, same k k0 (by omega)]
      have := (b3 k k0 (by omega)).1
      omega
    · rw [same k k0 (by omega), same l (by omega) (by omega)]
      exact b4 k l k0 kl (by omega)
  · by_cases q2 : e < 2 * nW M
    · rw [bold e e0 q2] at q
      obtain ⟨k, k0, k1, k2⟩ := b5 e e0 q2 q
      exact ⟨k, k0, by omega, by rw [same k k0 k1]; exact k2⟩
    · exact ⟨c, by omega, by omega, by rw [new]; exact (only e (by omega) (by omega) q).symm⟩
theorem legs_none {j : Int} (h : B3 M j) (hj : nJ M' = nJ M) (hc2 : A M' 17 j = A M 17 j) (hw : nW M' = nW M + 1)
    (same : ∀ k : Int, 0 ≤ k → k < A M 17 j → A M' 16 (j * 40 + k) = A M 16 (j * 40 + k)) (hn : 0 ≤ nW M)
    (bold : ∀ e : Int, 0 ≤ e → e < 2 * nW M → bg M' e = bg M e) (only : ∀ e : Int, 2 * nW M ≤ e → e < 2 * nW M + 2 → ¬ bg M' e = j) : B3 M' j := by
  obtain ⟨b1, b2, b3, b4, b5⟩ := h
  unfold B3
  rw [hc2, hw, hj]
  refine ⟨by omega, b2, fun k k0 k1 => ?_, fun k l k0 kl l1 => ?_, fun e e0 e1 q => ?_⟩
  · rw [same k k0 k1]
    obtain ⟨y1, y2⟩ := b3 k k0 k1
    exact ⟨by omega, by rw [bold _ y1.1 y1.2]; exact y2⟩
  · rw [same k k0 (by omega), same l (by omega) l1]
    exact b4 k l k0 kl l1
  · by_cases q2 : e < 2 * nW M
    · rw [bold e e0 q2] at q
      obtain ⟨k, k0, k1, k2⟩ := b5 e e0 q2 q
      exact ⟨k, k0, k1, by rw [same k k0 k1]; exact k2⟩
    · exact absurd q (only e (by omega) (by omega))
end Lg
section Wy
variable {M0 M M' : am_M} {g : am_G} {F : am_FT}
theorem m_upto (hF : F = am_F T0 g) (hg : GG g) {v c : Int} {a : Nat} {z : Int} (v1 : -2147483648 ≤ v) (v2 : v < 2147483648) (hc : A M a z = c) (c0 : 0 ≤ c) : F 53 0 [.int (iI v), .int 0, .int (fI M a z - 1)] [] M = some (some (.int (iI (bI (0 ≤ v ∧ v ≤ c - 1)))), M) := by
  have c1 := A_hi M a z
  rw [fd_i, hc, show (1 : Int32) = iI 1 from rfl, iI_sub]
  exact m_inn hF hg (l := 0) (h := c - 1) v1 v2 (by omega) (by omega) (by omega) (by omega)
theorem c_upto (hF : F = am_F T0 g) (hg : GG g) {v c : Int} {a : Nat} {z : Int} (v1 : -2147483648 ≤ v) (v2 : v < 2147483648) (hc : A M a z = c) (c0 : 0 ≤ c) : F 72 0 [.int (iI v), .int 0, .int (fI M a z - 1)] [] M = some (some (.int (iI (bI (v < 0 ∨ c - 1 < v)))), M) := by
  have c1 := A_hi M a z
  rw [fd_i, hc, show (1 : Int32) = iI 1 from rfl, iI_sub]
  exact c_outside hF hg (l := 0) (h := c - 1) v1 v2 (by omega) (by omega) (by omega) (by omega)
theorem c_addLeg (hF : F = am_F T0 g) (hg : GG g) {e s t X Y c : Int} (e0 : 0 ≤ e) (e1 : e < 80) (s0 : 0 ≤ s) (s1 : s < 24) (t0 : 0 ≤ t) (t1 : t < 24) (hX : A M 2 t - A M 2 s = X) (hY : A M 3 t - A M 3 s = Y) (hc : A M 17 s = c) (c0 : 0 ≤ c) (c1 : c < 40) :
    F 0 0 [.ref 1, .int (iI e), .int (iI s), .int (iI t)] [] M = some (none, W_ (W_ (W_ (W_ (W_ M 8 e s) 9 e X) 10 e Y) 16 (s * 40 + c) e) 17 s (c + 1)) := by
  refine s_City_addLeg hF hg ?_
  simp (config := { maxSteps := 1000000 }) (disch := (first | omega | decide | assumption)) only [ltm_s, ok_n, rd_i, rd_j, fd_i, fd_j, wr_i, wr_j, fw_i, fw_j, ci_s, cj_s, cv_s, dv_n, dw_n, rt_1, rt_b, rt_20, rt_21, okb_0, okb_1, okb_b, nar_0, nar_1, nar_b, i_0, i_1, j_0, j_1, i_lit, j_lit, i_n, iI_add, iI_sub, iI_mul, iI_neg, jI_add, jI_sub, jI_mul, jI_neg, sh_1, an_1, xo_1, di_p, dj_p, i_64A, i_64, j_32, lq_ge, lq_lt, lq_le, lq_gt, lq_eq, i_lt, i_le, i_eq, j_eq, iI_A, jI_J, iI_b, iI_v, jI_v, ↓reduceIte, ite_true, ite_false, Int.reduceEq, Int.reduceLT, Int.reduceLE, Int.reduceAdd, Int.reduceSub, Int.reduceMul, Int.reduceNeg, not_true_eq_false, not_false_eq_true, A_Wn, A_WA, A_Wb, A_Ws, A_Wo, A_X, J_W, J_Xn, J_XJ, J_Xs, J_Xo, hX, hY, hc]
theorem b_way (hF : F = am_F T0 g) (hg : GG g) (hI : Inv M) {k a b x o : Int} (k1 : -2147483648 ≤ k) (k2 : k < 2147483648) (u1 : -2147483648 ≤ a) (u2 : a < 2147483648) (v1 : -2147483648 ≤ b) (v2 : b < 2147483648) (x1 : -2147483648 ≤ x) (x2 : x < 2147483648) (o1 : -2147483648 ≤ o) (o2 : o < 2147483648) :
    ∃ (r : Int) (M1 M2 : am_M), F 213 0 [.ref 0, .int (iI k), .int (iI a), .int (iI b), .int (iI x), .int (iI o)] [] M = some (some (.int (iI r)), M1) ∧ F 141 0 [.ref 219, .int (iI k), .int (iI a), .int (iI b), .int (iI x), .int (iI o)] [] M1 = some (some (.int (iI r)), M2) ∧ Inv M2 := by
  have hI' := hI
  obtain ⟨h1, h2, h3, h4, h5, h6, h7, h8, h9, h10, h11, h12, h13, h14, h15, h16, h17, h18, h19, hm, ht⟩ := hI
  have hn := h2.1
  have hj := h1.1
  have hth := h10.1
  have hth2 := h10.2.1
  have hd := h4.1
  obtain ⟨j1, j2, j3, j4⟩ := h1
  obtain ⟨i1, i2, i3, i4⟩ := h2
  have eJ : A M 219 0 = nJ M := rfl
  have eW : A M 219 4 = nW M := rfl
  have ca := c_upto hF hg (M := M) (v := a) (a := 1) (z := 3) (c := nJ M) u1 u2 j2 (by omega)
  have cb := c_upto hF hg (M := M) (v := b) (a := 1) (z := 3) (c := nJ M) v1 v2 j2 (by omega)
  have ck := c_outside hF hg (M := M) (v := k) (l := 0) (h := 5) k1 k2 (by omega) (by omega) (by omega) (by omega)
  have cx := c_outside hF hg (M := M) (v := x) (l := 2) (h := 999) x1 x2 (by omega) (by omega) (by omega) (by omega)
  have co := c_noBit hF hg (M := M) o1 o2
  have ma : ∀ N : am_M, A N 219 0 = nJ M → F 53 0 [.int (iI a), .int 0, .int (fI N 219 0 - 1)] [] N = some (some (.int (iI (bI (0 ≤ a ∧ a ≤ nJ M - 1)))), N) := fun N h => m_upto hF hg u1 u2 h (by omega)
  have mb : ∀ N : am_M, A N 219 0 = nJ M → F 53 0 [.int (iI b), .int 0, .int (fI N 219 0 - 1)] [] N = some (some (.int (iI (bI (0 ≤ b ∧ b ≤ nJ M - 1)))), N) := fun N h => m_upto hF hg v1 v2 h (by omega)
  have mk : ∀ N : am_M, F 53 0 [.int (iI k), .int 0, .int 5] [] N = some (some (.int (iI (bI (0 ≤ k ∧ k ≤ 5)))), N) := fun N => m_inn (l := 0) (h := 5) hF hg k1 k2 (by omega) (by omega) (by omega) (by omega)
  have mx : ∀ N : am_M, F 53 0 [.int (iI x), .int 2, .int 999] [] N = some (some (.int (iI (bI (2 ≤ x ∧ x ≤ 999)))), N) := fun N => m_inn (l := 2) (h := 999) hF hg x1 x2 (by omega) (by omega) (by omega) (by omega)
  have mo : ∀ N : am_M, F 53 0 [.int (iI o), .int 0, .int 1] [] N = some (some (.int (iI (bI (0 ≤ o ∧ o ≤ 1)))), N) := fun N => m_inn (l := 0) (h := 1) hF hg o1 o2 (by omega) (by omega) (by omega) (by omega)
  have wrong : ∀ r : Int, F 213 0 [.ref 0, .int (iI k), .int (iI a), .int (iI b), .int (iI x), .int (iI o)] [] M = some (some (.int (iI r)), M) → F 141 0 [.ref 219, .int (iI k), .int (iI a), .int (iI b), .int (iI x), .int (iI o)] [] M = some (some (.int (iI r)), M) → ∃ (r : Int) (M1 M2 : am_M), F 213 0 [.ref 0, .int (iI k), .int (iI a), .int (iI b), .int (iI x), .int (iI o)] [] M = some (some (.int (iI r)), M1) ∧ F 141 0 [.ref 219, .int (iI k), .int (iI a), .int (iI b), .int (iI x), .int (iI o)] [] M1 = some (some (.int (iI r)), M2) ∧ Inv M2 := fun r p q => ⟨r, M, M, p, q, hI'⟩
  have qma := ma M rfl
  by_cases qa : a < 0 ∨ nJ M - 1 < a
  · rw [bI_t qa] at ca
    rw [bI_f (by omega)] at qma
    refine wrong (-1) ?_ ?_
    · refine s_RunSayer_way hF hg ?_
      refine ci_in ca ?_
      rw [if_neg (show ¬ iI 1 = 0 by decide)]
      rfl
    · refine s_Model_way hF hg ?_
      refine ci_in qma ?_
      rw [if_pos (show iI 0 = 0 from rfl)]
      rfl
  rw [bI_f qa] at ca
  rw [bI_t (by omega)] at qma
  have qmb := mb M rfl
  by_cases qb : b < 0 ∨ nJ M - 1 < b
  · rw [bI_t qb] at cb
    rw [bI_f (by omega)] at qmb
    refine wrong (-1) ?_ ?_
    · refine s_RunSayer_way hF hg ?_
      refine ci_in (ca) ?_
      rw [if_pos (show iI 0 = 0 from rfl)]
      refine ci_in cb ?_
      rw [if_neg (show ¬ iI 1 = 0 by decide)]
      rfl
    · refine s_Model_way hF hg ?_
      refine ci_in (qma) ?_
      rw [if_neg (show ¬ iI 1 = 0 by decide)]
      refine ci_in qmb ?_
      rw [if_pos (show iI 0 = 0 from rfl)]
      rfl
  rw [bI_f qb] at cb
  rw [bI_t (by omega)] at qmb
  have qmk := mk M
  by_cases qk : k < 0 ∨ 5 < k
  · rw [bI_t qk] at ck
    rw [bI_f (by omega)] at qmk
    refine wrong (-2) ?_ ?_
    · refine s_RunSayer_way hF hg ?_
      refine ci_in (ca) ?_
      rw [if_pos (show iI 0 = 0 from rfl)]
      refine ci_in (cb) ?_
      rw [if_pos (show iI 0 = 0 from rfl)]
      refine ci_in ck ?_
      rw [if_neg (show ¬ iI 1 = 0 by decide)]
      rfl
    · refine s_Model_way hF hg ?_
      refine ci_in (qma) ?_
      rw [if_neg (show ¬ iI 1 = 0 by decide)]
      refine ci_in (qmb) ?_
      rw [if_neg (show ¬ iI 1 = 0 by decide)]
      refine ci_in qmk ?_
      rw [if_pos (show iI 0 = 0 from rfl)]
      rfl
  rw [bI_f qk] at ck
  rw [bI_t (by omega)] at qmk
  by_cases qe : a = b
  · have ne : iI a = iI b := by rw [qe]
    refine wrong (-2) ?_ ?_
    · refine s_RunSayer_way hF hg ?_
      refine ci_in (ca) ?_
      rw [if_pos (show iI 0 = 0 from rfl)]
      refine ci_in (cb) ?_
      rw [if_pos (show iI 0 = 0 from rfl)]
      refine ci_in (ck) ?_
      rw [if_pos (show iI 0 = 0 from rfl)]
      rw [if_pos ne]
      rfl
    · refine s_Model_way hF hg ?_
      refine ci_in (qma) ?_
      rw [if_neg (show ¬ iI 1 = 0 by decide)]
      refine ci_in (qmb) ?_
      rw [if_neg (show ¬ iI 1 = 0 by decide)]
      refine ci_in (qmk) ?_
      rw [if_neg (show ¬ iI 1 = 0 by decide)]
      rw [if_pos ne]
      rfl
  have ne : ¬ iI a = iI b := fun h => by
    have := congrArg Int32.toInt h
    rw [iI_v u1 u2, iI_v v1 v2] at this
    exact qe this
  have qmx := mx M
  by_cases qx : x < 2 ∨ 999 < x
  · rw [bI_t qx] at cx
    rw [bI_f (by omega)] at qmx
    refine wrong (-2) ?_ ?_
    · refine s_RunSayer_way hF hg ?_
      refine ci_in (ca) ?_
      rw [if_pos (show iI 0 = 0 from rfl)]
      refine ci_in (cb) ?_
      rw [if_pos (show iI 0 = 0 from rfl)]
      refine ci_in (ck) ?_
      rw [if_pos (show iI 0 = 0 from rfl)]
      rw [if_neg ne]
      refine ci_in cx ?_
      rw [if_neg (show ¬ iI 1 = 0 by decide)]
      rfl
    · refine s_Model_way hF hg ?_
      refine ci_in (qma) ?_
      rw [if_neg (show ¬ iI 1 = 0 by decide)]
      refine ci_in (qmb) ?_
      rw [if_neg (show ¬ iI 1 = 0 by decide)]
      refine ci_in (qmk) ?_
      rw [if_neg (show ¬ iI 1 = 0 by decide)]
      rw [if_neg ne]
      refine ci_in qmx ?_
      rw [if_pos (show iI 0 = 0 from rfl)]
      rfl
  rw [bI_f qx] at cx
  rw [bI_t (by omega)] at qmx
  have qmo := mo M
  by_cases qo : o < 0 ∨ 1 < o
  · rw [bI_t qo] at co
    rw [bI_f (by omega)] at qmo
    refine wrong (-2) ?_ ?_
    · refine s_RunSayer_way hF hg ?_
      refine ci_in (ca) ?_
      rw [if_pos (show iI 0 = 0 from rfl)]
      refine ci_in (cb) ?_
      rw [if_pos (show iI 0 = 0 from rfl)]
      refine ci_in (ck) ?_
      rw [if_pos (show iI 0 = 0 from rfl)]
      rw [if_neg ne]
      refine ci_in (cx) ?_
      rw [if_pos (show iI 0 = 0 from rfl)]
      refine ci_in co ?_
      rw [if_neg (show ¬ iI 1 = 0 by decide)]
      rfl
    · refine s_Model_way hF hg ?_
      refine ci_in (qma) ?_
      rw [if_neg (show ¬ iI 1 = 0 by decide)]
      refine ci_in (qmb) ?_
      rw [if_neg (show ¬ iI 1 = 0 by decide)]
      refine ci_in (qmk) ?_
      rw [if_neg (show ¬ iI 1 = 0 by decide)]
      rw [if_neg ne]
      refine ci_in (qmx) ?_
      rw [if_neg (show ¬ iI 1 = 0 by decide)]
      refine ci_in qmo ?_
      rw [if_pos (show iI 0 = 0 from rfl)]
      rfl
  rw [bI_f qo] at co
  rw [bI_t (by omega)] at qmo
  by_cases q4 : nW M = 40
  · refine wrong (-4) ?_ ?_
    · have ad : F 85 0 [.ref 1, .int (iI k), .int (iI a), .int (iI b), .int (iI x), .int (iI o)] [] M = some (some (.int (iI (-4))), M) := by
        refine s_City_addWay hF hg ?_
        simp (config := { maxSteps := 1000000 }) (disch := (first | omega | decide | assumption)) only [ltm_s, ok_n, rd_i, rd_j, fd_i, fd_j, wr_i, wr_j, fw_i, fw_j, ci_s, cj_s, cv_s, dv_n, dw_n, rt_1, rt_b, rt_20, rt_21, okb_0, okb_1, okb_b, nar_0, nar_1, nar_b, i_0, i_1, j_0, j_1, i_lit, j_lit, i_n, iI_add, iI_sub, iI_mul, iI_neg, jI_add, jI_sub, jI_mul, jI_neg, sh_1, an_1, xo_1, di_p, dj_p, i_64A, i_64, j_32, lq_ge, lq_lt, lq_le, lq_gt, lq_eq, i_lt, i_le, i_eq, j_eq, iI_A, jI_J, iI_b, iI_v, jI_v, ↓reduceIte, ite_true, ite_false, Int.reduceEq, Int.reduceLT, Int.reduceLE, Int.reduceAdd, Int.reduceSub, Int.reduceMul, Int.reduceNeg, not_true_eq_false, not_false_eq_true, i2, q4]
      refine s_RunSayer_way hF hg ?_
      refine ci_in (ca) ?_
      rw [if_pos (show iI 0 = 0 from rfl)]
      refine ci_in (cb) ?_
      rw [if_pos (show iI 0 = 0 from rfl)]
      refine ci_in (ck) ?_
      rw [if_pos (show iI 0 = 0 from rfl)]
      rw [if_neg ne]
      refine ci_in (cx) ?_
      rw [if_pos (show iI 0 = 0 from rfl)]
      refine ci_in (co) ?_
      rw [if_pos (show iI 0 = 0 from rfl)]
      refine ci_in ad ?_
      rfl
    · refine s_Model_way hF hg ?_
      refine ci_in (qma) ?_
      rw [if_neg (show ¬ iI 1 = 0 by decide)]
      refine ci_in (qmb) ?_
      rw [if_neg (show ¬ iI 1 = 0 by decide)]
      refine ci_in (qmk) ?_
      rw [if_neg (show ¬ iI 1 = 0 by decide)]
      rw [if_neg ne]
      refine ci_in (qmx) ?_
      rw [if_neg (show ¬ iI 1 = 0 by decide)]
      refine ci_in (qmo) ?_
      rw [if_neg (show ¬ iI 1 = 0 by decide)]
      rw [if_pos (show fI M 219 4 = 40 by rw [fd_i, eW, q4]; rfl)]
      rfl
  have q5 : nW M < 40 := by omega
  obtain ⟨C1, g1⟩ : ∃ y : am_M, y = W_ (W_ (W_ (W_ M 5 (nW M) k) 6 (nW M) x) 7 (nW M) o) 1 7 (nW M + 1) := ⟨_, rfl⟩
  obtain ⟨C2, g2⟩ : ∃ y : am_M, y = W_ (W_ (W_ (W_ (W_ (C1) 8 (2 * nW M) a) 9 (2 * nW M) (px M b - px M a)) 10 (2 * nW M) (py M b - py M a)) 16 (a * 40 + (A M 17 a)) (2 * nW M)) 17 a ((A M 17 a) + 1) := ⟨_, rfl⟩
  obtain ⟨C3, g3⟩ : ∃ y : am_M, y = W_ (W_ (W_ (W_ (W_ (C2) 8 (2 * nW M + 1) b) 9 (2 * nW M + 1) (px M a - px M b)) 10 (2 * nW M + 1) (py M a - py M b)) 16 (b * 40 + (A M 17 b)) (2 * nW M + 1)) 17 b ((A M 17 b) + 1) := ⟨_, rfl⟩
  obtain ⟨M1, e1⟩ : ∃ y : am_M, y = W_ (W_ (W_ (C3) 14 (A M 219 31) 1) 15 (A M 219 31) (nW M)) 1 17 (A M 219 31 + 1) := ⟨_, rfl⟩
  obtain ⟨C4, g4⟩ : ∃ y : am_M, y = W_ (W_ (W_ (W_ (W_ (W_ (M1) 223 (nW M) k) 224 (nW M) a) 225 (nW M) b) 226 (nW M) x) 227 (nW M) o) 219 4 (nW M + 1) := ⟨_, rfl⟩
  obtain ⟨M2, e2'⟩ : ∃ y : am_M, y = W_ (W_ (W_ (C4) 244 (A M 219 31) 1) 245 (A M 219 31) (nW M)) 219 31 (A M 219 31 + 1) := ⟨_, rfl⟩
  have e1' : M1 = W_ (W_ (W_ (W_ (W_ (W_ (W_ (W_ (W_ (W_ (W_ (W_ (W_ (W_ (W_ (W_ (W_ M 5 (nW M) k) 6 (nW M) x) 7 (nW M) o) 1 7 (nW M + 1)) 8 (2 * nW M) a) 9 (2 * nW M) (px M b - px M a)) 10 (2 * nW M) (py M b - py M a)) 16 (a * 40 + (A M 17 a)) (2 * nW M)) 17 a ((A M 17 a) + 1)) 8 (2 * nW M + 1) b) 9 (2 * nW M + 1) (px M a - px M b)) 10 (2 * nW M + 1) (py M a - py M b)) 16 (b * 40 + (A M 17 b)) (2 * nW M + 1)) 17 b ((A M 17 b) + 1)) 14 (A M 219 31) 1) 15 (A M 219 31) (nW M)) 1 17 (A M 219 31 + 1) := by rw [e1, g3, g2, g1]
  have e2 : M2 = W_ (W_ (W_ (W_ (W_ (W_ (W_ (W_ (W_ (W_ (W_ (W_ (W_ (W_ (W_ (W_ (W_ (W_ (W_ (W_ (W_ (W_ (W_ (W_ (W_ (W_ M 5 (nW M) k) 6 (nW M) x) 7 (nW M) o) 1 7 (nW M + 1)) 8 (2 * nW M) a) 9 (2 * nW M) (px M b - px M a)) 10 (2 * nW M) (py M b - py M a)) 16 (a * 40 + (A M 17 a)) (2 * nW M)) 17 a ((A M 17 a) + 1)) 8 (2 * nW M + 1) b) 9 (2 * nW M + 1) (px M a - px M b)) 10 (2 * nW M + 1) (py M a - py M b)) 16 (b * 40 + (A M 17 b)) (2 * nW M + 1)) 17 b ((A M 17 b) + 1)) 14 (A M 219 31) 1) 15 (A M 219 31) (nW M)) 1 17 (A M 219 31 + 1)) 223 (nW M) k) 224 (nW M) a) 225 (nW M) b) 226 (nW M) x) 227 (nW M) o) 219 4 (nW M + 1)) 244 (A M 219 31) 1) 245 (A M 219 31) (nW M)) 219 31 (A M 219 31 + 1) := by rw [e2', g4, e1']
  have c1 : Ch [5, 6, 7, 8, 9, 10, 14, 15, 16, 17] [(1, 7), (1, 17)] M M1 := by
    rw [e1']; exact (((((((((((((((((Ch.refl.wm (Or.inl (by decide))).wm (Or.inl (by decide))).wm (Or.inl (by decide))).wm (Or.inr (by decide))).wm (Or.inl (by decide))).wm (Or.inl (by decide))).wm (Or.inl (by decide))).wm (Or.inl (by decide))).wm (Or.inl (by decide))).wm (Or.inl (by decide))).wm (Or.inl (by decide))).wm (Or.inl (by decide))).wm (Or.inl (by decide))).wm (Or.inl (by decide))).wm (Or.inl (by decide))).wm (Or.inl (by decide))).wm (Or.inr (by decide)))
  have c : Ch [5, 6, 7, 8, 9, 10, 14, 15, 16, 17, 223, 224, 225, 226, 227, 244, 245] [(1, 7), (1, 17), (219, 4), (219, 31)] M M2 := by
    rw [e2]; exact ((((((((((((((((((((((((((Ch.refl.wm (Or.inl (by decide))).wm (Or.inl (by decide))).wm (Or.inl (by decide))).wm (Or.inr (by decide))).wm (Or.inl (by decide))).wm (Or.inl (by decide))).wm (Or.inl (by decide))).wm (Or.inl (by decide))).wm (Or.inl (by decide))).wm (Or.inl (by decide))).wm (Or.inl (by decide))).wm (Or.inl (by decide))).wm (Or.inl (by decide))).wm (Or.inl (by decide))).wm (Or.inl (by decide))).wm (Or.inl (by decide))).wm (Or.inr (by decide))).wm (Or.inl (by decide))).wm (Or.inl (by decide))).wm (Or.inl (by decide))).wm (Or.inl (by decide))).wm (Or.inl (by decide))).wm (Or.inr (by decide))).wm (Or.inl (by decide))).wm (Or.inl (by decide))).wm (Or.inr (by decide)))
  have xs : ∀ i : Int, 0 ≤ i → i < nJ M → A M 2 i = px M i ∧ A M 3 i = py M i := fun i y0 y1 => ⟨(j3 i y0 y1).2.2.2.1, (j3 i y0 y1).2.2.2.2.1⟩
  have xa := xs a (by omega) (by omega)
  have xb := xs b (by omega) (by omega)
  have ba : B3 M a := h3 a (by omega) (by omega)
  have bb : B3 M b := h3 b (by omega) (by omega)
  have la := ba.1
  have lb := bb.1
  have nab : ¬ b = a := fun h => qe h.symm
  have al1 := c_addLeg hF hg (M := C1) (e := 2 * nW M) (s := a) (t := b) (X := px M b - px M a) (Y := py M b - py M a) (c := A M 17 a) (by omega) (by omega) (by omega) (by omega) (by omega) (by omega) (by rw [g1, ← xa.1, ← xb.1]; simp (config := { maxSteps := 1000000 }) (disch := (first | omega | decide | assumption)) only [ltm_s, ok_n, rd_i, rd_j, fd_i, fd_j, wr_i, wr_j, fw_i, fw_j, ci_s, cj_s, cv_s, dv_n, dw_n, rt_1, rt_b, rt_20, rt_21, okb_0, okb_1, okb_b, nar_0, nar_1, nar_b, i_0, i_1, j_0, j_1, i_lit, j_lit, i_n, iI_add, iI_sub, iI_mul, iI_neg, jI_add, jI_sub, jI_mul, jI_neg, sh_1, an_1, xo_1, di_p, dj_p, i_64A, i_64, j_32, lq_ge, lq_lt, lq_le, lq_gt, lq_eq, i_lt, i_le, i_eq, j_eq, iI_A, jI_J, iI_b, iI_v, jI_v, ↓reduceIte, ite_true, ite_false, Int.reduceEq, Int.reduceLT, Int.reduceLE, Int.reduceAdd, Int.reduceSub, Int.reduceMul, Int.reduceNeg, not_true_eq_false, not_false_eq_true, A_Wn, A_WA, A_Wb, A_Ws, A_Wo, A_X, J_W, J_Xn, J_XJ, J_Xs, J_Xo]) (by rw [g1, ← xa.2, ← xb.2]; simp (config := { maxSteps := 1000000 }) (disch := (first | omega | decide | assumption)) only [ltm_s, ok_n, rd_i, rd_j, fd_i, fd_j, wr_i, wr_j, fw_i, fw_j, ci_s, cj_s, cv_s, dv_n, dw_n, rt_1, rt_b, rt_20, rt_21, okb_0, okb_1, okb_b, nar_0, nar_1, nar_b, i_0, i_1, j_0, j_1, i_lit, j_lit, i_n, iI_add, iI_sub, iI_mul, iI_neg, jI_add, jI_sub, jI_mul, jI_neg, sh_1, an_1, xo_1, di_p, dj_p, i_64A, i_64, j_32, lq_ge, lq_lt, lq_le, lq_gt, lq_eq, i_lt, i_le, i_eq, j_eq, iI_A, jI_J, iI_b, iI_v, jI_v, ↓reduceIte, ite_true, ite_false, Int.reduceEq, Int.reduceLT, Int.reduceLE, Int.reduceAdd, Int.reduceSub, Int.reduceMul, Int.reduceNeg, not_true_eq_false, not_false_eq_true, A_Wn, A_WA, A_Wb, A_Ws, A_Wo, A_X, J_W, J_Xn, J_XJ, J_Xs, J_Xo]) (by rw [g1]; simp (config := { maxSteps := 1000000 }) (disch := (first | omega | decide | assumption)) only [ltm_s, ok_n, rd_i, rd_j, fd_i, fd_j, wr_i, wr_j, fw_i, fw_j, ci_s, cj_s, cv_s, dv_n, dw_n, rt_1, rt_b, rt_20, rt_21, okb_0, okb_1, okb_b, nar_0, nar_1, nar_b, i_0, i_1, j_0, j_1, i_lit, j_lit, i_n, iI_add, iI_sub, iI_mul, iI_neg, jI_add, jI_sub, jI_mul, jI_neg, sh_1, an_1, xo_1, di_p, dj_p, i_64A, i_64, j_32, lq_ge, lq_lt, lq_le, lq_gt, lq_eq, i_lt, i_le, i_eq, j_eq, iI_A, jI_J, iI_b, iI_v, jI_v, ↓reduceIte, ite_true, ite_false, Int.reduceEq, Int.reduceLT, Int.reduceLE, Int.reduceAdd, Int.reduceSub, Int.reduceMul, Int.reduceNeg, not_true_eq_false, not_false_eq_true, A_Wn, A_WA, A_Wb, A_Ws, A_Wo, A_X, J_W, J_Xn, J_XJ, J_Xs, J_Xo]) (by omega) (by omega)
  rw [← g2] at al1
  have al2 := c_addLeg hF hg (M := C2) (e := 2 * nW M + 1) (s := b) (t := a) (X := px M a - px M b) (Y := py M a - py M b) (c := A M 17 b) (by omega) (by omega) (by omega) (by omega) (by omega) (by omega) (by rw [g2, g1, ← xa.1, ← xb.1]; simp (config := { maxSteps := 1000000 }) (disch := (first | omega | decide | assumption)) only [ltm_s, ok_n, rd_i, rd_j, fd_i, fd_j, wr_i, wr_j, fw_i, fw_j, ci_s, cj_s, cv_s, dv_n, dw_n, rt_1, rt_b, rt_20, rt_21, okb_0, okb_1, okb_b, nar_0, nar_1, nar_b, i_0, i_1, j_0, j_1, i_lit, j_lit, i_n, iI_add, iI_sub, iI_mul, iI_neg, jI_add, jI_sub, jI_mul, jI_neg, sh_1, an_1, xo_1, di_p, dj_p, i_64A, i_64, j_32, lq_ge, lq_lt, lq_le, lq_gt, lq_eq, i_lt, i_le, i_eq, j_eq, iI_A, jI_J, iI_b, iI_v, jI_v, ↓reduceIte, ite_true, ite_false, Int.reduceEq, Int.reduceLT, Int.reduceLE, Int.reduceAdd, Int.reduceSub, Int.reduceMul, Int.reduceNeg, not_true_eq_false, not_false_eq_true, A_Wn, A_WA, A_Wb, A_Ws, A_Wo, A_X, J_W, J_Xn, J_XJ, J_Xs, J_Xo]) (by rw [g2, g1, ← xa.2, ← xb.2]; simp (config := { maxSteps := 1000000 }) (disch := (first | omega | decide | assumption)) only [ltm_s, ok_n, rd_i, rd_j, fd_i, fd_j, wr_i, wr_j, fw_i, fw_j, ci_s, cj_s, cv_s, dv_n, dw_n, rt_1, rt_b, rt_20, rt_21, okb_0, okb_1, okb_b, nar_0, nar_1, nar_b, i_0, i_1, j_0, j_1, i_lit, j_lit, i_n, iI_add, iI_sub, iI_mul, iI_neg, jI_add, jI_sub, jI_mul, jI_neg, sh_1, an_1, xo_1, di_p, dj_p, i_64A, i_64, j_32, lq_ge, lq_lt, lq_le, lq_gt, lq_eq, i_lt, i_le, i_eq, j_eq, iI_A, jI_J, iI_b, iI_v, jI_v, ↓reduceIte, ite_true, ite_false, Int.reduceEq, Int.reduceLT, Int.reduceLE, Int.reduceAdd, Int.reduceSub, Int.reduceMul, Int.reduceNeg, not_true_eq_false, not_false_eq_true, A_Wn, A_WA, A_Wb, A_Ws, A_Wo, A_X, J_W, J_Xn, J_XJ, J_Xs, J_Xo]) (by rw [g2, g1]; simp (config := { maxSteps := 1000000 }) (disch := (first | omega | decide | assumption)) only [ltm_s, ok_n, rd_i, rd_j, fd_i, fd_j, wr_i, wr_j, fw_i, fw_j, ci_s, cj_s, cv_s, dv_n, dw_n, rt_1, rt_b, rt_20, rt_21, okb_0, okb_1, okb_b, nar_0, nar_1, nar_b, i_0, i_1, j_0, j_1, i_lit, j_lit, i_n, iI_add, iI_sub, iI_mul, iI_neg, jI_add, jI_sub, jI_mul, jI_neg, sh_1, an_1, xo_1, di_p, dj_p, i_64A, i_64, j_32, lq_ge, lq_lt, lq_le, lq_gt, lq_eq, i_lt, i_le, i_eq, j_eq, iI_A, jI_J, iI_b, iI_v, jI_v, ↓reduceIte, ite_true, ite_false, Int.reduceEq, Int.reduceLT, Int.reduceLE, Int.reduceAdd, Int.reduceSub, Int.reduceMul, Int.reduceNeg, not_true_eq_false, not_false_eq_true, A_Wn, A_WA, A_Wb, A_Ws, A_Wo, A_X, J_W, J_Xn, J_XJ, J_Xs, J_Xo]) (by omega) (by omega)
  rw [← g3] at al2
  have t17 : A C3 1 17 = A M 219 31 := by
    rw [g3, g2, g1, ← hth2]; simp (config := { maxSteps := 1000000 }) (disch := (first | omega | decide | assumption)) only [ltm_s, ok_n, rd_i, rd_j, fd_i, fd_j, wr_i, wr_j, fw_i, fw_j, ci_s, cj_s, cv_s, dv_n, dw_n, rt_1, rt_b, rt_20, rt_21, okb_0, okb_1, okb_b, nar_0, nar_1, nar_b, i_0, i_1, j_0, j_1, i_lit, j_lit, i_n, iI_add, iI_sub, iI_mul, iI_neg, jI_add, jI_sub, jI_mul, jI_neg, sh_1, an_1, xo_1, di_p, dj_p, i_64A, i_64, j_32, lq_ge, lq_lt, lq_le, lq_gt, lq_eq, i_lt, i_le, i_eq, j_eq, iI_A, jI_J, iI_b, iI_v, jI_v, ↓reduceIte, ite_true, ite_false, Int.reduceEq, Int.reduceLT, Int.reduceLE, Int.reduceAdd, Int.reduceSub, Int.reduceMul, Int.reduceNeg, not_true_eq_false, not_false_eq_true, A_Wn, A_WA, A_Wb, A_Ws, A_Wo, A_X, J_W, J_Xn, J_XJ, J_Xs, J_Xo]
  have at1 := c_addThing hF hg (s := 1) (k := nW M) t17 (by omega) (by omega)
  rw [← e1] at at1
  have ad : F 85 0 [.ref 1, .int (iI k), .int (iI a), .int (iI b), .int (iI x), .int (iI o)] [] M = some (some (.int (iI (nW M))), M1) := by
    refine s_City_addWay hF hg ?_
    simp (config := { maxSteps := 1000000 }) (disch := (first | omega | decide | assumption)) only [ltm_s, ok_n, rd_i, rd_j, fd_i, fd_j, wr_i, wr_j, fw_i, fw_j, ci_s, cj_s, cv_s, dv_n, dw_n, rt_1, rt_b, rt_20, rt_21, okb_0, okb_1, okb_b, nar_0, nar_1, nar_b, i_0, i_1, j_0, j_1, i_lit, j_lit, i_n, iI_add, iI_sub, iI_mul, iI_neg, jI_add, jI_sub, jI_mul, jI_neg, sh_1, an_1, xo_1, di_p, dj_p, i_64A, i_64, j_32, lq_ge, lq_lt, lq_le, lq_gt, lq_eq, i_lt, i_le, i_eq, j_eq, iI_A, jI_J, iI_b, iI_v, jI_v, ↓reduceIte, ite_true, ite_false, Int.reduceEq, Int.reduceLT, Int.reduceLE, Int.reduceAdd, Int.reduceSub, Int.reduceMul, Int.reduceNeg, not_true_eq_false, not_false_eq_true, A_Wn, A_WA, A_Wb, A_Ws, A_Wo, A_X, J_W, J_Xn, J_XJ, J_Xs, J_Xo, i2, q5, g1.symm, al1, al2, at1]
  refine ⟨nW M, M1, M2, ?_, ?_, ?_⟩
  · refine s_RunSayer_way hF hg ?_
    refine ci_in (ca) ?_
    rw [if_pos (show iI 0 = 0 from rfl)]
    refine ci_in (cb) ?_
    rw [if_pos (show iI 0 = 0 from rfl)]
    refine ci_in (ck) ?_
    rw [if_pos (show iI 0 = 0 from rfl)]
    rw [if_neg ne]
    refine ci_in (cx) ?_
    rw [if_pos (show iI 0 = 0 from rfl)]
    refine ci_in (co) ?_
    rw [if_pos (show iI 0 = 0 from rfl)]
    refine ci_in ad ?_
    rfl
  · have eJ' : A M1 219 0 = nJ M := c1.f (a := 219) (z := 0) rfl
    have eW' : A M1 219 4 = nW M := c1.f (a := 219) (z := 4) rfl
    have qma := ma M1 eJ'
    have qmb := mb M1 eJ'
    have qmk := mk M1
    have qmx := mx M1
    have qmo := mo M1
    rw [bI_t (by omega)] at qma qmb qmk qmx qmo
    have t31 : A C4 219 31 = A M 219 31 := by
      rw [g4]; simp (config := { maxSteps := 1000000 }) (disch := (first | omega | decide | assumption)) only [ltm_s, ok_n, rd_i, rd_j, fd_i, fd_j, wr_i, wr_j, fw_i, fw_j, ci_s, cj_s, cv_s, dv_n, dw_n, rt_1, rt_b, rt_20, rt_21, okb_0, okb_1, okb_b, nar_0, nar_1, nar_b, i_0, i_1, j_0, j_1, i_lit, j_lit, i_n, iI_add, iI_sub, iI_mul, iI_neg, jI_add, jI_sub, jI_mul, jI_neg, sh_1, an_1, xo_1, di_p, dj_p, i_64A, i_64, j_32, lq_ge, lq_lt, lq_le, lq_gt, lq_eq, i_lt, i_le, i_eq, j_eq, iI_A, jI_J, iI_b, iI_v, jI_v, ↓reduceIte, ite_true, ite_false, Int.reduceEq, Int.reduceLT, Int.reduceLE, Int.reduceAdd, Int.reduceSub, Int.reduceMul, Int.reduceNeg, not_true_eq_false, not_false_eq_true, A_Wn, A_WA, A_Wb, A_Ws, A_Wo, A_X, J_W, J_Xn, J_XJ, J_Xs, J_Xo]
      exact c1.f (a := 219) (z := 31) rfl
    have c10 : A C4 219 4 = nW M + 1 := by
      rw [g4]; simp (config := { maxSteps := 1000000 }) (disch := (first | omega | decide | assumption)) only [ltm_s, ok_n, rd_i, rd_j, fd_i, fd_j, wr_i, wr_j, fw_i, fw_j, ci_s, cj_s, cv_s, dv_n, dw_n, rt_1, rt_b, rt_20, rt_21, okb_0, okb_1, okb_b, nar_0, nar_1, nar_b, i_0, i_1, j_0, j_1, i_lit, j_lit, i_n, iI_add, iI_sub, iI_mul, iI_neg, jI_add, jI_sub, jI_mul, jI_neg, sh_1, an_1, xo_1, di_p, dj_p, i_64A, i_64, j_32, lq_ge, lq_lt, lq_le, lq_gt, lq_eq, i_lt, i_le, i_eq, j_eq, iI_A, jI_J, iI_b, iI_v, jI_v, ↓reduceIte, ite_true, ite_false, Int.reduceEq, Int.reduceLT, Int.reduceLE, Int.reduceAdd, Int.reduceSub, Int.reduceMul, Int.reduceNeg, not_true_eq_false, not_false_eq_true, A_Wn, A_WA, A_Wb, A_Ws, A_Wo, A_X, J_W, J_Xn, J_XJ, J_Xs, J_Xo]
    have mc := m_comes hF hg (s := 1) (k := nW M) t31 (by omega) (by omega)
    rw [← e2'] at mc
    refine s_Model_way hF hg ?_
    refine ci_in (qma) ?_
    rw [if_neg (show ¬ iI 1 = 0 by decide)]
    refine ci_in (qmb) ?_
    rw [if_neg (show ¬ iI 1 = 0 by decide)]
    refine ci_in (qmk) ?_
    rw [if_neg (show ¬ iI 1 = 0 by decide)]
    rw [if_neg ne]
    refine ci_in (qmx) ?_
    rw [if_neg (show ¬ iI 1 = 0 by decide)]
    refine ci_in (qmo) ?_
    rw [if_neg (show ¬ iI 1 = 0 by decide)]
    have ho : o = 0 ∨ o = 1 := by omega
    rcases ho with rfl | rfl
    · simp (config := { maxSteps := 1000000 }) (disch := (first | omega | decide | assumption)) only [ltm_s, ok_n, rd_i, rd_j, fd_i, fd_j, wr_i, wr_j, fw_i, fw_j, ci_s, cj_s, cv_s, dv_n, dw_n, rt_1, rt_b, rt_20, rt_21, okb_0, okb_1, okb_b, nar_0, nar_1, nar_b, i_0, i_1, j_0, j_1, i_lit, j_lit, i_n, iI_add, iI_sub, iI_mul, iI_neg, jI_add, jI_sub, jI_mul, jI_neg, sh_1, an_1, xo_1, di_p, dj_p, i_64A, i_64, j_32, lq_ge, lq_lt, lq_le, lq_gt, lq_eq, i_lt, i_le, i_eq, j_eq, iI_A, jI_J, iI_b, iI_v, jI_v, ↓reduceIte, ite_true, ite_false, Int.reduceEq, Int.reduceLT, Int.reduceLE, Int.reduceAdd, Int.reduceSub, Int.reduceMul, Int.reduceNeg, not_true_eq_false, not_false_eq_true, A_Wn, A_WA, A_Wb, A_Ws, A_Wo, A_X, J_W, J_Xn, J_XJ, J_Xs, J_Xo, eW', q4, nar_0, g4.symm, c10, Int.add_sub_cancel, mc]
    · simp (config := { maxSteps := 1000000 }) (disch := (first | omega | decide | assumption)) only [ltm_s, ok_n, rd_i, rd_j, fd_i, fd_j, wr_i, wr_j, fw_i, fw_j, ci_s, cj_s, cv_s, dv_n, dw_n, rt_1, rt_b, rt_20, rt_21, okb_0, okb_1, okb_b, nar_0, nar_1, nar_b, i_0, i_1, j_0, j_1, i_lit, j_lit, i_n, iI_add, iI_sub, iI_mul, iI_neg, jI_add, jI_sub, jI_mul, jI_neg, sh_1, an_1, xo_1, di_p, dj_p, i_64A, i_64, j_32, lq_ge, lq_lt, lq_le, lq_gt, lq_eq, i_lt, i_le, i_eq, j_eq, iI_A, jI_J, iI_b, iI_v, jI_v, ↓reduceIte, ite_true, ite_false, Int.reduceEq, Int.reduceLT, Int.reduceLE, Int.reduceAdd, Int.reduceSub, Int.reduceMul, Int.reduceNeg, not_true_eq_false, not_false_eq_true, A_Wn, A_WA, A_Wb, A_Ws, A_Wo, A_X, J_W, J_Xn, J_XJ, J_Xs, J_Xo, eW', q4, nar_1, g4.symm, c10, Int.add_sub_cancel, mc]
  have r5 : ∀ i : Int, 0 ≤ i → ¬ i = (nW M) → A M2 5 i = A M 5 i := fun i i0 i1 => by
    rw [e2]; simp (config := { maxSteps := 1000000 }) (disch := (first | omega | decide | assumption)) only [ltm_s, ok_n, rd_i, rd_j, fd_i, fd_j, wr_i, wr_j, fw_i, fw_j, ci_s, cj_s, cv_s, dv_n, dw_n, rt_1, rt_b, rt_20, rt_21, okb_0, okb_1, okb_b, nar_0, nar_1, nar_b, i_0, i_1, j_0, j_1, i_lit, j_lit, i_n, iI_add, iI_sub, iI_mul, iI_neg, jI_add, jI_sub, jI_mul, jI_neg, sh_1, an_1, xo_1, di_p, dj_p, i_64A, i_64, j_32, lq_ge, lq_lt, lq_le, lq_gt, lq_eq, i_lt, i_le, i_eq, j_eq, iI_A, jI_J, iI_b, iI_v, jI_v, ↓reduceIte, ite_true, ite_false, Int.reduceEq, Int.reduceLT, Int.reduceLE, Int.reduceAdd, Int.reduceSub, Int.reduceMul, Int.reduceNeg, not_true_eq_false, not_false_eq_true, A_Wn, A_WA, A_Wb, A_Ws, A_Wo, A_X, J_W, J_Xn, J_XJ, J_Xs, J_Xo]
  have s5 : A M2 5 (nW M) = k := by
    rw [e2]; simp (config := { maxSteps := 1000000 }) (disch := (first | omega | decide | assumption)) only [ltm_s, ok_n, rd_i, rd_j, fd_i, fd_j, wr_i, wr_j, fw_i, fw_j, ci_s, cj_s, cv_s, dv_n, dw_n, rt_1, rt_b, rt_20, rt_21, okb_0, okb_1, okb_b, nar_0, nar_1, nar_b, i_0, i_1, j_0, j_1, i_lit, j_lit, i_n, iI_add, iI_sub, iI_mul, iI_neg, jI_add, jI_sub, jI_mul, jI_neg, sh_1, an_1, xo_1, di_p, dj_p, i_64A, i_64, j_32, lq_ge, lq_lt, lq_le, lq_gt, lq_eq, i_lt, i_le, i_eq, j_eq, iI_A, jI_J, iI_b, iI_v, jI_v, ↓reduceIte, ite_true, ite_false, Int.reduceEq, Int.reduceLT, Int.reduceLE, Int.reduceAdd, Int.reduceSub, Int.reduceMul, Int.reduceNeg, not_true_eq_false, not_false_eq_true, A_Wn, A_WA, A_Wb, A_Ws, A_Wo, A_X, J_W, J_Xn, J_XJ, J_Xs, J_Xo]
  have r6 : ∀ i : Int, 0 ≤ i → ¬ i = (nW M) → A M2 6 i = A M 6 i := fun i i0 i1 => by
    rw [e2]; simp (config := { maxSteps := 1000000 }) (disch := (first | omega | decide | assumption)) only [ltm_s, ok_n, rd_i, rd_j, fd_i, fd_j, wr_i, wr_j, fw_i, fw_j, ci_s, cj_s, cv_s, dv_n, dw_n, rt_1, rt_b, rt_20, rt_21, okb_0, okb_1, okb_b, nar_0, nar_1, nar_b, i_0, i_1, j_0, j_1, i_lit, j_lit, i_n, iI_add, iI_sub, iI_mul, iI_neg, jI_add, jI_sub, jI_mul, jI_neg, sh_1, an_1, xo_1, di_p, dj_p, i_64A, i_64, j_32, lq_ge, lq_lt, lq_le, lq_gt, lq_eq, i_lt, i_le, i_eq, j_eq, iI_A, jI_J, iI_b, iI_v, jI_v, ↓reduceIte, ite_true, ite_false, Int.reduceEq, Int.reduceLT, Int.reduceLE, Int.reduceAdd, Int.reduceSub, Int.reduceMul, Int.reduceNeg, not_true_eq_false, not_false_eq_true, A_Wn, A_WA, A_Wb, A_Ws, A_Wo, A_X, J_W, J_Xn, J_XJ, J_Xs, J_Xo]
  have s6 : A M2 6 (nW M) = x := by
    rw [e2]; simp (config := { maxSteps := 1000000 }) (disch := (first | omega | decide | assumption)) only [ltm_s, ok_n, rd_i, rd_j, fd_i, fd_j, wr_i, wr_j, fw_i, fw_j, ci_s, cj_s, cv_s, dv_n, dw_n, rt_1, rt_b, rt_20, rt_21, okb_0, okb_1, okb_b, nar_0, nar_1, nar_b, i_0, i_1, j_0, j_1, i_lit, j_lit, i_n, iI_add, iI_sub, iI_mul, iI_neg, jI_add, jI_sub, jI_mul, jI_neg, sh_1, an_1, xo_1, di_p, dj_p, i_64A, i_64, j_32, lq_ge, lq_lt, lq_le, lq_gt, lq_eq, i_lt, i_le, i_eq, j_eq, iI_A, jI_J, iI_b, iI_v, jI_v, ↓reduceIte, ite_true, ite_false, Int.reduceEq, Int.reduceLT, Int.reduceLE, Int.reduceAdd, Int.reduceSub, Int.reduceMul, Int.reduceNeg, not_true_eq_false, not_false_eq_true, A_Wn, A_WA, A_Wb, A_Ws, A_Wo, A_X, J_W, J_Xn, J_XJ, J_Xs, J_Xo]
  have r7 : ∀ i : Int, 0 ≤ i → ¬ i = (nW M) → A M2 7 i = A M 7 i := fun i i0 i1 => by
    rw [e2]; simp (config := { maxSteps := 1000000 }) (disch := (first | omega | decide | assumption)) only [ltm_s, ok_n, rd_i, rd_j, fd_i, fd_j, wr_i, wr_j, fw_i, fw_j, ci_s, cj_s, cv_s, dv_n, dw_n, rt_1, rt_b, rt_20, rt_21, okb_0, okb_1, okb_b, nar_0, nar_1, nar_b, i_0, i_1, j_0, j_1, i_lit, j_lit, i_n, iI_add, iI_sub, iI_mul, iI_neg, jI_add, jI_sub, jI_mul, jI_neg, sh_1, an_1, xo_1, di_p, dj_p, i_64A, i_64, j_32, lq_ge, lq_lt, lq_le, lq_gt, lq_eq, i_lt, i_le, i_eq, j_eq, iI_A, jI_J, iI_b, iI_v, jI_v, ↓reduceIte, ite_true, ite_false, Int.reduceEq, Int.reduceLT, Int.reduceLE, Int.reduceAdd, Int.reduceSub, Int.reduceMul, Int.reduceNeg, not_true_eq_false, not_false_eq_true, A_Wn, A_WA, A_Wb, A_Ws, A_Wo, A_X, J_W, J_Xn, J_XJ, J_Xs, J_Xo]
  have s7 : A M2 7 (nW M) = o := by
    rw [e2]; simp (config := { maxSteps := 1000000 }) (disch := (first | omega | decide | assumption)) only [ltm_s, ok_n, rd_i, rd_j, fd_i, fd_j, wr_i, wr_j, fw_i, fw_j, ci_s, cj_s, cv_s, dv_n, dw_n, rt_1, rt_b, rt_20, rt_21, okb_0, okb_1, okb_b, nar_0, nar_1, nar_b, i_0, i_1, j_0, j_1, i_lit, j_lit, i_n, iI_add, iI_sub, iI_mul, iI_neg, jI_add, jI_sub, jI_mul, jI_neg, sh_1, an_1, xo_1, di_p, dj_p, i_64A, i_64, j_32, lq_ge, lq_lt, lq_le, lq_gt, lq_eq, i_lt, i_le, i_eq, j_eq, iI_A, jI_J, iI_b, iI_v, jI_v, ↓reduceIte, ite_true, ite_false, Int.reduceEq, Int.reduceLT, Int.reduceLE, Int.reduceAdd, Int.reduceSub, Int.reduceMul, Int.reduceNeg, not_true_eq_false, not_false_eq_true, A_Wn, A_WA, A_Wb, A_Ws, A_Wo, A_X, J_W, J_Xn, J_XJ, J_Xs, J_Xo]
  have r223 : ∀ i : Int, 0 ≤ i → ¬ i = (nW M) → A M2 223 i = A M 223 i := fun i i0 i1 => by
    rw [e2]; simp (config := { maxSteps := 1000000 }) (disch := (first | omega | decide | assumption)) only [ltm_s, ok_n, rd_i, rd_j, fd_i, fd_j, wr_i, wr_j, fw_i, fw_j, ci_s, cj_s, cv_s, dv_n, dw_n, rt_1, rt_b, rt_20, rt_21, okb_0, okb_1, okb_b, nar_0, nar_1, nar_b, i_0, i_1, j_0, j_1, i_lit, j_lit, i_n, iI_add, iI_sub, iI_mul, iI_neg, jI_add, jI_sub, jI_mul, jI_neg, sh_1, an_1, xo_1, di_p, dj_p, i_64A, i_64, j_32, lq_ge, lq_lt, lq_le, lq_gt, lq_eq, i_lt, i_le, i_eq, j_eq, iI_A, jI_J, iI_b, iI_v, jI_v, ↓reduceIte, ite_true, ite_false, Int.reduceEq, Int.reduceLT, Int.reduceLE, Int.reduceAdd, Int.reduceSub, Int.reduceMul, Int.reduceNeg, not_true_eq_false, not_false_eq_true, A_Wn, A_WA, A_Wb, A_Ws, A_Wo, A_X, J_W, J_Xn, J_XJ, J_Xs, J_Xo]
  have s223 : A M2 223 (nW M) = k := by
    rw [e2]; simp (config := { maxSteps := 1000000 }) (disch := (first | omega | decide | assumption)) only [ltm_s, ok_n, rd_i, rd_j, fd_i, fd_j, wr_i, wr_j, fw_i, fw_j, ci_s, cj_s, cv_s, dv_n, dw_n, rt_1, rt_b, rt_20, rt_21, okb_0, okb_1, okb_b, nar_0, nar_1, nar_b, i_0, i_1, j_0, j_1, i_lit, j_lit, i_n, iI_add, iI_sub, iI_mul, iI_neg, jI_add, jI_sub, jI_mul, jI_neg, sh_1, an_1, xo_1, di_p, dj_p, i_64A, i_64, j_32, lq_ge, lq_lt, lq_le, lq_gt, lq_eq, i_lt, i_le, i_eq, j_eq, iI_A, jI_J, iI_b, iI_v, jI_v, ↓reduceIte, ite_true, ite_false, Int.reduceEq, Int.reduceLT, Int.reduceLE, Int.reduceAdd, Int.reduceSub, Int.reduceMul, Int.reduceNeg, not_true_eq_false, not_false_eq_true, A_Wn, A_WA, A_Wb, A_Ws, A_Wo, A_X, J_W, J_Xn, J_XJ, J_Xs, J_Xo]
  have r224 : ∀ i : Int, 0 ≤ i → ¬ i = (nW M) → A M2 224 i = A M 224 i := fun i i0 i1 => by
    rw [e2]; simp (config := { maxSteps := 1000000 }) (disch := (first | omega | decide | assumption)) only [ltm_s, ok_n, rd_i, rd_j, fd_i, fd_j, wr_i, wr_j, fw_i, fw_j, ci_s, cj_s, cv_s, dv_n, dw_n, rt_1, rt_b, rt_20, rt_21, okb_0, okb_1, okb_b, nar_0, nar_1, nar_b, i_0, i_1, j_0, j_1, i_lit, j_lit, i_n, iI_add, iI_sub, iI_mul, iI_neg, jI_add, jI_sub, jI_mul, jI_neg, sh_1, an_1, xo_1, di_p, dj_p, i_64A, i_64, j_32, lq_ge, lq_lt, lq_le, lq_gt, lq_eq, i_lt, i_le, i_eq, j_eq, iI_A, jI_J, iI_b, iI_v, jI_v, ↓reduceIte, ite_true, ite_false, Int.reduceEq, Int.reduceLT, Int.reduceLE, Int.reduceAdd, Int.reduceSub, Int.reduceMul, Int.reduceNeg, not_true_eq_false, not_false_eq_true, A_Wn, A_WA, A_Wb, A_Ws, A_Wo, A_X, J_W, J_Xn, J_XJ, J_Xs, J_Xo]
  have s224 : A M2 224 (nW M) = a := by
    rw [e2]; simp (config := { maxSteps := 1000000 }) (disch := (first | omega | decide | assumption)) only [ltm_s, ok_n, rd_i, rd_j, fd_i, fd_j, wr_i, wr_j, fw_i, fw_j, ci_s, cj_s, cv_s, dv_n, dw_n, rt_1, rt_b, rt_20, rt_21, okb_0, okb_1, okb_b, nar_0, nar_1, nar_b, i_0, i_1, j_0, j_1, i_lit, j_lit, i_n, iI_add, iI_sub, iI_mul, iI_neg, jI_add, jI_sub, jI_mul, jI_neg, sh_1, an_1, xo_1, di_p, dj_p, i_64A, i_64, j_32, lq_ge, lq_lt, lq_le, lq_gt, lq_eq, i_lt, i_le, i_eq, j_eq, iI_A, jI_J, iI_b, iI_v, jI_v, ↓reduceIte, ite_true, ite_false, Int.reduceEq, Int.reduceLT, Int.reduceLE, Int.reduceAdd, Int.reduceSub, Int.reduceMul, Int.reduceNeg, not_true_eq_false, not_false_eq_true, A_Wn, A_WA, A_Wb, A_Ws, A_Wo, A_X, J_W, J_Xn, J_XJ, J_Xs, J_Xo]
  have r225 : ∀ i : Int, 0 ≤ i → ¬ i = (nW M) → A M2 225 i = A M 225 i := fun i i0 i1 => by
    rw [e2]; simp (config := { maxSteps := 1000000 }) (disch := (first | omega | decide | assumption)) only [ltm_s, ok_n, rd_i, rd_j, fd_i, fd_j, wr_i, wr_j, fw_i, fw_j, ci_s, cj_s, cv_s, dv_n, dw_n, rt_1, rt_b, rt_20, rt_21, okb_0, okb_1, okb_b, nar_0, nar_1, nar_b, i_0, i_1, j_0, j_1, i_lit, j_lit, i_n, iI_add, iI_sub, iI_mul, iI_neg, jI_add, jI_sub, jI_mul, jI_neg, sh_1, an_1, xo_1, di_p, dj_p, i_64A, i_64, j_32, lq_ge, lq_lt, lq_le, lq_gt, lq_eq, i_lt, i_le, i_eq, j_eq, iI_A, jI_J, iI_b, iI_v, jI_v, ↓reduceIte, ite_true, ite_false, Int.reduceEq, Int.reduceLT, Int.reduceLE, Int.reduceAdd, Int.reduceSub, Int.reduceMul, Int.reduceNeg, not_true_eq_false, not_false_eq_true, A_Wn, A_WA, A_Wb, A_Ws, A_Wo, A_X, J_W, J_Xn, J_XJ, J_Xs, J_Xo]
  have s225 : A M2 225 (nW M) = b := by
    rw [e2]; simp (config := { maxSteps := 1000000 }) (disch := (first | omega | decide | assumption)) only [ltm_s, ok_n, rd_i, rd_j, fd_i, fd_j, wr_i, wr_j, fw_i, fw_j, ci_s, cj_s, cv_s, dv_n, dw_n, rt_1, rt_b, rt_20, rt_21, okb_0, okb_1, okb_b, nar_0, nar_1, nar_b, i_0, i_1, j_0, j_1, i_lit, j_lit, i_n, iI_add, iI_sub, iI_mul, iI_neg, jI_add, jI_sub, jI_mul, jI_neg, sh_1, an_1, xo_1, di_p, dj_p, i_64A, i_64, j_32, lq_ge, lq_lt, lq_le, lq_gt, lq_eq, i_lt, i_le, i_eq, j_eq, iI_A, jI_J, iI_b, iI_v, jI_v, ↓reduceIte, ite_true, ite_false, Int.reduceEq, Int.reduceLT, Int.reduceLE, Int.reduceAdd, Int.reduceSub, Int.reduceMul, Int.reduceNeg, not_true_eq_false, not_false_eq_true, A_Wn, A_WA, A_Wb, A_Ws, A_Wo, A_X, J_W, J_Xn, J_XJ, J_Xs, J_Xo]
  have r226 : ∀ i : Int, 0 ≤ i → ¬ i = (nW M) → A M2 226 i = A M 226 i := fun i i0 i1 => by
    rw [e2]; simp (config := { maxSteps := 1000000 }) (disch := (first | omega | decide | assumption)) only [ltm_s, ok_n, rd_i, rd_j, fd_i, fd_j, wr_i, wr_j, fw_i, fw_j, ci_s, cj_s, cv_s, dv_n, dw_n, rt_1, rt_b, rt_20, rt_21, okb_0, okb_1, okb_b, nar_0, nar_1, nar_b, i_0, i_1, j_0, j_1, i_lit, j_lit, i_n, iI_add, iI_sub, iI_mul, iI_neg, jI_add, jI_sub, jI_mul, jI_neg, sh_1, an_1, xo_1, di_p, dj_p, i_64A, i_64, j_32, lq_ge, lq_lt, lq_le, lq_gt, lq_eq, i_lt, i_le, i_eq, j_eq, iI_A, jI_J, iI_b, iI_v, jI_v, ↓reduceIte, ite_true, ite_false, Int.reduceEq, Int.reduceLT, Int.reduceLE, Int.reduceAdd, Int.reduceSub, Int.reduceMul, Int.reduceNeg, not_true_eq_false, not_false_eq_true, A_Wn, A_WA, A_Wb, A_Ws, A_Wo, A_X, J_W, J_Xn, J_XJ, J_Xs, J_Xo]
  have s226 : A M2 226 (nW M) = x := by
    rw [e2]; simp (config := { maxSteps := 1000000 }) (disch := (first | omega | decide | assumption)) only [ltm_s, ok_n, rd_i, rd_j, fd_i, fd_j, wr_i, wr_j, fw_i, fw_j, ci_s, cj_s, cv_s, dv_n, dw_n, rt_1, rt_b, rt_20, rt_21, okb_0, okb_1, okb_b, nar_0, nar_1, nar_b, i_0, i_1, j_0, j_1, i_lit, j_lit, i_n, iI_add, iI_sub, iI_mul, iI_neg, jI_add, jI_sub, jI_mul, jI_neg, sh_1, an_1, xo_1, di_p, dj_p, i_64A, i_64, j_32, lq_ge, lq_lt, lq_le, lq_gt, lq_eq, i_lt, i_le, i_eq, j_eq, iI_A, jI_J, iI_b, iI_v, jI_v, ↓reduceIte, ite_true, ite_false, Int.reduceEq, Int.reduceLT, Int.reduceLE, Int.reduceAdd, Int.reduceSub, Int.reduceMul, Int.reduceNeg, not_true_eq_false, not_false_eq_true, A_Wn, A_WA, A_Wb, A_Ws, A_Wo, A_X, J_W, J_Xn, J_XJ, J_Xs, J_Xo]
  have r227 : ∀ i : Int, 0 ≤ i → ¬ i = (nW M) → A M2 227 i = A M 227 i := fun i i0 i1 => by
    rw [e2]; simp (config := { maxSteps := 1000000 }) (disch := (first | omega | decide | assumption)) only [ltm_s, ok_n, rd_i, rd_j, fd_i, fd_j, wr_i, wr_j, fw_i, fw_j, ci_s, cj_s, cv_s, dv_n, dw_n, rt_1, rt_b, rt_20, rt_21, okb_0, okb_1, okb_b, nar_0, nar_1, nar_b, i_0, i_1, j_0, j_1, i_lit, j_lit, i_n, iI_add, iI_sub, iI_mul, iI_neg, jI_add, jI_sub, jI_mul, jI_neg, sh_1, an_1, xo_1, di_p, dj_p, i_64A, i_64, j_32, lq_ge, lq_lt, lq_le, lq_gt, lq_eq, i_lt, i_le, i_eq, j_eq, iI_A, jI_J, iI_b, iI_v, jI_v, ↓reduceIte, ite_true, ite_false, Int.reduceEq, Int.reduceLT, Int.reduceLE, Int.reduceAdd, Int.reduceSub, Int.reduceMul, Int.reduceNeg, not_true_eq_false, not_false_eq_true, A_Wn, A_WA, A_Wb, A_Ws, A_Wo, A_X, J_W, J_Xn, J_XJ, J_Xs, J_Xo]
  have s227 : A M2 227 (nW M) = o := by
    rw [e2]; simp (config := { maxSteps := 1000000 }) (disch := (first | omega | decide | assumption)) only [ltm_s, ok_n, rd_i, rd_j, fd_i, fd_j, wr_i, wr_j, fw_i, fw_j, ci_s, cj_s, cv_s, dv_n, dw_n, rt_1, rt_b, rt_20, rt_21, okb_0, okb_1, okb_b, nar_0, nar_1, nar_b, i_0, i_1, j_0, j_1, i_lit, j_lit, i_n, iI_add, iI_sub, iI_mul, iI_neg, jI_add, jI_sub, jI_mul, jI_neg, sh_1, an_1, xo_1, di_p, dj_p, i_64A, i_64, j_32, lq_ge, lq_lt, lq_le, lq_gt, lq_eq, i_lt, i_le, i_eq, j_eq, iI_A, jI_J, iI_b, iI_v, jI_v, ↓reduceIte, ite_true, ite_false, Int.reduceEq, Int.reduceLT, Int.reduceLE, Int.reduceAdd, Int.reduceSub, Int.reduceMul, Int.reduceNeg, not_true_eq_false, not_false_eq_true, A_Wn, A_WA, A_Wb, A_Ws, A_Wo, A_X, J_W, J_Xn, J_XJ, J_Xs, J_Xo]
  have r14 : ∀ i : Int, 0 ≤ i → ¬ i = (A M 219 31) → A M2 14 i = A M 14 i := fun i i0 i1 => by
    rw [e2]; simp (config := { maxSteps := 1000000 }) (disch := (first | omega | decide | assumption)) only [ltm_s, ok_n, rd_i, rd_j, fd_i, fd_j, wr_i, wr_j, fw_i, fw_j, ci_s, cj_s, cv_s, dv_n, dw_n, rt_1, rt_b, rt_20, rt_21, okb_0, okb_1, okb_b, nar_0, nar_1, nar_b, i_0, i_1, j_0, j_1, i_lit, j_lit, i_n, iI_add, iI_sub, iI_mul, iI_neg, jI_add, jI_sub, jI_mul, jI_neg, sh_1, an_1, xo_1, di_p, dj_p, i_64A, i_64, j_32, lq_ge, lq_lt, lq_le, lq_gt, lq_eq, i_lt, i_le, i_eq, j_eq, iI_A, jI_J, iI_b, iI_v, jI_v, ↓reduceIte, ite_true, ite_false, Int.reduceEq, Int.reduceLT, Int.reduceLE, Int.reduceAdd, Int.reduceSub, Int.reduceMul, Int.reduceNeg, not_true_eq_false, not_false_eq_true, A_Wn, A_WA, A_Wb, A_Ws, A_Wo, A_X, J_W, J_Xn, J_XJ, J_Xs, J_Xo]
  have s14 : A M2 14 (A M 219 31) = 1 := by
    rw [e2]; simp (config := { maxSteps := 1000000 }) (disch := (first | omega | decide | assumption)) only [ltm_s, ok_n, rd_i, rd_j, fd_i, fd_j, wr_i, wr_j, fw_i, fw_j, ci_s, cj_s, cv_s, dv_n, dw_n, rt_1, rt_b, rt_20, rt_21, okb_0, okb_1, okb_b, nar_0, nar_1, nar_b, i_0, i_1, j_0, j_1, i_lit, j_lit, i_n, iI_add, iI_sub, iI_mul, iI_neg, jI_add, jI_sub, jI_mul, jI_neg, sh_1, an_1, xo_1, di_p, dj_p, i_64A, i_64, j_32, lq_ge, lq_lt, lq_le, lq_gt, lq_eq, i_lt, i_le, i_eq, j_eq, iI_A, jI_J, iI_b, iI_v, jI_v, ↓reduceIte, ite_true, ite_false, Int.reduceEq, Int.reduceLT, Int.reduceLE, Int.reduceAdd, Int.reduceSub, Int.reduceMul, Int.reduceNeg, not_true_eq_false, not_false_eq_true, A_Wn, A_WA, A_Wb, A_Ws, A_Wo, A_X, J_W, J_Xn, J_XJ, J_Xs, J_Xo]
  have r15 : ∀ i : Int, 0 ≤ i → ¬ i = (A M 219 31) → A M2 15 i = A M 15 i := fun i i0 i1 => by
    rw [e2]; simp (config := { maxSteps := 1000000 }) (disch := (first | omega | decide | assumption)) only [ltm_s, ok_n, rd_i, rd_j, fd_i, fd_j, wr_i, wr_j, fw_i, fw_j, ci_s, cj_s, cv_s, dv_n, dw_n, rt_1, rt_b, rt_20, rt_21, okb_0, okb_1, okb_b, nar_0, nar_1, nar_b, i_0, i_1, j_0, j_1, i_lit, j_lit, i_n, iI_add, iI_sub, iI_mul, iI_neg, jI_add, jI_sub, jI_mul, jI_neg, sh_1, an_1, xo_1, di_p, dj_p, i_64A, i_64, j_32, lq_ge, lq_lt, lq_le, lq_gt, lq_eq, i_lt, i_le, i_eq, j_eq, iI_A, jI_J, iI_b, iI_v, jI_v, ↓reduceIte, ite_true, ite_false, Int.reduceEq, Int.reduceLT, Int.reduceLE, Int.reduceAdd, Int.reduceSub, Int.reduceMul, Int.reduceNeg, not_true_eq_false, not_false_eq_true, A_Wn, A_WA, A_Wb, A_Ws, A_Wo, A_X, J_W, J_Xn, J_XJ, J_Xs, J_Xo]
  have s15 : A M2 15 (A M 219 31) = nW M := by
    rw [e2]; simp (config := { maxSteps := 1000000 }) (disch := (first | omega | decide | assumption)) only [ltm_s, ok_n, rd_i, rd_j, fd_i, fd_j, wr_i, wr_j, fw_i, fw_j, ci_s, cj_s, cv_s, dv_n, dw_n, rt_1, rt_b, rt_20, rt_21, okb_0, okb_1, okb_b, nar_0, nar_1, nar_b, i_0, i_1, j_0, j_1, i_lit, j_lit, i_n, iI_add, iI_sub, iI_mul, iI_neg, jI_add, jI_sub, jI_mul, jI_neg, sh_1, an_1, xo_1, di_p, dj_p, i_64A, i_64, j_32, lq_ge, lq_lt, lq_le, lq_gt, lq_eq, i_lt, i_le, i_eq, j_eq, iI_A, jI_J, iI_b, iI_v, jI_v, ↓reduceIte, ite_true, ite_false, Int.reduceEq, Int.reduceLT, Int.reduceLE, Int.reduceAdd, Int.reduceSub, Int.reduceMul, Int.reduceNeg, not_true_eq_false, not_false_eq_true, A_Wn, A_WA, A_Wb, A_Ws, A_Wo, A_X, J_W, J_Xn, J_XJ, J_Xs, J_Xo]
  have r244 : ∀ i : Int, 0 ≤ i → ¬ i = (A M 219 31) → A M2 244 i = A M 244 i := fun i i0 i1 => by
    rw [e2]; simp (config := { maxSteps := 1000000 }) (disch := (first | omega | decide | assumption)) only [ltm_s, ok_n, rd_i, rd_j, fd_i, fd_j, wr_i, wr_j, fw_i, fw_j, ci_s, cj_s, cv_s, dv_n, dw_n, rt_1, rt_b, rt_20, rt_21, okb_0, okb_1, okb_b, nar_0, nar_1, nar_b, i_0, i_1, j_0, j_1, i_lit, j_lit, i_n, iI_add, iI_sub, iI_mul, iI_neg, jI_add, jI_sub, jI_mul, jI_neg, sh_1, an_1, xo_1, di_p, dj_p, i_64A, i_64, j_32, lq_ge, lq_lt, lq_le, lq_gt, lq_eq, i_lt, i_le, i_eq, j_eq, iI_A, jI_J, iI_b, iI_v, jI_v, ↓reduceIte, ite_true, ite_false, Int.reduceEq, Int.reduceLT, Int.reduceLE, Int.reduceAdd, Int.reduceSub, Int.reduceMul, Int.reduceNeg, not_true_eq_false, not_false_eq_true, A_Wn, A_WA, A_Wb, A_Ws, A_Wo, A_X, J_W, J_Xn, J_XJ, J_Xs, J_Xo]
  have s244 : A M2 244 (A M 219 31) = 1 := by
    rw [e2]; simp (config := { maxSteps := 1000000 }) (disch := (first | omega | decide | assumption)) only [ltm_s, ok_n, rd_i, rd_j, fd_i, fd_j, wr_i, wr_j, fw_i, fw_j, ci_s, cj_s, cv_s, dv_n, dw_n, rt_1, rt_b, rt_20, rt_21, okb_0, okb_1, okb_b, nar_0, nar_1, nar_b, i_0, i_1, j_0, j_1, i_lit, j_lit, i_n, iI_add, iI_sub, iI_mul, iI_neg, jI_add, jI_sub, jI_mul, jI_neg, sh_1, an_1, xo_1, di_p, dj_p, i_64A, i_64, j_32, lq_ge, lq_lt, lq_le, lq_gt, lq_eq, i_lt, i_le, i_eq, j_eq, iI_A, jI_J, iI_b, iI_v, jI_v, ↓reduceIte, ite_true, ite_false, Int.reduceEq, Int.reduceLT, Int.reduceLE, Int.reduceAdd, Int.reduceSub, Int.reduceMul, Int.reduceNeg, not_true_eq_false, not_false_eq_true, A_Wn, A_WA, A_Wb, A_Ws, A_Wo, A_X, J_W, J_Xn, J_XJ, J_Xs, J_Xo]
  have r245 : ∀ i : Int, 0 ≤ i → ¬ i = (A M 219 31) → A M2 245 i = A M 245 i := fun i i0 i1 => by
    rw [e2]; simp (config := { maxSteps := 1000000 }) (disch := (first | omega | decide | assumption)) only [ltm_s, ok_n, rd_i, rd_j, fd_i, fd_j, wr_i, wr_j, fw_i, fw_j, ci_s, cj_s, cv_s, dv_n, dw_n, rt_1, rt_b, rt_20, rt_21, okb_0, okb_1, okb_b, nar_0, nar_1, nar_b, i_0, i_1, j_0, j_1, i_lit, j_lit, i_n, iI_add, iI_sub, iI_mul, iI_neg, jI_add, jI_sub, jI_mul, jI_neg, sh_1, an_1, xo_1, di_p, dj_p, i_64A, i_64, j_32, lq_ge, lq_lt, lq_le, lq_gt, lq_eq, i_lt, i_le, i_eq, j_eq, iI_A, jI_J, iI_b, iI_v, jI_v, ↓reduceIte, ite_true, ite_false, Int.reduceEq, Int.reduceLT, Int.reduceLE, Int.reduceAdd, Int.reduceSub, Int.reduceMul, Int.reduceNeg, not_true_eq_false, not_false_eq_true, A_Wn, A_WA, A_Wb, A_Ws, A_Wo, A_X, J_W, J_Xn, J_XJ, J_Xs, J_Xo]
  have s245 : A M2 245 (A M 219 31) = nW M := by
    rw [e2]; simp (config := { maxSteps := 1000000 }) (disch := (first | omega | decide | assumption)) only [ltm_s, ok_n, rd_i, rd_j, fd_i, fd_j, wr_i, wr_j, fw_i, fw_j, ci_s, cj_s, cv_s, dv_n, dw_n, rt_1, rt_b, rt_20, rt_21, okb_0, okb_1, okb_b, nar_0, nar_1, nar_b, i_0, i_1, j_0, j_1, i_lit, j_lit, i_n, iI_add, iI_sub, iI_mul, iI_neg, jI_add, jI_sub, jI_mul, jI_neg, sh_1, an_1, xo_1, di_p, dj_p, i_64A, i_64, j_32, lq_ge, lq_lt, lq_le, lq_gt, lq_eq, i_lt, i_le, i_eq, j_eq, iI_A, jI_J, iI_b, iI_v, jI_v, ↓reduceIte, ite_true, ite_false, Int.reduceEq, Int.reduceLT, Int.reduceLE, Int.reduceAdd, Int.reduceSub, Int.reduceMul, Int.reduceNeg, not_true_eq_false, not_false_eq_true, A_Wn, A_WA, A_Wb, A_Ws, A_Wo, A_X, J_W, J_Xn, J_XJ, J_Xs, J_Xo]
  have f4 : nW M2 = nW M + 1 := by
    show A M2 219 4 = _
    rw [e2]; simp (config := { maxSteps := 1000000 }) (disch := (first | omega | decide | assumption)) only [ltm_s, ok_n, rd_i, rd_j, fd_i, fd_j, wr_i, wr_j, fw_i, fw_j, ci_s, cj_s, cv_s, dv_n, dw_n, rt_1, rt_b, rt_20, rt_21, okb_0, okb_1, okb_b, nar_0, nar_1, nar_b, i_0, i_1, j_0, j_1, i_lit, j_lit, i_n, iI_add, iI_sub, iI_mul, iI_neg, jI_add, jI_sub, jI_mul, jI_neg, sh_1, an_1, xo_1, di_p, dj_p, i_64A, i_64, j_32, lq_ge, lq_lt, lq_le, lq_gt, lq_eq, i_lt, i_le, i_eq, j_eq, iI_A, jI_J, iI_b, iI_v, jI_v, ↓reduceIte, ite_true, ite_false, Int.reduceEq, Int.reduceLT, Int.reduceLE, Int.reduceAdd, Int.reduceSub, Int.reduceMul, Int.reduceNeg, not_true_eq_false, not_false_eq_true, A_Wn, A_WA, A_Wb, A_Ws, A_Wo, A_X, J_W, J_Xn, J_XJ, J_Xs, J_Xo]
  have f7 : A M2 1 7 = nW M + 1 := by
    rw [e2]; simp (config := { maxSteps := 1000000 }) (disch := (first | omega | decide | assumption)) only [ltm_s, ok_n, rd_i, rd_j, fd_i, fd_j, wr_i, wr_j, fw_i, fw_j, ci_s, cj_s, cv_s, dv_n, dw_n, rt_1, rt_b, rt_20, rt_21, okb_0, okb_1, okb_b, nar_0, nar_1, nar_b, i_0, i_1, j_0, j_1, i_lit, j_lit, i_n, iI_add, iI_sub, iI_mul, iI_neg, jI_add, jI_sub, jI_mul, jI_neg, sh_1, an_1, xo_1, di_p, dj_p, i_64A, i_64, j_32, lq_ge, lq_lt, lq_le, lq_gt, lq_eq, i_lt, i_le, i_eq, j_eq, iI_A, jI_J, iI_b, iI_v, jI_v, ↓reduceIte, ite_true, ite_false, Int.reduceEq, Int.reduceLT, Int.reduceLE, Int.reduceAdd, Int.reduceSub, Int.reduceMul, Int.reduceNeg, not_true_eq_false, not_false_eq_true, A_Wn, A_WA, A_Wb, A_Ws, A_Wo, A_X, J_W, J_Xn, J_XJ, J_Xs, J_Xo]
  have eJ' : nJ M2 = nJ M := c.f (a := 219) (z := 0) rfl
  have eD' : nD M2 = nD M := c.f (a := 219) (z := 10) rfl
  have eX : ∀ z, px M2 z = px M z := fun z => c.a (a := 220) rfl
  have eY : ∀ z, py M2 z = py M z := fun z => c.a (a := 221) rfl
  have bold : ∀ e : Int, 0 ≤ e → e < 2 * nW M → bg M2 e = bg M e := fun e y0 y1 => by
    unfold bg
    rw [r224 (e / 2) (by omega) (by omega), r225 (e / 2) (by omega) (by omega)]
  have eold : ∀ e : Int, 0 ≤ e → e < 2 * nW M → en M2 e = en M e := fun e y0 y1 => by
    unfold en
    rw [r224 (e / 2) (by omega) (by omega), r225 (e / 2) (by omega) (by omega)]
  have bn0 : bg M2 (2 * nW M) = a := by
    unfold bg
    rw [if_pos (by omega), show 2 * nW M / 2 = nW M by omega, s224]
  have bn1 : bg M2 (2 * nW M + 1) = b := by
    unfold bg
    rw [if_neg (by omega), show (2 * nW M + 1) / 2 = nW M by omega, s225]
  have en0 : en M2 (2 * nW M) = b := by
    unfold en
    rw [if_pos (by omega), show 2 * nW M / 2 = nW M by omega, s225]
  have en1 : en M2 (2 * nW M + 1) = a := by
    unfold en
    rw [if_neg (by omega), show (2 * nW M + 1) / 2 = nW M by omega, s224]
  have r8 : ∀ e : Int, 0 ≤ e → e < 2 * nW M → A M2 8 e = A M 8 e ∧ A M2 9 e = A M 9 e ∧ A M2 10 e = A M 10 e := fun e y0 y1 => by
    rw [e2]
    exact ⟨by simp (config := { maxSteps := 1000000 }) (disch := (first | omega | decide | assumption)) only [ltm_s, ok_n, rd_i, rd_j, fd_i, fd_j, wr_i, wr_j, fw_i, fw_j, ci_s, cj_s, cv_s, dv_n, dw_n, rt_1, rt_b, rt_20, rt_21, okb_0, okb_1, okb_b, nar_0, nar_1, nar_b, i_0, i_1, j_0, j_1, i_lit, j_lit, i_n, iI_add, iI_sub, iI_mul, iI_neg, jI_add, jI_sub, jI_mul, jI_neg, sh_1, an_1, xo_1, di_p, dj_p, i_64A, i_64, j_32, lq_ge, lq_lt, lq_le, lq_gt, lq_eq, i_lt, i_le, i_eq, j_eq, iI_A, jI_J, iI_b, iI_v, jI_v, ↓reduceIte, ite_true, ite_false, Int.reduceEq, Int.reduceLT, Int.reduceLE, Int.reduceAdd, Int.reduceSub, Int.reduceMul, Int.reduceNeg, not_true_eq_false, not_false_eq_true, A_Wn, A_WA, A_Wb, A_Ws, A_Wo, A_X, J_W, J_Xn, J_XJ, J_Xs, J_Xo], by simp (config := { maxSteps := 1000000 }) (disch := (first | omega | decide | assumption)) only [ltm_s, ok_n, rd_i, rd_j, fd_i, fd_j, wr_i, wr_j, fw_i, fw_j, ci_s, cj_s, cv_s, dv_n, dw_n, rt_1, rt_b, rt_20, rt_21, okb_0, okb_1, okb_b, nar_0, nar_1, nar_b, i_0, i_1, j_0, j_1, i_lit, j_lit, i_n, iI_add, iI_sub, iI_mul, iI_neg, jI_add, jI_sub, jI_mul, jI_neg, sh_1, an_1, xo_1, di_p, dj_p, i_64A, i_64, j_32, lq_ge, lq_lt, lq_le, lq_gt, lq_eq, i_lt, i_le, i_eq, j_eq, iI_A, jI_J, iI_b, iI_v, jI_v, ↓reduceIte, ite_true, ite_false, Int.reduceEq, Int.reduceLT, Int.reduceLE, Int.reduceAdd, Int.reduceSub, Int.reduceMul, Int.reduceNeg, not_true_eq_false, not_false_eq_true, A_Wn, A_WA, A_Wb, A_Ws, A_Wo, A_X, J_W, J_Xn, J_XJ, J_Xs, J_Xo], by simp (config := { maxSteps := 1000000 }) (disch := (first | omega | decide | assumption)) only [ltm_s, ok_n, rd_i, rd_j, fd_i, fd_j, wr_i, wr_j, fw_i, fw_j, ci_s, cj_s, cv_s, dv_n, dw_n, rt_1, rt_b, rt_20, rt_21, okb_0, okb_1, okb_b, nar_0, nar_1, nar_b, i_0, i_1, j_0, j_1, i_lit, j_lit, i_n, iI_add, iI_sub, iI_mul, iI_neg, jI_add, jI_sub, jI_mul, jI_neg, sh_1, an_1, xo_1, di_p, dj_p, i_64A, i_64, j_32, lq_ge, lq_lt, lq_le, lq_gt, lq_eq, i_lt, i_le, i_eq, j_eq, iI_A, jI_J, iI_b, iI_v, jI_v, ↓reduceIte, ite_true, ite_false, Int.reduceEq, Int.reduceLT, Int.reduceLE, Int.reduceAdd, Int.reduceSub, Int.reduceMul, Int.reduceNeg, not_true_eq_false, not_false_eq_true, A_Wn, A_WA, A_Wb, A_Ws, A_Wo, A_X, J_W, J_Xn, J_XJ, J_Xs, J_Xo]⟩
  have s80 : A M2 8 (2 * nW M) = a ∧ A M2 9 (2 * nW M) = px M b - px M a ∧ A M2 10 (2 * nW M) = py M b - py M a := by
    have xx := (j3 a (by omega) (by omega))
    have yy := (j3 b (by omega) (by omega))
    rw [e2]
    exact ⟨by simp (config := { maxSteps := 1000000 }) (disch := (first | omega | decide | assumption)) only [ltm_s, ok_n, rd_i, rd_j, fd_i, fd_j, wr_i, wr_j, fw_i, fw_j, ci_s, cj_s, cv_s, dv_n, dw_n, rt_1, rt_b, rt_20, rt_21, okb_0, okb_1, okb_b, nar_0, nar_1, nar_b, i_0, i_1, j_0, j_1, i_lit, j_lit, i_n, iI_add, iI_sub, iI_mul, iI_neg, jI_add, jI_sub, jI_mul, jI_neg, sh_1, an_1, xo_1, di_p, dj_p, i_64A, i_64, j_32, lq_ge, lq_lt, lq_le, lq_gt, lq_eq, i_lt, i_le, i_eq, j_eq, iI_A, jI_J, iI_b, iI_v, jI_v, ↓reduceIte, ite_true, ite_false, Int.reduceEq, Int.reduceLT, Int.reduceLE, Int.reduceAdd, Int.reduceSub, Int.reduceMul, Int.reduceNeg, not_true_eq_false, not_false_eq_true, A_Wn, A_WA, A_Wb, A_Ws, A_Wo, A_X, J_W, J_Xn, J_XJ, J_Xs, J_Xo], by simp (config := { maxSteps := 1000000 }) (disch := (first | omega | decide | assumption)) only [ltm_s, ok_n, rd_i, rd_j, fd_i, fd_j, wr_i, wr_j, fw_i, fw_j, ci_s, cj_s, cv_s, dv_n, dw_n, rt_1, rt_b, rt_20, rt_21, okb_0, okb_1, okb_b, nar_0, nar_1, nar_b, i_0, i_1, j_0, j_1, i_lit, j_lit, i_n, iI_add, iI_sub, iI_mul, iI_neg, jI_add, jI_sub, jI_mul, jI_neg, sh_1, an_1, xo_1, di_p, dj_p, i_64A, i_64, j_32, lq_ge, lq_lt, lq_le, lq_gt, lq_eq, i_lt, i_le, i_eq, j_eq, iI_A, jI_J, iI_b, iI_v, jI_v, ↓reduceIte, ite_true, ite_false, Int.reduceEq, Int.reduceLT, Int.reduceLE, Int.reduceAdd, Int.reduceSub, Int.reduceMul, Int.reduceNeg, not_true_eq_false, not_false_eq_true, A_Wn, A_WA, A_Wb, A_Ws, A_Wo, A_X, J_W, J_Xn, J_XJ, J_Xs, J_Xo], by simp (config := { maxSteps := 1000000 }) (disch := (first | omega | decide | assumption)) only [ltm_s, ok_n, rd_i, rd_j, fd_i, fd_j, wr_i, wr_j, fw_i, fw_j, ci_s, cj_s, cv_s, dv_n, dw_n, rt_1, rt_b, rt_20, rt_21, okb_0, okb_1, okb_b, nar_0, nar_1, nar_b, i_0, i_1, j_0, j_1, i_lit, j_lit, i_n, iI_add, iI_sub, iI_mul, iI_neg, jI_add, jI_sub, jI_mul, jI_neg, sh_1, an_1, xo_1, di_p, dj_p, i_64A, i_64, j_32, lq_ge, lq_lt, lq_le, lq_gt, lq_eq, i_lt, i_le, i_eq, j_eq, iI_A, jI_J, iI_b, iI_v, jI_v, ↓reduceIte, ite_true, ite_false, Int.reduceEq, Int.reduceLT, Int.reduceLE, Int.reduceAdd, Int.reduceSub, Int.reduceMul, Int.reduceNeg, not_true_eq_false, not_false_eq_true, A_Wn, A_WA, A_Wb, A_Ws, A_Wo, A_X, J_W, J_Xn, J_XJ, J_Xs, J_Xo]⟩
  have s81 : A M2 8 (2 * nW M + 1) = b ∧ A M2 9 (2 * nW M + 1) = px M a - px M b ∧ A M2 10 (2 * nW M + 1) = py M a - py M b := by
    have xx := (j3 a (by omega) (by omega))
    have yy := (j3 b (by omega) (by omega))
    rw [e2]
    exact ⟨by simp (config := { maxSteps := 1000000 }) (disch := (first | omega | decide | assumption)) only [ltm_s, ok_n, rd_i, rd_j, fd_i, fd_j, wr_i, wr_j, fw_i, fw_j, ci_s, cj_s, cv_s, dv_n, dw_n, rt_1, rt_b, rt_20, rt_21, okb_0, okb_1, okb_b, nar_0, nar_1, nar_b, i_0, i_1, j_0, j_1, i_lit, j_lit, i_n, iI_add, iI_sub, iI_mul, iI_neg, jI_add, jI_sub, jI_mul, jI_neg, sh_1, an_1, xo_1, di_p, dj_p, i_64A, i_64, j_32, lq_ge, lq_lt, lq_le, lq_gt, lq_eq, i_lt, i_le, i_eq, j_eq, iI_A, jI_J, iI_b, iI_v, jI_v, ↓reduceIte, ite_true, ite_false, Int.reduceEq, Int.reduceLT, Int.reduceLE, Int.reduceAdd, Int.reduceSub, Int.reduceMul, Int.reduceNeg, not_true_eq_false, not_false_eq_true, A_Wn, A_WA, A_Wb, A_Ws, A_Wo, A_X, J_W, J_Xn, J_XJ, J_Xs, J_Xo], by simp (config := { maxSteps := 1000000 }) (disch := (first | omega | decide | assumption)) only [ltm_s, ok_n, rd_i, rd_j, fd_i, fd_j, wr_i, wr_j, fw_i, fw_j, ci_s, cj_s, cv_s, dv_n, dw_n, rt_1, rt_b, rt_20, rt_21, okb_0, okb_1, okb_b, nar_0, nar_1, nar_b, i_0, i_1, j_0, j_1, i_lit, j_lit, i_n, iI_add, iI_sub, iI_mul, iI_neg, jI_add, jI_sub, jI_mul, jI_neg, sh_1, an_1, xo_1, di_p, dj_p, i_64A, i_64, j_32, lq_ge, lq_lt, lq_le, lq_gt, lq_eq, i_lt, i_le, i_eq, j_eq, iI_A, jI_J, iI_b, iI_v, jI_v, ↓reduceIte, ite_true, ite_false, Int.reduceEq, Int.reduceLT, Int.reduceLE, Int.reduceAdd, Int.reduceSub, Int.reduceMul, Int.reduceNeg, not_true_eq_false, not_false_eq_true, A_Wn, A_WA, A_Wb, A_Ws, A_Wo, A_X, J_W, J_Xn, J_XJ, J_Xs, J_Xo], by simp (config := { maxSteps := 1000000 }) (disch := (first | omega | decide | assumption)) only [ltm_s, ok_n, rd_i, rd_j, fd_i, fd_j, wr_i, wr_j, fw_i, fw_j, ci_s, cj_s, cv_s, dv_n, dw_n, rt_1, rt_b, rt_20, rt_21, okb_0, okb_1, okb_b, nar_0, nar_1, nar_b, i_0, i_1, j_0, j_1, i_lit, j_lit, i_n, iI_add, iI_sub, iI_mul, iI_neg, jI_add, jI_sub, jI_mul, jI_neg, sh_1, an_1, xo_1, di_p, dj_p, i_64A, i_64, j_32, lq_ge, lq_lt, lq_le, lq_gt, lq_eq, i_lt, i_le, i_eq, j_eq, iI_A, jI_J, iI_b, iI_v, jI_v, ↓reduceIte, ite_true, ite_false, Int.reduceEq, Int.reduceLT, Int.reduceLE, Int.reduceAdd, Int.reduceSub, Int.reduceMul, Int.reduceNeg, not_true_eq_false, not_false_eq_true, A_Wn, A_WA, A_Wb, A_Ws, A_Wo, A_X, J_W, J_Xn, J_XJ, J_Xs, J_Xo]⟩
  have r16 : ∀ i : Int, 0 ≤ i → ¬ i = a * 40 + A M 17 a → ¬ i = b * 40 + A M 17 b → A M2 16 i = A M 16 i := fun i y0 y1 y2 => by
    rw [e2]; simp (config := { maxSteps := 1000000 }) (disch := (first | omega | decide | assumption)) only [ltm_s, ok_n, rd_i, rd_j, fd_i, fd_j, wr_i, wr_j, fw_i, fw_j, ci_s, cj_s, cv_s, dv_n, dw_n, rt_1, rt_b, rt_20, rt_21, okb_0, okb_1, okb_b, nar_0, nar_1, nar_b, i_0, i_1, j_0, j_1, i_lit, j_lit, i_n, iI_add, iI_sub, iI_mul, iI_neg, jI_add, jI_sub, jI_mul, jI_neg, sh_1, an_1, xo_1, di_p, dj_p, i_64A, i_64, j_32, lq_ge, lq_lt, lq_le, lq_gt, lq_eq, i_lt, i_le, i_eq, j_eq, iI_A, jI_J, iI_b, iI_v, jI_v, ↓reduceIte, ite_true, ite_false, Int.reduceEq, Int.reduceLT, Int.reduceLE, Int.reduceAdd, Int.reduceSub, Int.reduceMul, Int.reduceNeg, not_true_eq_false, not_false_eq_true, A_Wn, A_WA, A_Wb, A_Ws, A_Wo, A_X, J_W, J_Xn, J_XJ, J_Xs, J_Xo]
  have s16a : A M2 16 (a * 40 + A M 17 a) = 2 * nW M := by
    have : ¬ a * 40 + A M 17 a = b * 40 + A M 17 b := by omega
    rw [e2]; simp (config := { maxSteps := 1000000 }) (disch := (first | omega | decide | assumption)) only [ltm_s, ok_n, rd_i, rd_j, fd_i, fd_j, wr_i, wr_j, fw_i, fw_j, ci_s, cj_s, cv_s, dv_n, dw_n, rt_1, rt_b, rt_20, rt_21, okb_0, okb_1, okb_b, nar_0, nar_1, nar_b, i_0, i_1, j_0, j_1, i_lit, j_lit, i_n, iI_add, iI_sub, iI_mul, iI_neg, jI_add, jI_sub, jI_mul, jI_neg, sh_1, an_1, xo_1, di_p, dj_p, i_64A, i_64, j_32, lq_ge, lq_lt, lq_le, lq_gt, lq_eq, i_lt, i_le, i_eq, j_eq, iI_A, jI_J, iI_b, iI_v, jI_v, ↓reduceIte, ite_true, ite_false, Int.reduceEq, Int.reduceLT, Int.reduceLE, Int.reduceAdd, Int.reduceSub, Int.reduceMul, Int.reduceNeg, not_true_eq_false, not_false_eq_true, A_Wn, A_WA, A_Wb, A_Ws, A_Wo, A_X, J_W, J_Xn, J_XJ, J_Xs, J_Xo]
  have s16b : A M2 16 (b * 40 + A M 17 b) = 2 * nW M + 1 := by
    rw [e2]; simp (config := { maxSteps := 1000000 }) (disch := (first | omega | decide | assumption)) only [ltm_s, ok_n, rd_i, rd_j, fd_i, fd_j, wr_i, wr_j, fw_i, fw_j, ci_s, cj_s, cv_s, dv_n, dw_n, rt_1, rt_b, rt_20, rt_21, okb_0, okb_1, okb_b, nar_0, nar_1, nar_b, i_0, i_1, j_0, j_1, i_lit, j_lit, i_n, iI_add, iI_sub, iI_mul, iI_neg, jI_add, jI_sub, jI_mul, jI_neg, sh_1, an_1, xo_1, di_p, dj_p, i_64A, i_64, j_32, lq_ge, lq_lt, lq_le, lq_gt, lq_eq, i_lt, i_le, i_eq, j_eq, iI_A, jI_J, iI_b, iI_v, jI_v, ↓reduceIte, ite_true, ite_false, Int.reduceEq, Int.reduceLT, Int.reduceLE, Int.reduceAdd, Int.reduceSub, Int.reduceMul, Int.reduceNeg, not_true_eq_false, not_false_eq_true, A_Wn, A_WA, A_Wb, A_Ws, A_Wo, A_X, J_W, J_Xn, J_XJ, J_Xs, J_Xo]
  have r17 : ∀ i : Int, 0 ≤ i → ¬ i = a → ¬ i = b → A M2 17 i = A M 17 i := fun i y0 y1 y2 => by
    rw [e2]; simp (config := { maxSteps := 1000000 }) (disch := (first | omega | decide | assumption)) only [ltm_s, ok_n, rd_i, rd_j, fd_i, fd_j, wr_i, wr_j, fw_i, fw_j, ci_s, cj_s, cv_s, dv_n, dw_n, rt_1, rt_b, rt_20, rt_21, okb_0, okb_1, okb_b, nar_0, nar_1, nar_b, i_0, i_1, j_0, j_1, i_lit, j_lit, i_n, iI_add, iI_sub, iI_mul, iI_neg, jI_add, jI_sub, jI_mul, jI_neg, sh_1, an_1, xo_1, di_p, dj_p, i_64A, i_64, j_32, lq_ge, lq_lt, lq_le, lq_gt, lq_eq, i_lt, i_le, i_eq, j_eq, iI_A, jI_J, iI_b, iI_v, jI_v, ↓reduceIte, ite_true, ite_false, Int.reduceEq, Int.reduceLT, Int.reduceLE, Int.reduceAdd, Int.reduceSub, Int.reduceMul, Int.reduceNeg, not_true_eq_false, not_false_eq_true, A_Wn, A_WA, A_Wb, A_Ws, A_Wo, A_X, J_W, J_Xn, J_XJ, J_Xs, J_Xo]
  have s17a : A M2 17 a = A M 17 a + 1 := by
    rw [e2]; simp (config := { maxSteps := 1000000 }) (disch := (first | omega | decide | assumption)) only [ltm_s, ok_n, rd_i, rd_j, fd_i, fd_j, wr_i, wr_j, fw_i, fw_j, ci_s, cj_s, cv_s, dv_n, dw_n, rt_1, rt_b, rt_20, rt_21, okb_0, okb_1, okb_b, nar_0, nar_1, nar_b, i_0, i_1, j_0, j_1, i_lit, j_lit, i_n, iI_add, iI_sub, iI_mul, iI_neg, jI_add, jI_sub, jI_mul, jI_neg, sh_1, an_1, xo_1, di_p, dj_p, i_64A, i_64, j_32, lq_ge, lq_lt, lq_le, lq_gt, lq_eq, i_lt, i_le, i_eq, j_eq, iI_A, jI_J, iI_b, iI_v, jI_v, ↓reduceIte, ite_true, ite_false, Int.reduceEq, Int.reduceLT, Int.reduceLE, Int.reduceAdd, Int.reduceSub, Int.reduceMul, Int.reduceNeg, not_true_eq_false, not_false_eq_true, A_Wn, A_WA, A_Wb, A_Ws, A_Wo, A_X, J_W, J_Xn, J_XJ, J_Xs, J_Xo]
  have s17b : A M2 17 b = A M 17 b + 1 := by
    rw [e2]; simp (config := { maxSteps := 1000000 }) (disch := (first | omega | decide | assumption)) only [ltm_s, ok_n, rd_i, rd_j, fd_i, fd_j, wr_i, wr_j, fw_i, fw_j, ci_s, cj_s, cv_s, dv_n, dw_n, rt_1, rt_b, rt_20, rt_21, okb_0, okb_1, okb_b, nar_0, nar_1, nar_b, i_0, i_1, j_0, j_1, i_lit, j_lit, i_n, iI_add, iI_sub, iI_mul, iI_neg, jI_add, jI_sub, jI_mul, jI_neg, sh_1, an_1, xo_1, di_p, dj_p, i_64A, i_64, j_32, lq_ge, lq_lt, lq_le, lq_gt, lq_eq, i_lt, i_le, i_eq, j_eq, iI_A, jI_J, iI_b, iI_v, jI_v, ↓reduceIte, ite_true, ite_false, Int.reduceEq, Int.reduceLT, Int.reduceLE, Int.reduceAdd, Int.reduceSub, Int.reduceMul, Int.reduceNeg, not_true_eq_false, not_false_eq_true, A_Wn, A_WA, A_Wb, A_Ws, A_Wo, A_X, J_W, J_Xn, J_XJ, J_Xs, J_Xo]
  refine ⟨c.i1 rfl ⟨j1, j2, j3, j4⟩, ?_, ?_, ?_, c.i5 rfl h5, c.i6 rfl h6, ?_, c.i8 rfl h8, c.i9 rfl h9, ?_, c.i11 rfl h11, c.i12 rfl h12, ?_, c.i14 rfl h14, c.i15 rfl h15, c.i16 rfl h16, ?_, c.i18 rfl h18, c.i19 rfl h19, c.imk rfl hm, c.itd rfl ht⟩
  · refine ⟨by rw [f4]; omega, by rw [f4, f7], fun w w0 w1 => ?_, fun e y0 y1 => ?_⟩
    · rw [f4] at w1
      show (0 ≤ A M2 223 w ∧ A M2 223 w ≤ 5) ∧ (2 ≤ A M2 226 w ∧ A M2 226 w ≤ 999) ∧ (A M2 227 w = 0 ∨ A M2 227 w = 1) ∧ A M2 5 w = A M2 223 w ∧ A M2 6 w = A M2 226 w ∧ A M2 7 w = A M2 227 w
      by_cases q : w = nW M
      · rw [q, s223, s226, s227, s5, s6, s7]
        exact ⟨by omega, by omega, by omega, rfl, rfl, rfl⟩
      · rw [r223 w w0 q, r226 w w0 q, r227 w w0 q, r5 w w0 q, r6 w w0 q, r7 w w0 q]
        exact i3 w w0 (by omega)
    · rw [f4] at y1
      rw [eJ']
      have dd : ∀ z, dx M2 z = px M (en M2 z) - px M (bg M2 z) ∧ dy M2 z = py M (en M2 z) - py M (bg M2 z) := fun z => by
        unfold dx dy
        rw [eX, eX, eY, eY]
        exact ⟨rfl, rfl⟩
      rw [(dd e).1, (dd e).2]
      by_cases q : e < 2 * nW M
      · rw [bold e y0 q, eold e y0 q, (r8 e y0 q).1, (r8 e y0 q).2.1, (r8 e y0 q).2.2]
        exact i4 e y0 q
      · by_cases p : e = 2 * nW M
        · rw [p, bn0, en0, s80.1, s80.2.1, s80.2.2]
          exact ⟨by omega, qe, rfl, rfl, rfl⟩
        · have p2 : e = 2 * nW M + 1 := by omega
          rw [p2, bn1, en1, s81.1, s81.2.1, s81.2.2]
          exact ⟨by omega, nab, rfl, rfl, rfl⟩
  · intro j y0 y1
    have bj : B3 M j := h3 j y0 y1
    have lj := bj.1
    show B3 M2 j
    by_cases p : j = a
    · subst p
      refine legs_one bj (x := 2 * nW M) (c := A M 17 j) (by omega) rfl s17a f4 (fun i z0 z1 => r16 _ (by omega) (by omega) (by omega)) s16a (by omega) (by omega) i1.1 bn0 bold (fun e z0 z1 z2 => ?_)
      by_cases p2 : e = 2 * nW M
      · exact p2
      · have p3 : e = 2 * nW M + 1 := by omega
        rw [p3, bn1] at z2
        exact absurd z2 nab
    · by_cases pb : j = b
      · subst pb
        refine legs_one bj (x := 2 * nW M + 1) (c := A M 17 j) (by omega) rfl s17b f4 (fun i z0 z1 => r16 _ (by omega) (by omega) (by omega)) s16b (by omega) (by omega) i1.1 bn1 bold (fun e z0 z1 z2 => ?_)
        by_cases p2 : e = 2 * nW M
        · rw [p2, bn0] at z2
          exact absurd z2 qe
        · omega
      · refine legs_none bj eJ' (r17 j y0 p pb) f4 (fun i z0 z1 => r16 _ (by omega) (by omega) (by omega)) i1.1 bold (fun e z0 z1 z2 => ?_)
        by_cases p2 : e = 2 * nW M
        · rw [p2, bn0] at z2
          exact p z2.symm
        · have p3 : e = 2 * nW M + 1 := by omega
          rw [p3, bn1] at z2
          exact pb z2.symm
  · have fo : ∀ d : Int, 0 ≤ d → d < nD M → ft M2 (A M 228 d) = ft M (A M 228 d) := fun d y0 y1 => by
      have := (h4.2.2 d y0 y1).1
      exact r226 _ this.1 (by omega)
    obtain ⟨z1, z2, z3⟩ := h4
    refine ⟨by rw [eD']; exact z1, by rw [eD', c.f (a := 1) (z := 14) rfl]; exact z2, fun d y0 y1 => ?_⟩
    rw [eD'] at y1
    rw [c.a (a := 228) rfl, c.a (a := 229) rfl, c.a (a := 230) rfl, c.a (a := 11) rfl, c.a (a := 12) rfl, c.a (a := 13) rfl, fo d y0 y1, f4]
    obtain ⟨w1, w2⟩ := z3 d y0 y1
    exact ⟨⟨w1.1, by omega⟩, w2⟩
  · exact c.i7m rfl (by omega) h7
  · refine I10_up h10 (s := 1) (k := nW M) (by omega) (by omega) (by omega) (by omega) ?_ ?_ r14 r15 r244 r245 s14 s15 s244 s245 (Or.inr (Or.inl ⟨rfl, by omega, by omega⟩))
    · rw [e2]; simp (config := { maxSteps := 1000000 }) (disch := (first | omega | decide | assumption)) only [ltm_s, ok_n, rd_i, rd_j, fd_i, fd_j, wr_i, wr_j, fw_i, fw_j, ci_s, cj_s, cv_s, dv_n, dw_n, rt_1, rt_b, rt_20, rt_21, okb_0, okb_1, okb_b, nar_0, nar_1, nar_b, i_0, i_1, j_0, j_1, i_lit, j_lit, i_n, iI_add, iI_sub, iI_mul, iI_neg, jI_add, jI_sub, jI_mul, jI_neg, sh_1, an_1, xo_1, di_p, dj_p, i_64A, i_64, j_32, lq_ge, lq_lt, lq_le, lq_gt, lq_eq, i_lt, i_le, i_eq, j_eq, iI_A, jI_J, iI_b, iI_v, jI_v, ↓reduceIte, ite_true, ite_false, Int.reduceEq, Int.reduceLT, Int.reduceLE, Int.reduceAdd, Int.reduceSub, Int.reduceMul, Int.reduceNeg, not_true_eq_false, not_false_eq_true, A_Wn, A_WA, A_Wb, A_Ws, A_Wo, A_X, J_W, J_Xn, J_XJ, J_Xs, J_Xo]
    · rw [e2]; simp (config := { maxSteps := 1000000 }) (disch := (first | omega | decide | assumption)) only [ltm_s, ok_n, rd_i, rd_j, fd_i, fd_j, wr_i, wr_j, fw_i, fw_j, ci_s, cj_s, cv_s, dv_n, dw_n, rt_1, rt_b, rt_20, rt_21, okb_0, okb_1, okb_b, nar_0, nar_1, nar_b, i_0, i_1, j_0, j_1, i_lit, j_lit, i_n, iI_add, iI_sub, iI_mul, iI_neg, jI_add, jI_sub, jI_mul, jI_neg, sh_1, an_1, xo_1, di_p, dj_p, i_64A, i_64, j_32, lq_ge, lq_lt, lq_le, lq_gt, lq_eq, i_lt, i_le, i_eq, j_eq, iI_A, jI_J, iI_b, iI_v, jI_v, ↓reduceIte, ite_true, ite_false, Int.reduceEq, Int.reduceLT, Int.reduceLE, Int.reduceAdd, Int.reduceSub, Int.reduceMul, Int.reduceNeg, not_true_eq_false, not_false_eq_true, A_Wn, A_WA, A_Wb, A_Ws, A_Wo, A_X, J_W, J_Xn, J_XJ, J_Xs, J_Xo]
  · exact c.i13m rfl (by omega) h13
  · exact c.i17m rfl (by omega) (by omega) (fun e f x0 x1 y0 y1 hf => ⟨by rw [bold f y0 y1, eold e x0 x1]; exact hf.1, hf.2⟩) h17
end Wy
