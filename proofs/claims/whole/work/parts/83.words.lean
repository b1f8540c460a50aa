/-! WORDS, by both -/
theorem bv_emod (b : BitVec 64) : b.toInt % 18446744073709551616 = (b.toNat : Int) := by
  have h := b.isLt
  rw [BitVec.toInt_eq_toNat_bmod]
  have e := Int.bmod_emod (x := (b.toNat : Int)) (m := 2 ^ 64)
  rw [show ((2 ^ 64 : Nat) : Int) = 18446744073709551616 by decide] at e
  rw [show (2 ^ 64 : Nat) = 18446744073709551616 by decide] at e ⊢
  rw [e]; omega
theorem ush8 {x : Int64} : ((x.toUInt64 >>> ((8 : Int32).toInt64.toUInt64 &&& Int64.toUInt64 63)).toInt64).toInt = x.toInt % 18446744073709551616 / 256 := by
  have c : ((8 : Int32).toInt64.toUInt64 &&& Int64.toUInt64 63) = 8 := by decide
  rw [c]
  show ((x.toUInt64 >>> (8 : UInt64)).toBitVec).toInt = x.toBitVec.toInt % 18446744073709551616 / 256
  have e : (x.toUInt64 >>> (8 : UInt64)).toBitVec = x.toBitVec >>> 8 := rfl
  rw [e, BitVec.toInt_ushiftRight_of_lt (by decide), bv_emod, Nat.shiftRight_eq_div_pow]
  rfl
theorem ssh8 {x : Int64} : (x >>> ((8 : Int32).toInt64 &&& 63)).toInt = x.toInt / 256 := by
  have c : ((8 : Int32).toInt64 &&& 63) = (8 : Int64) := by decide
  rw [c]
  show (x.toBitVec.sshiftRight 8).toInt = x.toBitVec.toInt / 256
  rw [BitVec.toInt_sshiftRight, Int.shiftRight_eq_div_pow]; rfl
theorem lo8 {x : Int64} : (x &&& 255).toInt32 = iI (x.toInt % 256) := by
  apply Int32.toInt_inj.mp
  rw [Int64.toInt_toInt32]
  have h2 : (x &&& 255).toInt = x.toInt % 256 := by
    show (x.toBitVec &&& 255#64).toInt = x.toBitVec.toInt % 256
    have hm : (x.toBitVec &&& 255#64).toNat = x.toBitVec.toNat % 256 := by
      rw [BitVec.toNat_and]
      exact Nat.and_two_pow_sub_one_eq_mod _ 8
    have hb := bv_emod x.toBitVec
    rw [BitVec.toInt_eq_toNat_of_lt (by omega), hm]
    omega
  rw [h2]
  unfold iI
  rw [Int32.toInt_ofInt]
theorem wl8 {u : Int} (h1 : -9223372036854775808 ≤ u) (h2 : u < 9223372036854775808) : (jI u &&& jI 255).toInt32 = iI (u % 256) := by
  have h := lo8 (x := jI u)
  rw [jI_v h1 h2] at h
  exact h
theorem wu8 {u : Int} (h1 : -9223372036854775808 ≤ u) (h2 : u < 9223372036854775808) : ((jI u).toUInt64 >>> ((iI 8).toInt64.toUInt64 &&& (jI 63).toUInt64)).toInt64 = jI (u % 18446744073709551616 / 256) := by
  apply Int64.toInt_inj.mp
  rw [jI_v (by omega) (by omega)]
  have h := ush8 (x := jI u)
  rw [jI_v h1 h2] at h
  exact h
theorem ws8 {u : Int} (h1 : -9223372036854775808 ≤ u) (h2 : u < 9223372036854775808) : jI u >>> ((iI 8).toInt64 &&& jI 63) = jI (u / 256) := by
  apply Int64.toInt_inj.mp
  rw [jI_v (by omega) (by omega)]
  have h := ssh8 (x := jI u)
  rw [jI_v h1 h2] at h
  exact h
theorem wu8' {u : Int} (h1 : -9223372036854775808 ≤ u) (h2 : u < 9223372036854775808) : ((jI u).toUInt64 >>> ((jI 8).toUInt64 &&& (jI 63).toUInt64)).toInt64 = jI (u % 18446744073709551616 / 256) := wu8 h1 h2
theorem ws8' {u : Int} (h1 : -9223372036854775808 ≤ u) (h2 : u < 9223372036854775808) : jI u >>> (jI 8 &&& jI 63) = jI (u / 256) := ws8 h1 h2
section Wd
variable {M0 M M' : am_M} {g : am_G} {F : am_FT}
theorem c_isLetter (hF : F = am_F T0 g) (hg : GG g) {v : Int} (v1 : -2147483648 ≤ v) (v2 : v < 2147483648) : F 81 0 [.int (iI v)] [] M = some (some (.int (iI (bI (97 ≤ v ∧ v ≤ 122)))), M) := by
  refine s_Tape_isLetter hF hg ?_
  simp (config := { maxSteps := 1000000 }) (disch := (first | omega | decide | assumption)) only [ltm_s, ok_n, rd_i, rd_j, fd_i, fd_j, wr_i, wr_j, fw_i, fw_j, ci_s, cj_s, cv_s, dv_n, dw_n, rt_1, rt_b, rt_20, rt_21, okb_0, okb_1, okb_b, nar_0, nar_1, nar_b, i_0, i_1, j_0, j_1, i_lit, j_lit, i_n, iI_add, iI_sub, iI_mul, iI_neg, jI_add, jI_sub, jI_mul, jI_neg, sh_1, an_1, xo_1, di_p, dj_p, i_64A, i_64, j_32, lq_ge, lq_lt, lq_le, lq_gt, lq_eq, i_lt, i_le, i_eq, j_eq, iI_A, jI_J, iI_b, iI_v, jI_v, ↓reduceIte, ite_true, ite_false, Int.reduceEq, Int.reduceLT, Int.reduceLE, Int.reduceAdd, Int.reduceSub, Int.reduceMul, Int.reduceNeg, not_true_eq_false, not_false_eq_true]
  by_cases a : v < 97
  · rw [if_pos a, bI_f (by omega)]
  · by_cases b : 122 < v
    · rw [if_neg a, if_pos b, bI_f (by omega)]
    · rw [if_neg a, if_neg b, bI_t (by omega)]
def wrel (m : Nat) (u v : Int) : Prop := (0 ≤ u ∧ u < 256 ^ m ∧ u = v) ∨ ∃ k : Nat, m = k + 1 ∧ 128 * 256 ^ k ≤ u ∧ u < 256 ^ m ∧ v = u - 256 ^ m
theorem p256 (m : Nat) (h : m ≤ 7) : (1 : Int) ≤ 256 ^ m ∧ (256 : Int) ^ m ≤ 72057594037927936 := by
  have : m = 0 ∨ m = 1 ∨ m = 2 ∨ m = 3 ∨ m = 4 ∨ m = 5 ∨ m = 6 ∨ m = 7 := by omega
  rcases this with rfl | rfl | rfl | rfl | rfl | rfl | rfl | rfl <;> decide
theorem p256' (m : Nat) (h : m ≤ 6) : (1 : Int) ≤ 256 ^ m ∧ (256 : Int) ^ m ≤ 281474976710656 := by
  have : m = 0 ∨ m = 1 ∨ m = 2 ∨ m = 3 ∨ m = 4 ∨ m = 5 ∨ m = 6 := by omega
  rcases this with rfl | rfl | rfl | rfl | rfl | rfl | rfl <;> decide
theorem word_loop (hF : F = am_F T0 g) (hg : GG g) {w : Int} (w1 : -9223372036854775808 ≤ w) (w2 : w < 9223372036854775808) (w0 : ¬ w = 0) : ∀ m : Nat, m ≤ 7 → ∀ u v : Int, wrel m u v →
    ∃ P : Prop, (∀ M, F 104 5 [.long (jI w), .long (jI u), .int (iI (8 - m))] [] M = some (some (.int (iI (bI P))), M)) ∧ ∀ M, F 123 5 [.long (jI v), .int (iI (8 - m))] [] M = some (some (.int (iI (bI P))), M) := by
  intro m
  induction m with
  | zero =>
    intro _ u v h
    have e0 : (256 : Int) ^ 0 = 1 := rfl
    have huv : u = 0 ∧ v = 0 := by
      rcases h with ⟨a1, a2, a3⟩ | ⟨k, a1, -⟩
      · omega
      · omega
    obtain ⟨rfl, rfl⟩ := huv
    refine ⟨True, fun M => ?_, fun M => ?_⟩
    · rw [bI_t trivial]
      refine s_Ledger_isWord_5 hF hg ?_
      simp (config := { maxSteps := 1000000 }) (disch := (first | omega | decide | assumption)) only [ltm_s, ok_n, rd_i, rd_j, fd_i, fd_j, wr_i, wr_j, fw_i, fw_j, ci_s, cj_s, cv_s, dv_n, dw_n, rt_1, rt_b, rt_20, rt_21, okb_0, okb_1, okb_b, nar_0, nar_1, nar_b, i_0, i_1, j_0, j_1, i_lit, j_lit, i_n, iI_add, iI_sub, iI_mul, iI_neg, jI_add, jI_sub, jI_mul, jI_neg, sh_1, an_1, xo_1, di_p, dj_p, i_64A, i_64, j_32, lq_ge, lq_lt, lq_le, lq_gt, lq_eq, i_lt, i_le, i_eq, j_eq, iI_A, jI_J, iI_b, iI_v, jI_v, ↓reduceIte, ite_true, ite_false, Int.reduceEq, Int.reduceLT, Int.reduceLE, Int.reduceAdd, Int.reduceSub, Int.reduceMul, Int.reduceNeg, not_true_eq_false, not_false_eq_true, w0]
      rfl
    · rw [bI_t trivial]
      refine s_Model_isWord_5 hF hg ?_
      simp (config := { maxSteps := 1000000 }) (disch := (first | omega | decide | assumption)) only [ltm_s, ok_n, rd_i, rd_j, fd_i, fd_j, wr_i, wr_j, fw_i, fw_j, ci_s, cj_s, cv_s, dv_n, dw_n, rt_1, rt_b, rt_20, rt_21, okb_0, okb_1, okb_b, nar_0, nar_1, nar_b, i_0, i_1, j_0, j_1, i_lit, j_lit, i_n, iI_add, iI_sub, iI_mul, iI_neg, jI_add, jI_sub, jI_mul, jI_neg, sh_1, an_1, xo_1, di_p, dj_p, i_64A, i_64, j_32, lq_ge, lq_lt, lq_le, lq_gt, lq_eq, i_lt, i_le, i_eq, j_eq, iI_A, jI_J, iI_b, iI_v, jI_v, ↓reduceIte, ite_true, ite_false, Int.reduceEq, Int.reduceLT, Int.reduceLE, Int.reduceAdd, Int.reduceSub, Int.reduceMul, Int.reduceNeg, not_true_eq_false, not_false_eq_true]
      rfl
  | succ m ih =>
    intro hm u v h
    have e1 : (256 : Int) ^ (m + 1) = 256 ^ m * 256 := Int.pow_succ 256 m
    have hp := p256' m (by omega)
    have hn : ¬ 8 ≤ (8 : Int) - ((m + 1 : Nat) : Int) := by omega
    have hn1 : ¬ (8 : Int) - ((m + 1 : Nat) : Int) ≤ 0 := by omega
    have hs : (8 : Int) - ((m + 1 : Nat) : Int) + 1 = 8 - (m : Int) := by omega
    by_cases hz : u = 0
    · have hv : v = 0 := by
        rcases h with ⟨a1, a2, a3⟩ | ⟨k, a1, a2, a3, a4⟩
        · omega
        · exfalso
          have hp' := p256 k (by omega)
          omega
      subst hz
      subst hv
      refine ⟨True, fun M => ?_, fun M => ?_⟩
      · rw [bI_t trivial]
        refine s_Ledger_isWord_5 hF hg ?_
        simp (config := { maxSteps := 1000000 }) (disch := (first | omega | decide | assumption)) only [ltm_s, ok_n, rd_i, rd_j, fd_i, fd_j, wr_i, wr_j, fw_i, fw_j, ci_s, cj_s, cv_s, dv_n, dw_n, rt_1, rt_b, rt_20, rt_21, okb_0, okb_1, okb_b, nar_0, nar_1, nar_b, i_0, i_1, j_0, j_1, i_lit, j_lit, i_n, iI_add, iI_sub, iI_mul, iI_neg, jI_add, jI_sub, jI_mul, jI_neg, sh_1, an_1, xo_1, di_p, dj_p, i_64A, i_64, j_32, lq_ge, lq_lt, lq_le, lq_gt, lq_eq, i_lt, i_le, i_eq, j_eq, iI_A, jI_J, iI_b, iI_v, jI_v, ↓reduceIte, ite_true, ite_false, Int.reduceEq, Int.reduceLT, Int.reduceLE, Int.reduceAdd, Int.reduceSub, Int.reduceMul, Int.reduceNeg, not_true_eq_false, not_false_eq_true, w0, hn]
      · rw [bI_t trivial]
        refine s_Model_isWord_5 hF hg ?_
        simp (config := { maxSteps := 1000000 }) (disch := (first | omega | decide | assumption)) only [ltm_s, ok_n, rd_i, rd_j, fd_i, fd_j, wr_i, wr_j, fw_i, fw_j, ci_s, cj_s, cv_s, dv_n, dw_n, rt_1, rt_b, rt_20, rt_21, okb_0, okb_1, okb_b, nar_0, nar_1, nar_b, i_0, i_1, j_0, j_1, i_lit, j_lit, i_n, iI_add, iI_sub, iI_mul, iI_neg, jI_add, jI_sub, jI_mul, jI_neg, sh_1, an_1, xo_1, di_p, dj_p, i_64A, i_64, j_32, lq_ge, lq_lt, lq_le, lq_gt, lq_eq, i_lt, i_le, i_eq, j_eq, iI_A, jI_J, iI_b, iI_v, jI_v, ↓reduceIte, ite_true, ite_false, Int.reduceEq, Int.reduceLT, Int.reduceLE, Int.reduceAdd, Int.reduceSub, Int.reduceMul, Int.reduceNeg, not_true_eq_false, not_false_eq_true, hn1]
    have hu : 0 ≤ u ∧ u < 256 ^ m * 256 := by
      rcases h with ⟨a1, a2, a3⟩ | ⟨k, a1, a2, a3, a4⟩
      · omega
      · have hp' := p256 k (by omega)
        omega
    have hvr : -9223372036854775808 ≤ v ∧ v < 9223372036854775808 := by
      rcases h with ⟨a1, a2, a3⟩ | ⟨k, a1, a2, a3, a4⟩ <;> omega
    have hv0 : ¬ v = 0 := by
      rcases h with ⟨a1, a2, a3⟩ | ⟨k, a1, a2, a3, a4⟩ <;> omega
    have hq : v % 256 = u % 256 := by
      rcases h with ⟨a1, a2, a3⟩ | ⟨k, a1, a2, a3, a4⟩ <;> omega
    have hl : ∀ N : am_M, F 81 0 [.int (iI (u % 256))] [] N = some (some (.int (iI (bI (97 ≤ u % 256 ∧ u % 256 ≤ 122)))), N) := fun N => c_isLetter hF hg (by omega) (by omega)
    have hi : ∀ N : am_M, F 53 0 [.int (iI (u % 256)), .int (iI 97), .int (iI 122)] [] N = some (some (.int (iI (bI (97 ≤ u % 256 ∧ u % 256 ≤ 122)))), N) := fun N => m_inn hF hg (by omega) (by omega) (by omega) (by omega) (by omega) (by omega)
    by_cases q : 97 ≤ u % 256 ∧ u % 256 ≤ 122
    · rw [bI_t q] at hl hi
      have hu2 : u % 18446744073709551616 / 256 = u / 256 := by omega
      have hr : wrel m (u / 256) (v / 256) := by
        rcases h with ⟨a1, a2, a3⟩ | ⟨k, a1, a2, a3, a4⟩
        · exact Or.inl ⟨by omega, by omega, by rw [a3]⟩
        · have hk : k = m := by omega
          subst hk
          cases k with
          | zero =>
            exfalso
            have e0 : (256 : Int) ^ 0 = 1 := rfl
            omega
          | succ k =>
            have e2 : (256 : Int) ^ (k + 1) = 256 ^ k * 256 := Int.pow_succ 256 k
            exact Or.inr ⟨k, rfl, by omega, by omega, by omega⟩
      obtain ⟨P, p1, p2⟩ := ih (by omega) _ _ hr
      refine ⟨P, fun M => ?_, fun M => ?_⟩
      · refine s_Ledger_isWord_5 hF hg ?_
        simp (config := { maxSteps := 1000000 }) (disch := (first | omega | decide | assumption)) only [ltm_s, ok_n, rd_i, rd_j, fd_i, fd_j, wr_i, wr_j, fw_i, fw_j, ci_s, cj_s, cv_s, dv_n, dw_n, rt_1, rt_b, rt_20, rt_21, okb_0, okb_1, okb_b, nar_0, nar_1, nar_b, i_0, i_1, j_0, j_1, i_lit, j_lit, i_n, iI_add, iI_sub, iI_mul, iI_neg, jI_add, jI_sub, jI_mul, jI_neg, sh_1, an_1, xo_1, di_p, dj_p, i_64A, i_64, j_32, lq_ge, lq_lt, lq_le, lq_gt, lq_eq, i_lt, i_le, i_eq, j_eq, iI_A, jI_J, iI_b, iI_v, jI_v, ↓reduceIte, ite_true, ite_false, Int.reduceEq, Int.reduceLT, Int.reduceLE, Int.reduceAdd, Int.reduceSub, Int.reduceMul, Int.reduceNeg, not_true_eq_false, not_false_eq_true, hz, hn, wl8, hl, wu8, wu8', hu2, hs, p1]
      · refine s_Model_isWord_5 hF hg ?_
        simp (config := { maxSteps := 1000000 }) (disch := (first | omega | decide | assumption)) only [ltm_s, ok_n, rd_i, rd_j, fd_i, fd_j, wr_i, wr_j, fw_i, fw_j, ci_s, cj_s, cv_s, dv_n, dw_n, rt_1, rt_b, rt_20, rt_21, okb_0, okb_1, okb_b, nar_0, nar_1, nar_b, i_0, i_1, j_0, j_1, i_lit, j_lit, i_n, iI_add, iI_sub, iI_mul, iI_neg, jI_add, jI_sub, jI_mul, jI_neg, sh_1, an_1, xo_1, di_p, dj_p, i_64A, i_64, j_32, lq_ge, lq_lt, lq_le, lq_gt, lq_eq, i_lt, i_le, i_eq, j_eq, iI_A, jI_J, iI_b, iI_v, jI_v, ↓reduceIte, ite_true, ite_false, Int.reduceEq, Int.reduceLT, Int.reduceLE, Int.reduceAdd, Int.reduceSub, Int.reduceMul, Int.reduceNeg, not_true_eq_false, not_false_eq_true, hv0, hn, wl8, hq, hi, ws8, ws8', hs, p2]
    · rw [bI_f q] at hl hi
      refine ⟨False, fun M => ?_, fun M => ?_⟩
      · rw [bI_f not_false]
        refine s_Ledger_isWord_5 hF hg ?_
        simp (config := { maxSteps := 1000000 }) (disch := (first | omega | decide | assumption)) only [ltm_s, ok_n, rd_i, rd_j, fd_i, fd_j, wr_i, wr_j, fw_i, fw_j, ci_s, cj_s, cv_s, dv_n, dw_n, rt_1, rt_b, rt_20, rt_21, okb_0, okb_1, okb_b, nar_0, nar_1, nar_b, i_0, i_1, j_0, j_1, i_lit, j_lit, i_n, iI_add, iI_sub, iI_mul, iI_neg, jI_add, jI_sub, jI_mul, jI_neg, sh_1, an_1, xo_1, di_p, dj_p, i_64A, i_64, j_32, lq_ge, lq_lt, lq_le, lq_gt, lq_eq, i_lt, i_le, i_eq, j_eq, iI_A, jI_J, iI_b, iI_v, jI_v, ↓reduceIte, ite_true, ite_false, Int.reduceEq, Int.reduceLT, Int.reduceLE, Int.reduceAdd, Int.reduceSub, Int.reduceMul, Int.reduceNeg, not_true_eq_false, not_false_eq_true, hz, hn, wl8, hl]
      · rw [bI_f not_false]
        refine s_Model_isWord_5 hF hg ?_
        simp (config := { maxSteps := 1000000 }) (disch := (first | omega | decide | assumption)) only [ltm_s, ok_n, rd_i, rd_j, fd_i, fd_j, wr_i, wr_j, fw_i, fw_j, ci_s, cj_s, cv_s, dv_n, dw_n, rt_1, rt_b, rt_20, rt_21, okb_0, okb_1, okb_b, nar_0, nar_1, nar_b, i_0, i_1, j_0, j_1, i_lit, j_lit, i_n, iI_add, iI_sub, iI_mul, iI_neg, jI_add, jI_sub, jI_mul, jI_neg, sh_1, an_1, xo_1, di_p, dj_p, i_64A, i_64, j_32, lq_ge, lq_lt, lq_le, lq_gt, lq_eq, i_lt, i_le, i_eq, j_eq, iI_A, jI_J, iI_b, iI_v, jI_v, ↓reduceIte, ite_true, ite_false, Int.reduceEq, Int.reduceLT, Int.reduceLE, Int.reduceAdd, Int.reduceSub, Int.reduceMul, Int.reduceNeg, not_true_eq_false, not_false_eq_true, hv0, hn, wl8, hq, hi]
theorem b_word (hF : F = am_F T0 g) (hg : GG g) {w : Int} (w1 : -9223372036854775808 ≤ w) (w2 : w < 9223372036854775808) :
    ∃ P : Prop, (∀ M, F 104 0 [.long (jI w)] [] M = some (some (.int (iI (bI P))), M)) ∧ ∀ M, F 123 0 [.long (jI w)] [] M = some (some (.int (iI (bI P))), M) := by
  by_cases w0 : w = 0
  · subst w0
    refine ⟨False, fun M => ?_, fun M => ?_⟩
    · rw [bI_f not_false]
      refine s_Ledger_isWord hF hg ?_
      simp (config := { maxSteps := 1000000 }) (disch := (first | omega | decide | assumption)) only [ltm_s, ok_n, rd_i, rd_j, fd_i, fd_j, wr_i, wr_j, fw_i, fw_j, ci_s, cj_s, cv_s, dv_n, dw_n, rt_1, rt_b, rt_20, rt_21, okb_0, okb_1, okb_b, nar_0, nar_1, nar_b, i_0, i_1, j_0, j_1, i_lit, j_lit, i_n, iI_add, iI_sub, iI_mul, iI_neg, jI_add, jI_sub, jI_mul, jI_neg, sh_1, an_1, xo_1, di_p, dj_p, i_64A, i_64, j_32, lq_ge, lq_lt, lq_le, lq_gt, lq_eq, i_lt, i_le, i_eq, j_eq, iI_A, jI_J, iI_b, iI_v, jI_v, ↓reduceIte, ite_true, ite_false, Int.reduceEq, Int.reduceLT, Int.reduceLE, Int.reduceAdd, Int.reduceSub, Int.reduceMul, Int.reduceNeg, not_true_eq_false, not_false_eq_true]
      refine s_Ledger_isWord_5 hF hg ?_
      simp (config := { maxSteps := 1000000 }) (disch := (first | omega | decide | assumption)) only [ltm_s, ok_n, rd_i, rd_j, fd_i, fd_j, wr_i, wr_j, fw_i, fw_j, ci_s, cj_s, cv_s, dv_n, dw_n, rt_1, rt_b, rt_20, rt_21, okb_0, okb_1, okb_b, nar_0, nar_1, nar_b, i_0, i_1, j_0, j_1, i_lit, j_lit, i_n, iI_add, iI_sub, iI_mul, iI_neg, jI_add, jI_sub, jI_mul, jI_neg, sh_1, an_1, xo_1, di_p, dj_p, i_64A, i_64, j_32, lq_ge, lq_lt, lq_le, lq_gt, lq_eq, i_lt, i_le, i_eq, j_eq, iI_A, jI_J, iI_b, iI_v, jI_v, ↓reduceIte, ite_true, ite_false, Int.reduceEq, Int.reduceLT, Int.reduceLE, Int.reduceAdd, Int.reduceSub, Int.reduceMul, Int.reduceNeg, not_true_eq_false, not_false_eq_true]
    · rw [bI_f not_false]
      refine s_Model_isWord hF hg ?_
      simp (config := { maxSteps := 1000000 }) (disch := (first | omega | decide | assumption)) only [ltm_s, ok_n, rd_i, rd_j, fd_i, fd_j, wr_i, wr_j, fw_i, fw_j, ci_s, cj_s, cv_s, dv_n, dw_n, rt_1, rt_b, rt_20, rt_21, okb_0, okb_1, okb_b, nar_0, nar_1, nar_b, i_0, i_1, j_0, j_1, i_lit, j_lit, i_n, iI_add, iI_sub, iI_mul, iI_neg, jI_add, jI_sub, jI_mul, jI_neg, sh_1, an_1, xo_1, di_p, dj_p, i_64A, i_64, j_32, lq_ge, lq_lt, lq_le, lq_gt, lq_eq, i_lt, i_le, i_eq, j_eq, iI_A, jI_J, iI_b, iI_v, jI_v, ↓reduceIte, ite_true, ite_false, Int.reduceEq, Int.reduceLT, Int.reduceLE, Int.reduceAdd, Int.reduceSub, Int.reduceMul, Int.reduceNeg, not_true_eq_false, not_false_eq_true]
      refine s_Model_isWord_5 hF hg ?_
      simp (config := { maxSteps := 1000000 }) (disch := (first | omega | decide | assumption)) only [ltm_s, ok_n, rd_i, rd_j, fd_i, fd_j, wr_i, wr_j, fw_i, fw_j, ci_s, cj_s, cv_s, dv_n, dw_n, rt_1, rt_b, rt_20, rt_21, okb_0, okb_1, okb_b, nar_0, nar_1, nar_b, i_0, i_1, j_0, j_1, i_lit, j_lit, i_n, iI_add, iI_sub, iI_mul, iI_neg, jI_add, jI_sub, jI_mul, jI_neg, sh_1, an_1, xo_1, di_p, dj_p, i_64A, i_64, j_32, lq_ge, lq_lt, lq_le, lq_gt, lq_eq, i_lt, i_le, i_eq, j_eq, iI_A, jI_J, iI_b, iI_v, jI_v, ↓reduceIte, ite_true, ite_false, Int.reduceEq, Int.reduceLT, Int.reduceLE, Int.reduceAdd, Int.reduceSub, Int.reduceMul, Int.reduceNeg, not_true_eq_false, not_false_eq_true]
  have hl : ∀ N : am_M, F 81 0 [.int (iI (w % 256))] [] N = some (some (.int (iI (bI (97 ≤ w % 256 ∧ w % 256 ≤ 122)))), N) := fun N => c_isLetter hF hg (by omega) (by omega)
  have hi : ∀ N : am_M, F 53 0 [.int (iI (w % 256)), .int (iI 97), .int (iI 122)] [] N = some (some (.int (iI (bI (97 ≤ w % 256 ∧ w % 256 ≤ 122)))), N) := fun N => m_inn hF hg (by omega) (by omega) (by omega) (by omega) (by omega) (by omega)
  by_cases q : 97 ≤ w % 256 ∧ w % 256 ≤ 122
  · rw [bI_t q] at hl hi
    have hr : wrel 7 (w % 18446744073709551616 / 256) (w / 256) := by
      have e7 : (256 : Int) ^ 7 = 72057594037927936 := by decide
      have e6 : (256 : Int) ^ 6 = 281474976710656 := by decide
      by_cases hw : 0 ≤ w
      · exact Or.inl ⟨by omega, by omega, by omega⟩
      · exact Or.inr ⟨6, rfl, by omega, by omega, by omega⟩
    obtain ⟨P, p1, p2⟩ := word_loop hF hg w1 w2 w0 7 (by omega) _ _ hr
    have e1 : (8 : Int) - ((7 : Nat) : Int) = 1 := by omega
    rw [e1] at p1 p2
    refine ⟨P, fun M => ?_, fun M => ?_⟩
    · refine s_Ledger_isWord hF hg ?_
      simp (config := { maxSteps := 1000000 }) (disch := (first | omega | decide | assumption)) only [ltm_s, ok_n, rd_i, rd_j, fd_i, fd_j, wr_i, wr_j, fw_i, fw_j, ci_s, cj_s, cv_s, dv_n, dw_n, rt_1, rt_b, rt_20, rt_21, okb_0, okb_1, okb_b, nar_0, nar_1, nar_b, i_0, i_1, j_0, j_1, i_lit, j_lit, i_n, iI_add, iI_sub, iI_mul, iI_neg, jI_add, jI_sub, jI_mul, jI_neg, sh_1, an_1, xo_1, di_p, dj_p, i_64A, i_64, j_32, lq_ge, lq_lt, lq_le, lq_gt, lq_eq, i_lt, i_le, i_eq, j_eq, iI_A, jI_J, iI_b, iI_v, jI_v, ↓reduceIte, ite_true, ite_false, Int.reduceEq, Int.reduceLT, Int.reduceLE, Int.reduceAdd, Int.reduceSub, Int.reduceMul, Int.reduceNeg, not_true_eq_false, not_false_eq_true]
      refine s_Ledger_isWord_5 hF hg ?_
      simp (config := { maxSteps := 1000000 }) (disch := (first | omega | decide | assumption)) only [ltm_s, ok_n, rd_i, rd_j, fd_i, fd_j, wr_i, wr_j, fw_i, fw_j, ci_s, cj_s, cv_s, dv_n, dw_n, rt_1, rt_b, rt_20, rt_21, okb_0, okb_1, okb_b, nar_0, nar_1, nar_b, i_0, i_1, j_0, j_1, i_lit, j_lit, i_n, iI_add, iI_sub, iI_mul, iI_neg, jI_add, jI_sub, jI_mul, jI_neg, sh_1, an_1, xo_1, di_p, dj_p, i_64A, i_64, j_32, lq_ge, lq_lt, lq_le, lq_gt, lq_eq, i_lt, i_le, i_eq, j_eq, iI_A, jI_J, iI_b, iI_v, jI_v, ↓reduceIte, ite_true, ite_false, Int.reduceEq, Int.reduceLT, Int.reduceLE, Int.reduceAdd, Int.reduceSub, Int.reduceMul, Int.reduceNeg, not_true_eq_false, not_false_eq_true, w0, wl8, hl, wu8, wu8', p1]
    · refine s_Model_isWord hF hg ?_
      simp (config := { maxSteps := 1000000 }) (disch := (first | omega | decide | assumption)) only [ltm_s, ok_n, rd_i, rd_j, fd_i, fd_j, wr_i, wr_j, fw_i, fw_j, ci_s, cj_s, cv_s, dv_n, dw_n, rt_1, rt_b, rt_20, rt_21, okb_0, okb_1, okb_b, nar_0, nar_1, nar_b, i_0, i_1, j_0, j_1, i_lit, j_lit, i_n, iI_add, iI_sub, iI_mul, iI_neg, jI_add, jI_sub, jI_mul, jI_neg, sh_1, an_1, xo_1, di_p, dj_p, i_64A, i_64, j_32, lq_ge, lq_lt, lq_le, lq_gt, lq_eq, i_lt, i_le, i_eq, j_eq, iI_A, jI_J, iI_b, iI_v, jI_v, ↓reduceIte, ite_true, ite_false, Int.reduceEq, Int.reduceLT, Int.reduceLE, Int.reduceAdd, Int.reduceSub, Int.reduceMul, Int.reduceNeg, not_true_eq_false, not_false_eq_true]
      refine s_Model_isWord_5 hF hg ?_
      simp (config := { maxSteps := 1000000 }) (disch := (first | omega | decide | assumption)) only [ltm_s, ok_n, rd_i, rd_j, fd_i, fd_j, wr_i, wr_j, fw_i, fw_j, ci_s, cj_s, cv_s, dv_n, dw_n, rt_1, rt_b, rt_20, rt_21, okb_0, okb_1, okb_b, nar_0, nar_1, nar_b, i_0, i_1, j_0, j_1, i_lit, j_lit, i_n, iI_add, iI_sub, iI_mul, iI_neg, jI_add, jI_sub, jI_mul, jI_neg, sh_1, an_1, xo_1, di_p, dj_p, i_64A, i_64, j_32, lq_ge, lq_lt, lq_le, lq_gt, lq_eq, i_lt, i_le, i_eq, j_eq, iI_A, jI_J, iI_b, iI_v, jI_v, ↓reduceIte, ite_true, ite_false, Int.reduceEq, Int.reduceLT, Int.reduceLE, Int.reduceAdd, Int.reduceSub, Int.reduceMul, Int.reduceNeg, not_true_eq_false, not_false_eq_true, w0, wl8, hi, ws8, ws8', p2]
  · rw [bI_f q] at hl hi
    refine ⟨False, fun M => ?_, fun M => ?_⟩
    · rw [bI_f not_false]
      refine s_Ledger_isWord hF hg ?_
      simp (config := { maxSteps := 1000000 }) (disch := (first | omega | decide | assumption)) only [ltm_s, ok_n, rd_i, rd_j, fd_i, fd_j, wr_i, wr_j, fw_i, fw_j, ci_s, cj_s, cv_s, dv_n, dw_n, rt_1, rt_b, rt_20, rt_21, okb_0, okb_1, okb_b, nar_0, nar_1, nar_b, i_0, i_1, j_0, j_1, i_lit, j_lit, i_n, iI_add, iI_sub, iI_mul, iI_neg, jI_add, jI_sub, jI_mul, jI_neg, sh_1, an_1, xo_1, di_p, dj_p, i_64A, i_64, j_32, lq_ge, lq_lt, lq_le, lq_gt, lq_eq, i_lt, i_le, i_eq, j_eq, iI_A, jI_J, iI_b, iI_v, jI_v, ↓reduceIte, ite_true, ite_false, Int.reduceEq, Int.reduceLT, Int.reduceLE, Int.reduceAdd, Int.reduceSub, Int.reduceMul, Int.reduceNeg, not_true_eq_false, not_false_eq_true]
      refine s_Ledger_isWord_5 hF hg ?_
      simp (config := { maxSteps := 1000000 }) (disch := (first | omega | decide | assumption)) only [ltm_s, ok_n, rd_i, rd_j, fd_i, fd_j, wr_i, wr_j, fw_i, fw_j, ci_s, cj_s, cv_s, dv_n, dw_n, rt_1, rt_b, rt_20, rt_21, okb_0, okb_1, okb_b, nar_0, nar_1, nar_b, i_0, i_1, j_0, j_1, i_lit, j_lit, i_n, iI_add, iI_sub, iI_mul, iI_neg, jI_add, jI_sub, jI_mul, jI_neg, sh_1, an_1, xo_1, di_p, dj_p, i_64A, i_64, j_32, lq_ge, lq_lt, lq_le, lq_gt, lq_eq, i_lt, i_le, i_eq, j_eq, iI_A, jI_J, iI_b, iI_v, jI_v, ↓reduceIte, ite_true, ite_false, Int.reduceEq, Int.reduceLT, Int.reduceLE, Int.reduceAdd, Int.reduceSub, Int.reduceMul, Int.reduceNeg, not_true_eq_false, not_false_eq_true, w0, wl8, hl]
    · rw [bI_f not_false]
      refine s_Model_isWord hF hg ?_
      simp (config := { maxSteps := 1000000 }) (disch := (first | omega | decide | assumption)) only [ltm_s, ok_n, rd_i, rd_j, fd_i, fd_j, wr_i, wr_j, fw_i, fw_j, ci_s, cj_s, cv_s, dv_n, dw_n, rt_1, rt_b, rt_20, rt_21, okb_0, okb_1, okb_b, nar_0, nar_1, nar_b, i_0, i_1, j_0, j_1, i_lit, j_lit, i_n, iI_add, iI_sub, iI_mul, iI_neg, jI_add, jI_sub, jI_mul, jI_neg, sh_1, an_1, xo_1, di_p, dj_p, i_64A, i_64, j_32, lq_ge, lq_lt, lq_le, lq_gt, lq_eq, i_lt, i_le, i_eq, j_eq, iI_A, jI_J, iI_b, iI_v, jI_v, ↓reduceIte, ite_true, ite_false, Int.reduceEq, Int.reduceLT, Int.reduceLE, Int.reduceAdd, Int.reduceSub, Int.reduceMul, Int.reduceNeg, not_true_eq_false, not_false_eq_true]
      refine s_Model_isWord_5 hF hg ?_
      simp (config := { maxSteps := 1000000 }) (disch := (first | omega | decide | assumption)) only [ltm_s, ok_n, rd_i, rd_j, fd_i, fd_j, wr_i, wr_j, fw_i, fw_j, ci_s, cj_s, cv_s, dv_n, dw_n, rt_1, rt_b, rt_20, rt_21, okb_0, okb_1, okb_b, nar_0, nar_1, nar_b, i_0, i_1, j_0, j_1, i_lit, j_lit, i_n, iI_add, iI_sub, iI_mul, iI_neg, jI_add, jI_sub, jI_mul, jI_neg, sh_1, an_1, xo_1, di_p, dj_p, i_64A, i_64, j_32, lq_ge, lq_lt, lq_le, lq_gt, lq_eq, i_lt, i_le, i_eq, j_eq, iI_A, jI_J, iI_b, iI_v, jI_v, ↓reduceIte, ite_true, ite_false, Int.reduceEq, Int.reduceLT, Int.reduceLE, Int.reduceAdd, Int.reduceSub, Int.reduceMul, Int.reduceNeg, not_true_eq_false, not_false_eq_true, w0, wl8, hi]
end Wd
