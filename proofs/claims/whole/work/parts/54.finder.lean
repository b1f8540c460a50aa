/-! THE FINDER SET: to the city on a day, or to an hour and a pupil -/
/-- all rows but those of S as they were -/
def Ke (S : List Nat) (M M' : am_M) : Prop := ∀ a : Nat, a ∉ S → M'.1 a = M.1 a ∧ M'.2 a = M.2 a
section Kee
variable {S : List Nat} {M0 M M' M'' : am_M}
theorem Ke.refl : Ke S M M := fun _ _ => ⟨rfl, rfl⟩
theorem Ke.trans (h : Ke S M M') (h2 : Ke S M' M'') : Ke S M M'' := fun a ha => ⟨(h2 a ha).1.trans (h a ha).1, (h2 a ha).2.trans (h a ha).2⟩
theorem Ke.mono {S' : List Nat} (h : Ke S M M') (hs : S.all (fun a => S'.elem a) = true) : Ke S' M M' := fun a ha => h a fun q => ha (List.elem_iff.mp (List.all_eq_true.mp hs a q))
theorem Ke.w (h : Ke S M M') {a : Nat} {z v : Int} (ha : a ∈ S) : Ke S M (W_ M' a z v) := fun b hb => by
  refine ⟨?_, (h b hb).2⟩
  funext j
  show (if b = a ∧ j = z.toNat then _ else M'.1 b j) = _
  have hne : ¬ (b = a ∧ j = z.toNat) := fun q => hb (by rw [q.1]; exact ha)
  rw [if_neg hne, (h b hb).1]
theorem Ke.x (h : Ke S M M') {a : Nat} {z v : Int} (ha : a ∈ S) : Ke S M (X_ M' a z v) := fun b hb => by
  refine ⟨(h b hb).1, ?_⟩
  funext j
  show (if b = a ∧ j = z.toNat then _ else M'.2 b j) = _
  have hne : ¬ (b = a ∧ j = z.toNat) := fun q => hb (by rw [q.1]; exact ha)
  rw [if_neg hne, (h b hb).2]
theorem Ke.a (h : Ke S M M') {a : Nat} {z : Int} (ha : a ∉ S) : A M' a z = A M a z := by
  unfold A; rw [(h a ha).1]
theorem Ke.j (h : Ke S M M') {a : Nat} {z : Int} (ha : a ∉ S) : J M' a z = J M a z := by
  unfold J; rw [(h a ha).2]
/-- nothing of the row is stable -/
def stN (a : Nat) : Bool := (Nat.ble 32 a && Nat.ble a 41) || ((Nat.ble 58 a && Nat.ble a 71) || (([75, 76, 80, 81, 85, 86] : List Nat).elem a || ((Nat.ble 90 a && Nat.ble a 218) || Nat.ble 262 a)))
theorem stN_b {a : Nat} (h : stN a = true) (k : Nat) : stb a k = false := by
  unfold stN at h
  simp only [Bool.or_eq_true, Bool.and_eq_true, Nat.ble_eq] at h
  unfold stb
  have e1 : ∀ x y : Nat, ¬ x < y → Nat.blt x y = false := fun x y q => by
    cases hb : Nat.blt x y with
    | true => exact absurd (Nat.le_of_ble_eq_true hb) (by omega)
    | false => rfl
  have e2 : ∀ x y : Nat, ¬ x = y → Nat.beq x y = false := fun x y q => by
    cases hb : Nat.beq x y with
    | true => exact absurd (Nat.eq_of_beq_eq_true hb) q
    | false => rfl
  rcases h with ⟨h1, h2⟩ | ⟨h1, h2⟩ | h | ⟨h1, h2⟩ | h
  · have : a = 32 ∨ a = 33 ∨ a = 34 ∨ a = 35 ∨ a = 36 ∨ a = 37 ∨ a = 38 ∨ a = 39 ∨ a = 40 ∨ a = 41 := by omega
    rcases this with rfl | rfl | rfl | rfl | rfl | rfl | rfl | rfl | rfl | rfl <;> rfl
  · have : a = 58 ∨ a = 59 ∨ a = 60 ∨ a = 61 ∨ a = 62 ∨ a = 63 ∨ a = 64 ∨ a = 65 ∨ a = 66 ∨ a = 67 ∨ a = 68 ∨ a = 69 ∨ a = 70 ∨ a = 71 := by omega
    rcases this with rfl | rfl | rfl | rfl | rfl | rfl | rfl | rfl | rfl | rfl | rfl | rfl | rfl | rfl <;> rfl
  · have := List.elem_iff.mp h
    simp only [List.mem_cons, List.not_mem_nil, or_false] at this
    rcases this with rfl | rfl | rfl | rfl | rfl | rfl <;> rfl
  · have e3 : ([72, 73, 74, 77, 78, 79, 82, 83, 84, 87, 88, 89] : List Nat).elem a = false := by
      cases hb : ([72, 73, 74, 77, 78, 79, 82, 83, 84, 87, 88, 89] : List Nat).elem a with
      | true =>
        have := List.elem_iff.mp hb
        simp only [List.mem_cons, List.not_mem_nil, or_false] at this
        omega
      | false => rfl
    rw [e3, e1 a 32 (by omega), e1 a 58 (by omega), e1 219 a (by omega), e2 a 219 (by omega)]
    cases Nat.blt 41 a <;> rfl
  · have e3 : ([72, 73, 74, 77, 78, 79, 82, 83, 84, 87, 88, 89] : List Nat).elem a = false := by
      cases hb : ([72, 73, 74, 77, 78, 79, 82, 83, 84, 87, 88, 89] : List Nat).elem a with
      | true =>
        have := List.elem_iff.mp hb
        simp only [List.mem_cons, List.not_mem_nil, or_false] at this
        omega
      | false => rfl
    rw [e3, e1 a 32 (by omega), e1 a 58 (by omega), e1 a 262 (by omega), e2 a 219 (by omega)]
    cases Nat.blt 41 a <;> cases Nat.blt 219 a <;> rfl
theorem Ke.ag (h : Ke S M M') (hs : S.all stN = true) : Ag M M' := fun a k hk => by
  by_cases q : a ∈ S
  · rw [stN_b (List.all_eq_true.mp hs a q) k] at hk; cases hk
  · exact ⟨congrFun (h a q).1 k, congrFun (h a q).2 k⟩
end Kee
/-- a shift, as both take it -/
def sl (x i : Int) : Int := (iI x <<< (iI i &&& iI 31)).toInt
theorem sl_ {x i : Int} : (iI x <<< (iI i &&& iI 31)).toInt = sl x i := rfl
theorem sl_n : ∀ x : Nat, x < 31 → ∀ i : Nat, i < 6 → (Int32.ofNat x <<< (Int32.ofNat i &&& 31)).toInt = ((x * 2 ^ i : Nat) : Int) := by decide +kernel
theorem sl_v {x i : Int} (x0 : 0 ≤ x) (x1 : x ≤ 30) (i0 : 0 ≤ i) (i1 : i ≤ 5) : 0 ≤ sl x i ∧ sl x i ≤ 960 := by
  have h := sl_n x.toNat (by omega) i.toNat (by omega)
  unfold sl
  rw [iI_nat x0, iI_nat i0]
  have e : (iI 31 : Int32) = 31 := rfl
  rw [e, h]
  have h2 : x.toNat * 2 ^ i.toNat ≤ 30 * 2 ^ 5 := Nat.mul_le_mul (by omega) (Nat.pow_le_pow_right (by omega) (by omega))
  have h3 : 30 * 2 ^ 5 = 960 := rfl
  omega
noncomputable section
def hld (M : am_M) (p e f day : Int) : Prop := 0 < A M 251 (6400 * p + 80 * e + f) ∧ A M 252 (6400 * p + 80 * e + f) ≤ day ∧ day ≤ A M 252 (6400 * p + 80 * e + f) + sl (A M 250 p) (A M 251 (6400 * p + 80 * e + f) - 1)
/-- how the next leg may be gone into -/
def mkd (M0 : am_M) (md : Int × Int × Int × Int) (e f : Int) : Prop := if md.1 = -1 then bnd M0 e f md.2.1 md.2.2.1 else hld M0 md.1 e f (toD M0)
def may (M0 : am_M) (md : Int × Int × Int × Int) (e f : Int) : Prop := fol M0 e f ∧ mgo M0 md f ∧ (mkd M0 md e f ↔ ¬ md.1 = -1)
end
/-- marks: just those of the row -/
def Imk (M : am_M) : Prop := (0 ≤ A M 32 6 ∧ A M 32 6 ≤ 200) ∧ (∀ i : Int, 0 ≤ i → i < A M 32 6 → 0 ≤ A M 36 i ∧ A M 36 i < 6400) ∧ ∀ t : Int, 0 ≤ t → t < 6400 → A M 35 t = 0 ∨ A M 35 t = 1 ∧ ∃ i : Int, 0 ≤ i ∧ i < A M 32 6 ∧ A M 36 i = t
section Fi
variable {M0 M : am_M} {g : am_G} {F : am_FT}
theorem prc_r (h2 : I2 M0) {w h : Int} (h0 : 0 ≤ w) (h1 : w < nW M0) (k0 : 0 ≤ h) (k1 : h < 24) : 2 ≤ prc M0 w h ∧ prc M0 w h ≤ 2400 := by
  have hf := (h2.2.2.1 w h0 h1).2.1
  unfold prc
  (repeat' split) <;> omega
theorem c_unmark_l (hF : F = am_F T0 g) (hg : GG g) : ∀ (n k : Nat) (M : am_M), (k : Int) + n = A M 32 6 → A M 32 6 ≤ 200 → (∀ i : Int, 0 ≤ i → i < A M 32 6 → 0 ≤ A M 36 i ∧ A M 36 i < 6400) → (∀ t : Int, 0 ≤ t → t < 6400 → A M 35 t = 0 ∨ ∃ i : Int, (k : Int) ≤ i ∧ i < A M 32 6 ∧ A M 36 i = t) →
    ∃ M' : am_M, F 21 2 [.ref 32, .int (iI k)] [] M = some (none, M') ∧ Ke [35, 32] M M' ∧ A M' 32 6 = 0 ∧ (∀ t : Int, 0 ≤ t → t < 6400 → A M' 35 t = 0) ∧ A M' 32 7 = A M 32 7 ∧ A M' 32 13 = A M 32 13 := by
  intro n
  induction n with
  | zero =>
    intro k M h hm h1 h2
    refine ⟨W_ M 32 6 0, ?_, Ke.refl.w (by decide), A_Ws (by omega) (by omega), fun t t0 t1 => ?_, A_Wo (by omega) (by omega) (by omega), A_Wo (by omega) (by omega) (by omega)⟩
    · refine s_Finder_unmark_2 hF hg ?_
      simp (disch := (first | omega | decide | assumption)) only [ltm_s, ok_n, rd_i, rd_j, fd_i, fd_j, wr_i, wr_j, fw_i, fw_j, ci_s, cj_s, cv_s, dv_n, dw_n, rt_1, rt_b, rt_20, rt_21, okb_0, okb_1, okb_b, nar_0, nar_1, nar_b, i_0, i_1, j_0, j_1, i_lit, j_lit, i_n, iI_add, iI_sub, iI_mul, iI_neg, jI_add, jI_sub, jI_mul, jI_neg, sh_1, an_1, xo_1, di_p, dj_p, i_64A, i_64, j_32, lq_ge, lq_lt, lq_le, lq_gt, lq_eq, i_lt, i_le, i_eq, j_eq, iI_A, jI_J, iI_b, iI_v, jI_v, ↓reduceIte, ite_true, ite_false, Int.reduceEq, Int.reduceLT, Int.reduceLE, Int.reduceAdd, Int.reduceSub, Int.reduceMul, Int.reduceNeg, not_true_eq_false, not_false_eq_true]
      rw [if_pos (by omega)]
    · rw [A_Wn (by decide)]
      rcases h2 t t0 t1 with q | ⟨i, i0, i1, -⟩
      · exact q
      · omega
  | succ n ih =>
    intro k M h hm h1 h2
    have ek : ((k + 1 : Nat) : Int) = (k : Int) + 1 := by omega
    have hr := h1 k (by omega) (by omega)
    have e32 : ∀ z : Int, A (W_ M 35 (A M 36 k) 0) 32 z = A M 32 z := fun z => A_Wn (by decide)
    have e36 : ∀ z : Int, A (W_ M 35 (A M 36 k) 0) 36 z = A M 36 z := fun z => A_Wn (by decide)
    obtain ⟨M', q1, q2, q3, q4, q5, q6⟩ := ih (k + 1) (W_ M 35 (A M 36 k) 0) (by rw [e32]; omega) (by rw [e32]; exact hm) (fun i i0 i1 => by rw [e32] at i1; rw [e36]; exact h1 i i0 i1) (fun t t0 t1 => by
      by_cases et : t = A M 36 k
      · left; rw [et]; exact A_Ws (by omega) (by omega)
      · rw [A_Wo hr.1 t0 et, e32]
        rcases h2 t t0 t1 with q | ⟨i, i0, i1, ei⟩
        · exact Or.inl q
        · refine Or.inr ⟨i, ?_, i1, by rw [e36]; exact ei⟩
          by_cases eik : i = k
          · rw [eik] at ei; exact absurd ei.symm et
          · omega)
    rw [ek] at q1
    refine ⟨M', ?_, (Ke.refl.w (by decide)).trans q2, q3, q4, q5.trans (e32 _), q6.trans (e32 _)⟩
    refine s_Finder_unmark_2 hF hg ?_
    have hlt : ¬ A M 32 6 ≤ (k : Int) := by omega
    simp (disch := (first | omega | decide | assumption)) only [ltm_s, ok_n, rd_i, rd_j, fd_i, fd_j, wr_i, wr_j, fw_i, fw_j, ci_s, cj_s, cv_s, dv_n, dw_n, rt_1, rt_b, rt_20, rt_21, okb_0, okb_1, okb_b, nar_0, nar_1, nar_b, i_0, i_1, j_0, j_1, i_lit, j_lit, i_n, iI_add, iI_sub, iI_mul, iI_neg, jI_add, jI_sub, jI_mul, jI_neg, sh_1, an_1, xo_1, di_p, dj_p, i_64A, i_64, j_32, lq_ge, lq_lt, lq_le, lq_gt, lq_eq, i_lt, i_le, i_eq, j_eq, iI_A, jI_J, iI_b, iI_v, jI_v, ↓reduceIte, ite_true, ite_false, Int.reduceEq, Int.reduceLT, Int.reduceLE, Int.reduceAdd, Int.reduceSub, Int.reduceMul, Int.reduceNeg, not_true_eq_false, not_false_eq_true, hlt, q1]
theorem c_unmark (hF : F = am_F T0 g) (hg : GG g) (h : Imk M) : ∃ M' : am_M, F 21 0 [.ref 32] [] M = some (none, M') ∧ Ke [35, 32] M M' ∧ A M' 32 6 = 0 ∧ (∀ t : Int, 0 ≤ t → t < 6400 → A M' 35 t = 0) ∧ A M' 32 7 = A M 32 7 ∧ A M' 32 13 = A M 32 13 := by
  obtain ⟨h1, h2, h3⟩ := h
  obtain ⟨M', q1, q2⟩ := c_unmark_l hF hg (A M 32 6).toNat 0 M (by omega) h1.2 h2 (fun t t0 t1 => (h3 t t0 t1).imp id fun q => by
    obtain ⟨-, i, i0, i1, e⟩ := q; exact ⟨i, i0, i1, e⟩)
  refine ⟨M', ?_, q2⟩
  refine s_Finder_unmark hF hg ?_
  exact q1
theorem c_mark (hF : F = am_F T0 g) (hg : GG g) (h : Imk M) (hc : A M 32 6 < 200) {e f : Int} (e0 : 0 ≤ e) (e1 : e < 80) (f0 : 0 ≤ f) (f1 : f < 80) : ∃ M' : am_M, F 18 0 [.ref 32, .int (iI e), .int (iI f)] [] M = some (none, M') ∧ Ke [35, 36, 32] M M' ∧ Imk M' ∧ A M' 32 6 ≤ A M 32 6 + 1 ∧ (∀ t : Int, 0 ≤ t → t < 6400 → A M' 35 t = if t = e * 80 + f then 1 else A M 35 t) ∧ A M' 32 7 = A M 32 7 ∧ A M' 32 13 = A M 32 13 := by
  obtain ⟨h1, h2, h3⟩ := h
  by_cases q : A M 35 (e * 80 + f) = 0
  · refine ⟨W_ (W_ (W_ M 35 (e * 80 + f) 1) 36 (A M 32 6) (e * 80 + f)) 32 6 (A M 32 6 + 1), ?_, ((Ke.refl.w (by decide)).w (by decide)).w (by decide), ⟨?_, fun i i0 i1 => ?_, fun t t0 t1 => ?_⟩, ?_, fun t t0 t1 => ?_, ?_, ?_⟩
    · refine s_Finder_mark hF hg ?_
      have hlt : ¬ 200 ≤ A M 32 6 := by omega
      simp (disch := (first | omega | decide | assumption)) only [ltm_s, ok_n, rd_i, rd_j, fd_i, fd_j, wr_i, wr_j, fw_i, fw_j, ci_s, cj_s, cv_s, dv_n, dw_n, rt_1, rt_b, rt_20, rt_21, okb_0, okb_1, okb_b, nar_0, nar_1, nar_b, i_0, i_1, j_0, j_1, i_lit, j_lit, i_n, iI_add, iI_sub, iI_mul, iI_neg, jI_add, jI_sub, jI_mul, jI_neg, sh_1, an_1, xo_1, di_p, dj_p, i_64A, i_64, j_32, lq_ge, lq_lt, lq_le, lq_gt, lq_eq, i_lt, i_le, i_eq, j_eq, iI_A, jI_J, iI_b, iI_v, jI_v, ↓reduceIte, ite_true, ite_false, Int.reduceEq, Int.reduceLT, Int.reduceLE, Int.reduceAdd, Int.reduceSub, Int.reduceMul, Int.reduceNeg, not_true_eq_false, not_false_eq_true, A_Wn, A_WA, A_Wb, A_Ws, A_Wo, A_X, J_W, J_Xn, J_XJ, J_Xs, J_Xo, q, hlt]
    · rw [A_Ws (by omega) (by omega)]; omega
    · rw [A_Ws (by omega) (by omega)] at i1
      rw [A_Wn (by decide)]
      by_cases ei : i = A M 32 6
      · rw [ei, A_Ws (by omega) (by omega)]; omega
      · rw [A_Wo h1.1 i0 ei, A_Wn (by decide)]; exact h2 i i0 (by omega)
    · rw [A_Ws (by omega) (by omega)]
      rw [A_Wn (by decide), A_Wn (by decide)]
      by_cases et : t = e * 80 + f
      · refine Or.inr ⟨by rw [et, A_Ws (by omega) (by omega)], A M 32 6, h1.1, by omega, ?_⟩
        rw [A_Wn (by decide), A_Ws (by omega) (by omega), et]
      · rw [A_Wo (by omega) t0 et]
        rcases h3 t t0 t1 with q' | ⟨q', i, i0, i1, ei⟩
        · exact Or.inl q'
        · refine Or.inr ⟨q', i, i0, by omega, ?_⟩
          rw [A_Wn (by decide), A_Wo h1.1 i0 (by omega), A_Wn (by decide)]
          exact ei
    · rw [A_Ws (by omega) (by omega)]; omega
    · rw [A_Wn (by decide), A_Wn (by decide)]
      by_cases et : t = e * 80 + f
      · rw [if_pos et, et, A_Ws (by omega) (by omega)]
      · rw [if_neg et, A_Wo (by omega) t0 et]
    · rw [A_Wo (by omega) (by omega) (by omega), A_Wn (by decide), A_Wn (by decide)]
    · rw [A_Wo (by omega) (by omega) (by omega), A_Wn (by decide), A_Wn (by decide)]
  · refine ⟨M, ?_, Ke.refl, ⟨h1, h2, h3⟩, by omega, fun t t0 t1 => ?_, rfl, rfl⟩
    · refine s_Finder_mark hF hg ?_
      simp (disch := (first | omega | decide | assumption)) only [ltm_s, ok_n, rd_i, rd_j, fd_i, fd_j, wr_i, wr_j, fw_i, fw_j, ci_s, cj_s, cv_s, dv_n, dw_n, rt_1, rt_b, rt_20, rt_21, okb_0, okb_1, okb_b, nar_0, nar_1, nar_b, i_0, i_1, j_0, j_1, i_lit, j_lit, i_n, iI_add, iI_sub, iI_mul, iI_neg, jI_add, jI_sub, jI_mul, jI_neg, sh_1, an_1, xo_1, di_p, dj_p, i_64A, i_64, j_32, lq_ge, lq_lt, lq_le, lq_gt, lq_eq, i_lt, i_le, i_eq, j_eq, iI_A, jI_J, iI_b, iI_v, jI_v, ↓reduceIte, ite_true, ite_false, Int.reduceEq, Int.reduceLT, Int.reduceLE, Int.reduceAdd, Int.reduceSub, Int.reduceMul, Int.reduceNeg, not_true_eq_false, not_false_eq_true, q]
    · by_cases et : t = e * 80 + f
      · rw [if_pos et, et]
        rcases h3 (e * 80 + f) (by omega) (by omega) with q' | ⟨q', -⟩
        · exact absurd q' q
        · exact q'
      · rw [if_neg et]
theorem c_setHour_w (hF : F = am_F T0 g) (hg : GG g) (h2 : I2 M0) {hour : Int} (u0 : 0 ≤ hour) (u1 : hour < 24) : ∀ (n k : Nat) (M : am_M), (k : Int) + n = nW M0 → Ag M0 M → (∀ w : Int, 0 ≤ w → w < (k : Int) → A M 34 w = prc M0 w hour) →
    ∃ M' : am_M, F 170 36 [.ref 32, .int (iI hour), .int (iI k)] [] M = some (none, M') ∧ Ke [34] M M' ∧ ∀ w : Int, 0 ≤ w → w < nW M0 → A M' 34 w = prc M0 w hour := by
  intro n
  induction n with
  | zero =>
    intro k M h hA hp
    have hn := h2.1
    refine ⟨M, ?_, Ke.refl, fun w w0 w1 => hp w w0 (by omega)⟩
    refine s_Finder_setHour_36 hF hg ?_
    simp (disch := (first | omega | decide | assumption)) only [ltm_s, ok_n, rd_i, rd_j, fd_i, fd_j, wr_i, wr_j, fw_i, fw_j, ci_s, cj_s, cv_s, dv_n, dw_n, rt_1, rt_b, rt_20, rt_21, okb_0, okb_1, okb_b, nar_0, nar_1, nar_b, i_0, i_1, j_0, j_1, i_lit, j_lit, i_n, iI_add, iI_sub, iI_mul, iI_neg, jI_add, jI_sub, jI_mul, jI_neg, sh_1, an_1, xo_1, di_p, dj_p, i_64A, i_64, j_32, lq_ge, lq_lt, lq_le, lq_gt, lq_eq, i_lt, i_le, i_eq, j_eq, iI_A, jI_J, iI_b, iI_v, jI_v, ↓reduceIte, ite_true, ite_false, Int.reduceEq, Int.reduceLT, Int.reduceLE, Int.reduceAdd, Int.reduceSub, Int.reduceMul, Int.reduceNeg, not_true_eq_false, not_false_eq_true, agA hA, agJA hA, ag hA, v_nJ, v_nW, v_nD, v_toD, v_px, v_py, v_rg, v_kd, v_ft, v_on, v_bg, v_en, @nJ_ M0, @nW_ M0, @nD_ M0, @toD_ M0, @px_ M0, @py_ M0, @rg_ M0, @kd_ M0, @ft_ M0, @on_ M0, bt_, h2.2.1]
    rw [if_pos (by omega)]
  | succ n ih =>
    intro k M h hA hp
    have hn := h2.1
    have ek : ((k + 1 : Nat) : Int) = (k : Int) + 1 := by omega
    have hK : Ke [34] M (W_ M 34 k (prc M0 k hour)) := Ke.refl.w (by decide)
    have hpr := prc_r h2 (w := k) (by omega) (by omega) u0 u1
    obtain ⟨M', q1, q2, q3⟩ := ih (k + 1) (W_ M 34 k (prc M0 k hour)) (by omega) (hA.trans (hK.ag (by decide))) (fun w w0 w1 => by
      by_cases ew : w = k
      · rw [ew, A_Ws (by omega) (by omega)]
      · rw [A_Wo (by omega) w0 ew]; exact hp w w0 (by omega))
    rw [ek] at q1
    refine ⟨M', ?_, hK.trans q2, q3⟩
    refine s_Finder_setHour_36 hF hg ?_
    have hlt : ¬ nW M0 ≤ (k : Int) := by omega
    simp (disch := (first | omega | decide | assumption)) only [ltm_s, ok_n, rd_i, rd_j, fd_i, fd_j, wr_i, wr_j, fw_i, fw_j, ci_s, cj_s, cv_s, dv_n, dw_n, rt_1, rt_b, rt_20, rt_21, okb_0, okb_1, okb_b, nar_0, nar_1, nar_b, i_0, i_1, j_0, j_1, i_lit, j_lit, i_n, iI_add, iI_sub, iI_mul, iI_neg, jI_add, jI_sub, jI_mul, jI_neg, sh_1, an_1, xo_1, di_p, dj_p, i_64A, i_64, j_32, lq_ge, lq_lt, lq_le, lq_gt, lq_eq, i_lt, i_le, i_eq, j_eq, iI_A, jI_J, iI_b, iI_v, jI_v, ↓reduceIte, ite_true, ite_false, Int.reduceEq, Int.reduceLT, Int.reduceLE, Int.reduceAdd, Int.reduceSub, Int.reduceMul, Int.reduceNeg, not_true_eq_false, not_false_eq_true, agA hA, agJA hA, ag hA, v_nJ, v_nW, v_nD, v_toD, v_px, v_py, v_rg, v_kd, v_ft, v_on, v_bg, v_en, @nJ_ M0, @nW_ M0, @nD_ M0, @toD_ M0, @px_ M0, @py_ M0, @rg_ M0, @kd_ M0, @ft_ M0, @on_ M0, bt_, h2.2.1, hlt, c_priceOf hF hg hA h2, q1]
theorem c_setHour_e (hF : F = am_F T0 g) (hg : GG g) (h2 : I2 M0) {hour : Int} (u0 : 0 ≤ hour) (u1 : hour < 24) : ∀ (n k : Nat) (M : am_M), (k : Int) + n = 2 * nW M0 → Ag M0 M → (∀ e : Int, 0 ≤ e → e < (k : Int) → A M 33 e = bI (pas M0 e hour)) →
    ∃ M' : am_M, F 170 2 [.ref 32, .int (iI hour), .int (iI k)] [] M = some (none, M') ∧ Ke [33, 34] M M' ∧ (∀ e : Int, 0 ≤ e → e < 2 * nW M0 → A M' 33 e = bI (pas M0 e hour)) ∧ ∀ w : Int, 0 ≤ w → w < nW M0 → A M' 34 w = prc M0 w hour := by
  intro n
  induction n with
  | zero =>
    intro k M h hA hp
    have hn := h2.1
    obtain ⟨M', q1, q2, q3⟩ := c_setHour_w hF hg h2 u0 u1 (nW M0).toNat 0 M (by omega) hA (fun w w0 w1 => by omega)
    have e0 : iI ((0 : Nat) : Int) = iI 0 := rfl
    rw [e0] at q1
    refine ⟨M', ?_, q2.mono (by decide), fun e e0 e1 => ?_, q3⟩
    · refine s_Finder_setHour_2 hF hg ?_
      simp (disch := (first | omega | decide | assumption)) only [ltm_s, ok_n, rd_i, rd_j, fd_i, fd_j, wr_i, wr_j, fw_i, fw_j, ci_s, cj_s, cv_s, dv_n, dw_n, rt_1, rt_b, rt_20, rt_21, okb_0, okb_1, okb_b, nar_0, nar_1, nar_b, i_0, i_1, j_0, j_1, i_lit, j_lit, i_n, iI_add, iI_sub, iI_mul, iI_neg, jI_add, jI_sub, jI_mul, jI_neg, sh_1, an_1, xo_1, di_p, dj_p, i_64A, i_64, j_32, lq_ge, lq_lt, lq_le, lq_gt, lq_eq, i_lt, i_le, i_eq, j_eq, iI_A, jI_J, iI_b, iI_v, jI_v, ↓reduceIte, ite_true, ite_false, Int.reduceEq, Int.reduceLT, Int.reduceLE, Int.reduceAdd, Int.reduceSub, Int.reduceMul, Int.reduceNeg, not_true_eq_false, not_false_eq_true, agA hA, agJA hA, ag hA, v_nJ, v_nW, v_nD, v_toD, v_px, v_py, v_rg, v_kd, v_ft, v_on, v_bg, v_en, @nJ_ M0, @nW_ M0, @nD_ M0, @toD_ M0, @px_ M0, @py_ M0, @rg_ M0, @kd_ M0, @ft_ M0, @on_ M0, bt_, c_legCount hF hg hA h2]
      rw [if_pos (by omega)]
      exact q1
    · rw [q2.a (by decide)]; exact hp e e0 (by omega)
  | succ n ih =>
    intro k M h hA hp
    have hn := h2.1
    have ek : ((k + 1 : Nat) : Int) = (k : Int) + 1 := by omega
    have hK : Ke [33] M (W_ M 33 k (bI (pas M0 k hour))) := Ke.refl.w (by decide)
    obtain ⟨M', q1, q2, q3⟩ := ih (k + 1) (W_ M 33 k (bI (pas M0 k hour))) (by omega) (hA.trans (hK.ag (by decide))) (fun e e0 e1 => by
      by_cases ee : e = k
      · rw [ee, A_Wb]
      · rw [A_Wo (by omega) e0 ee]; exact hp e e0 (by omega))
    rw [ek] at q1
    refine ⟨M', ?_, (hK.mono (by decide)).trans q2, q3⟩
    refine s_Finder_setHour_2 hF hg ?_
    have hlt : ¬ 2 * nW M0 ≤ (k : Int) := by omega
    simp (disch := (first | omega | decide | assumption)) only [ltm_s, ok_n, rd_i, rd_j, fd_i, fd_j, wr_i, wr_j, fw_i, fw_j, ci_s, cj_s, cv_s, dv_n, dw_n, rt_1, rt_b, rt_20, rt_21, okb_0, okb_1, okb_b, nar_0, nar_1, nar_b, i_0, i_1, j_0, j_1, i_lit, j_lit, i_n, iI_add, iI_sub, iI_mul, iI_neg, jI_add, jI_sub, jI_mul, jI_neg, sh_1, an_1, xo_1, di_p, dj_p, i_64A, i_64, j_32, lq_ge, lq_lt, lq_le, lq_gt, lq_eq, i_lt, i_le, i_eq, j_eq, iI_A, jI_J, iI_b, iI_v, jI_v, ↓reduceIte, ite_true, ite_false, Int.reduceEq, Int.reduceLT, Int.reduceLE, Int.reduceAdd, Int.reduceSub, Int.reduceMul, Int.reduceNeg, not_true_eq_false, not_false_eq_true, agA hA, agJA hA, ag hA, v_nJ, v_nW, v_nD, v_toD, v_px, v_py, v_rg, v_kd, v_ft, v_on, v_bg, v_en, @nJ_ M0, @nW_ M0, @nD_ M0, @toD_ M0, @px_ M0, @py_ M0, @rg_ M0, @kd_ M0, @ft_ M0, @on_ M0, bt_, hlt, c_legCount hF hg hA h2, c_isPassable hF hg hA h2, q1]
theorem c_setHour (hF : F = am_F T0 g) (hg : GG g) (h2 : I2 M0) (hA : Ag M0 M) {hour : Int} (u0 : 0 ≤ hour) (u1 : hour < 24) : ∃ M' : am_M, F 170 0 [.ref 32, .int (iI hour)] [] M = some (none, M') ∧ Ke [33, 34] M M' ∧ (∀ e : Int, 0 ≤ e → e < 2 * nW M0 → A M' 33 e = bI (pas M0 e hour)) ∧ ∀ w : Int, 0 ≤ w → w < nW M0 → A M' 34 w = prc M0 w hour := by
  have hn := h2.1
  obtain ⟨M', q1, q2⟩ := c_setHour_e hF hg h2 u0 u1 (2 * nW M0).toNat 0 M (by omega) hA (fun w w0 w1 => by omega)
  exact ⟨M', s_Finder_setHour hF hg q1, q2⟩
theorem c_setCity_b (hF : F = am_F T0 g) (hg : GG g) (h2 : I2 M0) (h7 : I7 M0) {day hour : Int} (d0 : 0 ≤ day) (d1 : day < 300) (u0 : 0 ≤ hour) (u1 : hour < 24) : ∀ (n k : Nat) (M : am_M), (k : Int) + n = A M0 219 24 → Ag M0 M → Imk M → A M 32 6 ≤ (k : Int) → (∀ e f : Int, 0 ≤ e → e < 80 → 0 ≤ f → f < 80 → A M 35 (e * 80 + f) = bI (∃ i : Int, 0 ≤ i ∧ i < (k : Int) ∧ (A M0 238 i = e ∧ A M0 239 i = f ∧ onb M0 i day hour))) →
    ∃ M' : am_M, F 218 76 [.ref 32, .int (iI day), .int (iI hour), .int (iI k)] [] M = some (none, M') ∧ Ke [35, 36, 32] M M' ∧ Imk M' ∧ (∀ e f : Int, 0 ≤ e → e < 80 → 0 ≤ f → f < 80 → A M' 35 (e * 80 + f) = bI (bnd M0 e f day hour)) ∧ A M' 32 7 = A M 32 7 ∧ A M' 32 13 = A M 32 13 := by
  intro n
  induction n with
  | zero =>
    intro k M h hA hm hc hp
    have hn := h7.1
    refine ⟨M, ?_, Ke.refl, hm, fun e f e0 e1 f0 f1 => ?_, rfl, rfl⟩
    · refine s_Finder_setCity_76 hF hg ?_
      simp (disch := (first | omega | decide | assumption)) only [ltm_s, ok_n, rd_i, rd_j, fd_i, fd_j, wr_i, wr_j, fw_i, fw_j, ci_s, cj_s, cv_s, dv_n, dw_n, rt_1, rt_b, rt_20, rt_21, okb_0, okb_1, okb_b, nar_0, nar_1, nar_b, i_0, i_1, j_0, j_1, i_lit, j_lit, i_n, iI_add, iI_sub, iI_mul, iI_neg, jI_add, jI_sub, jI_mul, jI_neg, sh_1, an_1, xo_1, di_p, dj_p, i_64A, i_64, j_32, lq_ge, lq_lt, lq_le, lq_gt, lq_eq, i_lt, i_le, i_eq, j_eq, iI_A, jI_J, iI_b, iI_v, jI_v, ↓reduceIte, ite_true, ite_false, Int.reduceEq, Int.reduceLT, Int.reduceLE, Int.reduceAdd, Int.reduceSub, Int.reduceMul, Int.reduceNeg, not_true_eq_false, not_false_eq_true, agA hA, agJA hA, ag hA, v_nJ, v_nW, v_nD, v_toD, v_px, v_py, v_rg, v_kd, v_ft, v_on, v_bg, v_en, @nJ_ M0, @nW_ M0, @nD_ M0, @toD_ M0, @px_ M0, @py_ M0, @rg_ M0, @kd_ M0, @ft_ M0, @on_ M0, bt_, h7.2.1]
      rw [if_pos (by omega)]
    · rw [hp e f e0 e1 f0 f1, show (k : Int) = A M0 219 24 by omega]; rfl
  | succ n ih =>
    intro k M h hA hm hc hp
    have hn := h7.1
    have hw := h2.1
    have ek : ((k + 1 : Nat) : Int) = (k : Int) + 1 := by omega
    obtain ⟨r1, r2, r3, r4, -⟩ := h7.2.2 k (by omega) (by omega)
    have hlt : ¬ A M0 219 24 ≤ (k : Int) := by omega
    by_cases q : onb M0 k day hour
    · obtain ⟨M1, p1, p2, p3, p4, p5, p6, p7⟩ := c_mark hF hg hm (by omega) (e := A M0 238 k) (f := A M0 239 k) r1.1 (by omega) r2.1 (by omega)
      obtain ⟨M', q1, q2, q3, q4, q5, q6⟩ := ih (k + 1) M1 (by omega) (hA.trans (p2.ag (by decide))) p3 (by omega) (fun e f e0 e1 f0 f1 => by
        rw [p5 _ (by omega) (by omega)]
        by_cases eq : e * 80 + f = A M0 238 k * 80 + A M0 239 k
        · rw [if_pos eq, bI_t ⟨(k : Int), by omega, by omega, by omega, by omega, q⟩]
        · rw [if_neg eq, hp e f e0 e1 f0 f1]
          refine bI_cg ⟨fun ⟨i, i0, i1, hi⟩ => ⟨i, i0, by omega, hi⟩, fun ⟨i, i0, i1, hi⟩ => ⟨i, i0, ?_, hi⟩⟩
          by_cases ei : i = k
          · rw [ei] at hi; exact absurd (by rw [hi.1, hi.2.1]) eq
          · omega)
      rw [ek] at q1
      refine ⟨M', ?_, p2.trans q2, q3, q4, q5.trans p6, q6.trans p7⟩
      refine s_Finder_setCity_76 hF hg ?_
      simp (disch := (first | omega | decide | assumption)) only [ltm_s, ok_n, rd_i, rd_j, fd_i, fd_j, wr_i, wr_j, fw_i, fw_j, ci_s, cj_s, cv_s, dv_n, dw_n, rt_1, rt_b, rt_20, rt_21, okb_0, okb_1, okb_b, nar_0, nar_1, nar_b, i_0, i_1, j_0, j_1, i_lit, j_lit, i_n, iI_add, iI_sub, iI_mul, iI_neg, jI_add, jI_sub, jI_mul, jI_neg, sh_1, an_1, xo_1, di_p, dj_p, i_64A, i_64, j_32, lq_ge, lq_lt, lq_le, lq_gt, lq_eq, i_lt, i_le, i_eq, j_eq, iI_A, jI_J, iI_b, iI_v, jI_v, ↓reduceIte, ite_true, ite_false, Int.reduceEq, Int.reduceLT, Int.reduceLE, Int.reduceAdd, Int.reduceSub, Int.reduceMul, Int.reduceNeg, not_true_eq_false, not_false_eq_true, agA hA, agJA hA, ag hA, v_nJ, v_nW, v_nD, v_toD, v_px, v_py, v_rg, v_kd, v_ft, v_on, v_bg, v_en, @nJ_ M0, @nW_ M0, @nD_ M0, @toD_ M0, @px_ M0, @py_ M0, @rg_ M0, @kd_ M0, @ft_ M0, @on_ M0, bt_, h7.2.1, hlt, c_isBanOn hF hg hA h7, bI_t q, r3, r4, p1, q1]
    · obtain ⟨M', q1, q2, q3, q4, q5, q6⟩ := ih (k + 1) M (by omega) hA hm (by omega) (fun e f e0 e1 f0 f1 => by
        rw [hp e f e0 e1 f0 f1]
        refine bI_cg ⟨fun ⟨i, i0, i1, hi⟩ => ⟨i, i0, by omega, hi⟩, fun ⟨i, i0, i1, hi⟩ => ⟨i, i0, ?_, hi⟩⟩
        by_cases ei : i = k
        · rw [ei] at hi; exact absurd hi.2.2 q
        · omega)
      rw [ek] at q1
      refine ⟨M', ?_, q2, q3, q4, q5, q6⟩
      refine s_Finder_setCity_76 hF hg ?_
      simp (disch := (first | omega | decide | assumption)) only [ltm_s, ok_n, rd_i, rd_j, fd_i, fd_j, wr_i, wr_j, fw_i, fw_j, ci_s, cj_s, cv_s, dv_n, dw_n, rt_1, rt_b, rt_20, rt_21, okb_0, okb_1, okb_b, nar_0, nar_1, nar_b, i_0, i_1, j_0, j_1, i_lit, j_lit, i_n, iI_add, iI_sub, iI_mul, iI_neg, jI_add, jI_sub, jI_mul, jI_neg, sh_1, an_1, xo_1, di_p, dj_p, i_64A, i_64, j_32, lq_ge, lq_lt, lq_le, lq_gt, lq_eq, i_lt, i_le, i_eq, j_eq, iI_A, jI_J, iI_b, iI_v, jI_v, ↓reduceIte, ite_true, ite_false, Int.reduceEq, Int.reduceLT, Int.reduceLE, Int.reduceAdd, Int.reduceSub, Int.reduceMul, Int.reduceNeg, not_true_eq_false, not_false_eq_true, agA hA, agJA hA, ag hA, v_nJ, v_nW, v_nD, v_toD, v_px, v_py, v_rg, v_kd, v_ft, v_on, v_bg, v_en, @nJ_ M0, @nW_ M0, @nD_ M0, @toD_ M0, @px_ M0, @py_ M0, @rg_ M0, @kd_ M0, @ft_ M0, @on_ M0, bt_, h7.2.1, hlt, c_isBanOn hF hg hA h7, bI_f q, q1]
/-- what the finder has been set to -/
def fset (M0 : am_M) (md : Int × Int × Int × Int) (M : am_M) : Prop := Imk M ∧ (∀ e : Int, 0 ≤ e → e < 2 * nW M0 → A M 33 e = bI (mgo M0 md e)) ∧ (∀ w : Int, 0 ≤ w → w < nW M0 → A M 34 w = prc M0 w md.2.2.1) ∧ A M 32 7 = bI (¬ md.1 = -1) ∧ ∀ e f : Int, 0 ≤ e → e < 2 * nW M0 → 0 ≤ f → f < 2 * nW M0 → A M 35 (e * 80 + f) = bI (mkd M0 md e f)
theorem c_setCity_l (hF : F = am_F T0 g) (hg : GG g) (h2 : I2 M0) (h6 : I6 M0) (h7 : I7 M0) {day hour kn : Int} (d0 : 0 ≤ day) (d1 : day < 300) (u0 : 0 ≤ hour) (u1 : hour < 24) (k0 : 0 ≤ kn) (k1 : kn < 300) : ∀ (n k : Nat) (M : am_M), (k : Int) + n = 2 * nW M0 → Ag M0 M → Imk M → (∀ e : Int, 0 ≤ e → e < 2 * nW M0 → A M 33 e = bI (if e < (k : Int) then drv M0 e day hour kn else pas M0 e hour)) → (∀ w : Int, 0 ≤ w → w < nW M0 → A M 34 w = prc M0 w hour) →
    ∃ M' : am_M, F 218 8 [.ref 32, .int (iI day), .int (iI hour), .int (iI kn), .int (iI k)] [] M = some (none, M') ∧ Ke [33, 35, 36, 32] M M' ∧ fset M0 (-1, day, hour, kn) M' ∧ A M' 32 13 = A M 32 13 := by
  intro n
  induction n with
  | zero =>
    intro k M h hA hm hp hq
    have hn := h2.1
    have hn7 := h7.1
    obtain ⟨M1, p1, p2, p3, p4, p5, p6⟩ := c_unmark hF hg hm
    have hK : Ke [35, 32] M (W_ M1 32 7 0) := p2.w (by decide)
    have hmk : Imk (W_ M1 32 7 0) := by
      have e6 : A (W_ M1 32 7 0) 32 6 = 0 := by rw [A_Wo (by omega) (by omega) (by omega), p3]
      refine ⟨by rw [e6]; omega, fun i i0 i1 => by rw [e6] at i1; omega, fun t t0 t1 => Or.inl ?_⟩
      rw [A_Wn (by decide)]; exact p4 t t0 t1
    obtain ⟨M', q1, q2, q3, q4, q5, q6⟩ := c_setCity_b hF hg h2 h7 d0 d1 u0 u1 (A M0 219 24).toNat 0 (W_ M1 32 7 0) (by omega) (hA.trans (hK.ag (by decide))) hmk (by rw [A_Wo (by omega) (by omega) (by omega), p3]; omega) (fun e f e0 e1 f0 f1 => by
      rw [A_Wn (by decide), p4 _ (by omega) (by omega), bI_f]
      rintro ⟨i, i0, i1, -⟩; omega)
    have e0 : iI ((0 : Nat) : Int) = iI 0 := rfl
    rw [e0] at q1
    refine ⟨M', ?_, (hK.mono (by decide)).trans (q2.mono (by decide)), ⟨q3, fun e e0 e1 => ?_, fun w w0 w1 => ?_, ?_, fun e f e0 e1 f0 f1 => ?_⟩, ?_⟩
    · refine s_Finder_setCity_8 hF hg ?_
      simp (disch := (first | omega | decide | assumption)) only [ltm_s, ok_n, rd_i, rd_j, fd_i, fd_j, wr_i, wr_j, fw_i, fw_j, ci_s, cj_s, cv_s, dv_n, dw_n, rt_1, rt_b, rt_20, rt_21, okb_0, okb_1, okb_b, nar_0, nar_1, nar_b, i_0, i_1, j_0, j_1, i_lit, j_lit, i_n, iI_add, iI_sub, iI_mul, iI_neg, jI_add, jI_sub, jI_mul, jI_neg, sh_1, an_1, xo_1, di_p, dj_p, i_64A, i_64, j_32, lq_ge, lq_lt, lq_le, lq_gt, lq_eq, i_lt, i_le, i_eq, j_eq, iI_A, jI_J, iI_b, iI_v, jI_v, ↓reduceIte, ite_true, ite_false, Int.reduceEq, Int.reduceLT, Int.reduceLE, Int.reduceAdd, Int.reduceSub, Int.reduceMul, Int.reduceNeg, not_true_eq_false, not_false_eq_true, agA hA, agJA hA, ag hA, v_nJ, v_nW, v_nD, v_toD, v_px, v_py, v_rg, v_kd, v_ft, v_on, v_bg, v_en, @nJ_ M0, @nW_ M0, @nD_ M0, @toD_ M0, @px_ M0, @py_ M0, @rg_ M0, @kd_ M0, @ft_ M0, @on_ M0, bt_, c_legCount hF hg hA h2, p1]
      rw [if_pos (by omega)]
      exact q1
    · rw [q2.a (by decide), hK.a (by decide), hp e e0 e1, if_pos (by omega)]
      exact bI_cg (by unfold mgo; rw [if_pos rfl])
    · rw [q2.a (by decide), hK.a (by decide)]; exact hq w w0 w1
    · rw [q5, A_Ws (by omega) (by omega), bI_f (fun x => x rfl)]
    · rw [q4 e f e0 (by omega) f0 (by omega)]
      exact bI_cg (by unfold mkd; rw [if_pos rfl])
    · rw [q6, A_Wo (by omega) (by omega) (by omega), p6]
  | succ n ih =>
    intro k M h hA hm hp hq
    have hn := h2.1
    have ek : ((k + 1 : Nat) : Int) = (k : Int) + 1 := by omega
    have hlt : ¬ 2 * nW M0 ≤ (k : Int) := by omega
    have hk := hp k (by omega) (by omega)
    rw [if_neg (by omega)] at hk
    have step : ∀ v : Int, v = bI (drv M0 k day hour kn) → ∃ M' : am_M, F 218 8 [.ref 32, .int (iI day), .int (iI hour), .int (iI kn), .int (iI ((k : Int) + 1))] [] (W_ M 33 k v) = some (none, M') ∧ Ke [33, 35, 36, 32] M M' ∧ fset M0 (-1, day, hour, kn) M' ∧ A M' 32 13 = A M 32 13 := by
      intro v hv
      have hK : Ke [33] M (W_ M 33 k v) := Ke.refl.w (by decide)
      have hmk : Imk (W_ M 33 k v) := by
        obtain ⟨m1, m2, m3⟩ := hm
        have e32 : ∀ z : Int, A (W_ M 33 k v) 32 z = A M 32 z := fun z => A_Wn (by decide)
        have e35 : ∀ z : Int, A (W_ M 33 k v) 35 z = A M 35 z := fun z => A_Wn (by decide)
        have e36 : ∀ z : Int, A (W_ M 33 k v) 36 z = A M 36 z := fun z => A_Wn (by decide)
        unfold Imk
        simp only [e32, e35, e36]
        exact ⟨m1, m2, m3⟩
      obtain ⟨M', q1, q2, q3, q4⟩ := ih (k + 1) (W_ M 33 k v) (by omega) (hA.trans (hK.ag (by decide))) hmk (fun e e0 e1 => by
        by_cases ee : e = k
        · rw [ee, if_pos (by omega), hv, A_Wb]
        · rw [A_Wo (by omega) e0 ee, hp e e0 e1]
          by_cases el : e < (k : Int)
          · rw [if_pos el, if_pos (by omega)]
          · rw [if_neg el, if_neg (by omega)]) (fun w w0 w1 => by rw [A_Wn (by decide)]; exact hq w w0 w1)
      rw [ek] at q1
      exact ⟨M', q1, (hK.mono (by decide)).trans q2, q3, by rw [q4, A_Wn (by decide)]⟩
    by_cases qp : pas M0 k hour
    · rw [bI_t qp] at hk
      by_cases qs : shu M0 ((k : Int) / 2) day kn
      · obtain ⟨M', q1, q2⟩ := step 0 (bI_f (fun x => x.2 qs)).symm
        refine ⟨M', ?_, q2⟩
        refine s_Finder_setCity_8 hF hg ?_
        simp (disch := (first | omega | decide | assumption)) only [ltm_s, ok_n, rd_i, rd_j, fd_i, fd_j, wr_i, wr_j, fw_i, fw_j, ci_s, cj_s, cv_s, dv_n, dw_n, rt_1, rt_b, rt_20, rt_21, okb_0, okb_1, okb_b, nar_0, nar_1, nar_b, i_0, i_1, j_0, j_1, i_lit, j_lit, i_n, iI_add, iI_sub, iI_mul, iI_neg, jI_add, jI_sub, jI_mul, jI_neg, sh_1, an_1, xo_1, di_p, dj_p, i_64A, i_64, j_32, lq_ge, lq_lt, lq_le, lq_gt, lq_eq, i_lt, i_le, i_eq, j_eq, iI_A, jI_J, iI_b, iI_v, jI_v, ↓reduceIte, ite_true, ite_false, Int.reduceEq, Int.reduceLT, Int.reduceLE, Int.reduceAdd, Int.reduceSub, Int.reduceMul, Int.reduceNeg, not_true_eq_false, not_false_eq_true, agA hA, agJA hA, ag hA, v_nJ, v_nW, v_nD, v_toD, v_px, v_py, v_rg, v_kd, v_ft, v_on, v_bg, v_en, @nJ_ M0, @nW_ M0, @nD_ M0, @toD_ M0, @px_ M0, @py_ M0, @rg_ M0, @kd_ M0, @ft_ M0, @on_ M0, bt_, c_legCount hF hg hA h2, hlt, hk, c_isShut hF hg hA h6, bI_t qs, q1]
      · obtain ⟨M', q1, q2⟩ := step 1 (bI_t ⟨qp, qs⟩).symm
        refine ⟨M', ?_, q2⟩
        refine s_Finder_setCity_8 hF hg ?_
        simp (disch := (first | omega | decide | assumption)) only [ltm_s, ok_n, rd_i, rd_j, fd_i, fd_j, wr_i, wr_j, fw_i, fw_j, ci_s, cj_s, cv_s, dv_n, dw_n, rt_1, rt_b, rt_20, rt_21, okb_0, okb_1, okb_b, nar_0, nar_1, nar_b, i_0, i_1, j_0, j_1, i_lit, j_lit, i_n, iI_add, iI_sub, iI_mul, iI_neg, jI_add, jI_sub, jI_mul, jI_neg, sh_1, an_1, xo_1, di_p, dj_p, i_64A, i_64, j_32, lq_ge, lq_lt, lq_le, lq_gt, lq_eq, i_lt, i_le, i_eq, j_eq, iI_A, jI_J, iI_b, iI_v, jI_v, ↓reduceIte, ite_true, ite_false, Int.reduceEq, Int.reduceLT, Int.reduceLE, Int.reduceAdd, Int.reduceSub, Int.reduceMul, Int.reduceNeg, not_true_eq_false, not_false_eq_true, agA hA, agJA hA, ag hA, v_nJ, v_nW, v_nD, v_toD, v_px, v_py, v_rg, v_kd, v_ft, v_on, v_bg, v_en, @nJ_ M0, @nW_ M0, @nD_ M0, @toD_ M0, @px_ M0, @py_ M0, @rg_ M0, @kd_ M0, @ft_ M0, @on_ M0, bt_, c_legCount hF hg hA h2, hlt, hk, c_isShut hF hg hA h6, bI_f qs, q1]
    · rw [bI_f qp] at hk
      obtain ⟨M', q1, q2⟩ := step 0 (bI_f (fun x => qp x.1)).symm
      refine ⟨M', ?_, q2⟩
      refine s_Finder_setCity_8 hF hg ?_
      simp (disch := (first | omega | decide | assumption)) only [ltm_s, ok_n, rd_i, rd_j, fd_i, fd_j, wr_i, wr_j, fw_i, fw_j, ci_s, cj_s, cv_s, dv_n, dw_n, rt_1, rt_b, rt_20, rt_21, okb_0, okb_1, okb_b, nar_0, nar_1, nar_b, i_0, i_1, j_0, j_1, i_lit, j_lit, i_n, iI_add, iI_sub, iI_mul, iI_neg, jI_add, jI_sub, jI_mul, jI_neg, sh_1, an_1, xo_1, di_p, dj_p, i_64A, i_64, j_32, lq_ge, lq_lt, lq_le, lq_gt, lq_eq, i_lt, i_le, i_eq, j_eq, iI_A, jI_J, iI_b, iI_v, jI_v, ↓reduceIte, ite_true, ite_false, Int.reduceEq, Int.reduceLT, Int.reduceLE, Int.reduceAdd, Int.reduceSub, Int.reduceMul, Int.reduceNeg, not_true_eq_false, not_false_eq_true, agA hA, agJA hA, ag hA, v_nJ, v_nW, v_nD, v_toD, v_px, v_py, v_rg, v_kd, v_ft, v_on, v_bg, v_en, @nJ_ M0, @nW_ M0, @nD_ M0, @toD_ M0, @px_ M0, @py_ M0, @rg_ M0, @kd_ M0, @ft_ M0, @on_ M0, bt_, c_legCount hF hg hA h2, hlt, hk, q1]
theorem c_setCity (hF : F = am_F T0 g) (hg : GG g) (hA : Ag M0 M) (h2 : I2 M0) (h6 : I6 M0) (h7 : I7 M0) (hm : Imk M) {day hour kn : Int} (d0 : 0 ≤ day) (d1 : day < 300) (u0 : 0 ≤ hour) (u1 : hour < 24) (k0 : 0 ≤ kn) (k1 : kn < 300) :
    ∃ M' : am_M, F 218 0 [.ref 32, .int (iI day), .int (iI hour), .int (iI kn)] [] M = some (none, M') ∧ Ke [33, 34, 35, 36, 32] M M' ∧ fset M0 (-1, day, hour, kn) M' ∧ A M' 32 13 = A M 32 13 := by
  have hn := h2.1
  obtain ⟨M1, p1, p2, p3, p4⟩ := c_setHour hF hg h2 hA u0 u1
  have hmk : Imk M1 := by
    obtain ⟨m1, m2, m3⟩ := hm
    have e32 : ∀ z : Int, A M1 32 z = A M 32 z := fun z => p2.a (by decide)
    have e35 : ∀ z : Int, A M1 35 z = A M 35 z := fun z => p2.a (by decide)
    have e36 : ∀ z : Int, A M1 36 z = A M 36 z := fun z => p2.a (by decide)
    unfold Imk
    simp only [e32, e35, e36]
    exact ⟨m1, m2, m3⟩
  obtain ⟨M', q1, q2, q3, q4⟩ := c_setCity_l hF hg h2 h6 h7 d0 d1 u0 u1 k0 k1 (2 * nW M0).toNat 0 M1 (by omega) (hA.trans (p2.ag (by decide))) hmk (fun e e0 e1 => by rw [p3 e e0 e1, if_neg (by omega)]) p4
  have e0 : iI ((0 : Nat) : Int) = iI 0 := rfl
  rw [e0] at q1
  refine ⟨M', ?_, (p2.mono (by decide)).trans (q2.mono (by decide)), q3, by rw [q4, p2.a (by decide)]⟩
  refine s_Finder_setCity hF hg ?_
  simp (disch := (first | omega | decide | assumption)) only [ltm_s, ok_n, rd_i, rd_j, fd_i, fd_j, wr_i, wr_j, fw_i, fw_j, ci_s, cj_s, cv_s, dv_n, dw_n, rt_1, rt_b, rt_20, rt_21, okb_0, okb_1, okb_b, nar_0, nar_1, nar_b, i_0, i_1, j_0, j_1, i_lit, j_lit, i_n, iI_add, iI_sub, iI_mul, iI_neg, jI_add, jI_sub, jI_mul, jI_neg, sh_1, an_1, xo_1, di_p, dj_p, i_64A, i_64, j_32, lq_ge, lq_lt, lq_le, lq_gt, lq_eq, i_lt, i_le, i_eq, j_eq, iI_A, jI_J, iI_b, iI_v, jI_v, ↓reduceIte, ite_true, ite_false, Int.reduceEq, Int.reduceLT, Int.reduceLE, Int.reduceAdd, Int.reduceSub, Int.reduceMul, Int.reduceNeg, not_true_eq_false, not_false_eq_true, p1, q1]
theorem c_mayTurn (hF : F = am_F T0 g) (hg : GG g) (h2 : I2 M0) {md : Int × Int × Int × Int} (hs : fset M0 md M) {e f : Int} (e0 : 0 ≤ e) (e1 : e < 2 * nW M0) (f0 : 0 ≤ f) (f1 : f < 2 * nW M0) (hb : bg M0 f = en M0 e) : F 19 0 [.ref 32, .int (iI e), .int (iI f)] [] M = some (some (.int (iI (bI (may M0 md e f)))), M) := by
  have hn := h2.1
  obtain ⟨-, s1, -, s3, s4⟩ := hs
  refine s_Finder_mayTurn hF hg ?_
  by_cases q1 : mgo M0 md f
  · by_cases q2 : e / 2 = f / 2
    · simp (disch := (first | omega | decide | assumption)) only [ltm_s, ok_n, rd_i, rd_j, fd_i, fd_j, wr_i, wr_j, fw_i, fw_j, ci_s, cj_s, cv_s, dv_n, dw_n, rt_1, rt_b, rt_20, rt_21, okb_0, okb_1, okb_b, nar_0, nar_1, nar_b, i_0, i_1, j_0, j_1, i_lit, j_lit, i_n, iI_add, iI_sub, iI_mul, iI_neg, jI_add, jI_sub, jI_mul, jI_neg, sh_1, an_1, xo_1, di_p, dj_p, i_64A, i_64, j_32, lq_ge, lq_lt, lq_le, lq_gt, lq_eq, i_lt, i_le, i_eq, j_eq, iI_A, jI_J, iI_b, iI_v, jI_v, ↓reduceIte, ite_true, ite_false, Int.reduceEq, Int.reduceLT, Int.reduceLE, Int.reduceAdd, Int.reduceSub, Int.reduceMul, Int.reduceNeg, not_true_eq_false, not_false_eq_true, s1 f f0 f1, bI_t q1]
      rw [if_pos q2, bI_f (fun x => x.1.2 q2)]
    · by_cases q3 : md.1 = -1 <;> by_cases q4 : mkd M0 md e f
      · simp (disch := (first | omega | decide | assumption)) only [ltm_s, ok_n, rd_i, rd_j, fd_i, fd_j, wr_i, wr_j, fw_i, fw_j, ci_s, cj_s, cv_s, dv_n, dw_n, rt_1, rt_b, rt_20, rt_21, okb_0, okb_1, okb_b, nar_0, nar_1, nar_b, i_0, i_1, j_0, j_1, i_lit, j_lit, i_n, iI_add, iI_sub, iI_mul, iI_neg, jI_add, jI_sub, jI_mul, jI_neg, sh_1, an_1, xo_1, di_p, dj_p, i_64A, i_64, j_32, lq_ge, lq_lt, lq_le, lq_gt, lq_eq, i_lt, i_le, i_eq, j_eq, iI_A, jI_J, iI_b, iI_v, jI_v, ↓reduceIte, ite_true, ite_false, Int.reduceEq, Int.reduceLT, Int.reduceLE, Int.reduceAdd, Int.reduceSub, Int.reduceMul, Int.reduceNeg, not_true_eq_false, not_false_eq_true, s1 f f0 f1, bI_t q1, q2, s3, s4 e f e0 e1 f0 f1, bI_t q4, bI_f (not_not_intro q3)]
        rw [bI_f (fun x => x.2.2.mp q4 q3)]
      · simp (disch := (first | omega | decide | assumption)) only [ltm_s, ok_n, rd_i, rd_j, fd_i, fd_j, wr_i, wr_j, fw_i, fw_j, ci_s, cj_s, cv_s, dv_n, dw_n, rt_1, rt_b, rt_20, rt_21, okb_0, okb_1, okb_b, nar_0, nar_1, nar_b, i_0, i_1, j_0, j_1, i_lit, j_lit, i_n, iI_add, iI_sub, iI_mul, iI_neg, jI_add, jI_sub, jI_mul, jI_neg, sh_1, an_1, xo_1, di_p, dj_p, i_64A, i_64, j_32, lq_ge, lq_lt, lq_le, lq_gt, lq_eq, i_lt, i_le, i_eq, j_eq, iI_A, jI_J, iI_b, iI_v, jI_v, ↓reduceIte, ite_true, ite_false, Int.reduceEq, Int.reduceLT, Int.reduceLE, Int.reduceAdd, Int.reduceSub, Int.reduceMul, Int.reduceNeg, not_true_eq_false, not_false_eq_true, s1 f f0 f1, bI_t q1, q2, s3, s4 e f e0 e1 f0 f1, bI_f q4, bI_f (not_not_intro q3)]
        rw [bI_t ⟨⟨hb, q2⟩, q1, iff_of_false q4 (not_not_intro q3)⟩]
      · simp (disch := (first | omega | decide | assumption)) only [ltm_s, ok_n, rd_i, rd_j, fd_i, fd_j, wr_i, wr_j, fw_i, fw_j, ci_s, cj_s, cv_s, dv_n, dw_n, rt_1, rt_b, rt_20, rt_21, okb_0, okb_1, okb_b, nar_0, nar_1, nar_b, i_0, i_1, j_0, j_1, i_lit, j_lit, i_n, iI_add, iI_sub, iI_mul, iI_neg, jI_add, jI_sub, jI_mul, jI_neg, sh_1, an_1, xo_1, di_p, dj_p, i_64A, i_64, j_32, lq_ge, lq_lt, lq_le, lq_gt, lq_eq, i_lt, i_le, i_eq, j_eq, iI_A, jI_J, iI_b, iI_v, jI_v, ↓reduceIte, ite_true, ite_false, Int.reduceEq, Int.reduceLT, Int.reduceLE, Int.reduceAdd, Int.reduceSub, Int.reduceMul, Int.reduceNeg, not_true_eq_false, not_false_eq_true, s1 f f0 f1, bI_t q1, q2, s3, s4 e f e0 e1 f0 f1, bI_t q4, bI_t q3]
        rw [bI_t ⟨⟨hb, q2⟩, q1, iff_of_true q4 q3⟩]
      · simp (disch := (first | omega | decide | assumption)) only [ltm_s, ok_n, rd_i, rd_j, fd_i, fd_j, wr_i, wr_j, fw_i, fw_j, ci_s, cj_s, cv_s, dv_n, dw_n, rt_1, rt_b, rt_20, rt_21, okb_0, okb_1, okb_b, nar_0, nar_1, nar_b, i_0, i_1, j_0, j_1, i_lit, j_lit, i_n, iI_add, iI_sub, iI_mul, iI_neg, jI_add, jI_sub, jI_mul, jI_neg, sh_1, an_1, xo_1, di_p, dj_p, i_64A, i_64, j_32, lq_ge, lq_lt, lq_le, lq_gt, lq_eq, i_lt, i_le, i_eq, j_eq, iI_A, jI_J, iI_b, iI_v, jI_v, ↓reduceIte, ite_true, ite_false, Int.reduceEq, Int.reduceLT, Int.reduceLE, Int.reduceAdd, Int.reduceSub, Int.reduceMul, Int.reduceNeg, not_true_eq_false, not_false_eq_true, s1 f f0 f1, bI_t q1, q2, s3, s4 e f e0 e1 f0 f1, bI_f q4, bI_t q3]
        rw [bI_f (fun x => q4 (x.2.2.mpr q3))]
  · simp (disch := (first | omega | decide | assumption)) only [ltm_s, ok_n, rd_i, rd_j, fd_i, fd_j, wr_i, wr_j, fw_i, fw_j, ci_s, cj_s, cv_s, dv_n, dw_n, rt_1, rt_b, rt_20, rt_21, okb_0, okb_1, okb_b, nar_0, nar_1, nar_b, i_0, i_1, j_0, j_1, i_lit, j_lit, i_n, iI_add, iI_sub, iI_mul, iI_neg, jI_add, jI_sub, jI_mul, jI_neg, sh_1, an_1, xo_1, di_p, dj_p, i_64A, i_64, j_32, lq_ge, lq_lt, lq_le, lq_gt, lq_eq, i_lt, i_le, i_eq, j_eq, iI_A, jI_J, iI_b, iI_v, jI_v, ↓reduceIte, ite_true, ite_false, Int.reduceEq, Int.reduceLT, Int.reduceLE, Int.reduceAdd, Int.reduceSub, Int.reduceMul, Int.reduceNeg, not_true_eq_false, not_false_eq_true, s1 f f0 f1, bI_f q1]
    rw [bI_f (fun x => q1 x.2.1)]
end Fi
