/-! THE MARK of an exam: each side by itself -/
section Mx
variable {M0 M N M' : am_M} {g : am_G} {F : am_FT}
theorem Ke.sub {S S' : List Nat} (h : Ke S M M') (hs : ∀ a, a ∈ S → a ∈ S') : Ke S' M M' := fun a ha => h a (fun q => ha (hs a q))
theorem rok_70 (hg : GG g) : rok g 70 := ⟨rt_70 hg, by decide, rfl, rfl⟩
/-- what the best by feet comes to -/
def Bst (M0 : am_M) (day hour a b Ls fs tw : Int) (C lg : Int → Int) : Prop := Cok M0 (-1, day, hour, toD M0) 1 a b C ∧ rsp M0 (-1, day, hour, toD M0) 1 a b C Ls lg ∧ (bvl M0 (-1, day, hour, toD M0) 1 a b C = FARC → tw = -1 ∧ fs = -1) ∧ (bvl M0 (-1, day, hour, toD M0) 1 a b C ≠ FARC → (0 ≤ tw ∧ tw ≤ 4000000) ∧ (0 ≤ fs ∧ fs ≤ 4000000) ∧ key 1 tw fs = bvl M0 (-1, day, hour, toD M0) 1 a b C)
theorem c_markExam (hF : F = am_F T0 g) (hg : GG g) (hA : Ag M0 M) (h1 : I1 M0) (h2 : I2 M0) (h3 : I3 M0) (h4 : I4 M0) (h6 : I6 M0) (h7 : I7 M0) (h8 : I8 M0) (h16 : I16 M0) (hm : Imk M) (hR : RuA M0 M) {k a b day hour L ft_ : Int} {leg : Int → Int} (k0 : 0 ≤ k) (k1 : k < 24) (a0 : 0 ≤ a) (a1 : a < nD M0) (b0 : 0 ≤ b) (b1 : b < nD M0) (d0 : 0 ≤ day) (d1 : day < 300) (u0 : 0 ≤ hour) (u1 : hour < 24) (L0 : 0 ≤ L ∧ L ≤ 80) (t0 : -1 ≤ ft_ ∧ ft_ ≤ 4000000)
    (x0 : A M (137 + 3 * k.toNat + 1) 0 = a) (x1 : A M (137 + 3 * k.toNat + 1) 1 = b) (x2 : A M (137 + 3 * k.toNat + 1) 2 = day) (x3 : A M (137 + 3 * k.toNat + 1) 3 = hour) (x5 : A M (137 + 3 * k.toNat + 1) 5 = L) (x7 : A M (137 + 3 * k.toNat + 1) 7 = ft_)
    (hleg : ∀ i : Int, 0 ≤ i → i < L → A M (137 + 3 * k.toNat + 1 + 1) i = leg i ∧ 0 ≤ leg i ∧ leg i < 2 * nW M0) (hfo : ∀ i : Int, 0 ≤ i → i + 1 < L → fol M0 (leg i) (leg (i + 1))) :
    ∃ (M' : am_M) (Ls fs tw : Int) (C lg : Int → Int), F 243 0 [.ref 0, .ref (137 + 3 * k.toNat)] [] M = some (none, M') ∧ Bst M0 day hour a b Ls fs tw C lg ∧ Ke [32, 33, 34, 35, 36, 37, 38, 39, 40, 41, 70, 71, 137 + 3 * k.toNat] M M' ∧ Imk M' ∧ A M' (137 + 3 * k.toNat) 0 = A M (137 + 3 * k.toNat) 0 ∧ A M' (137 + 3 * k.toNat) 1 = mkx M0 (Vf L (bI (¬ good M0 day hour (toD M0) L leg)) (ovr L ft_ Ls fs) ft_ day) ∧ A M' (137 + 3 * k.toNat) 2 = toD M0 := by
  have h81 := h8.1
  have hn := h2.1
  have hex := ex_n hg k.toNat (by omega)
  have h18 : A M 18 0 = toD M0 := by rw [agA hA (a := 18) rfl]; exact h8.2
  obtain ⟨N1, p1, k1', s1, -⟩ := c_setCity hF hg hA h2 h6 h7 hm d0 d1 u0 u1 (kn := toD M0) (by omega) (by omega)
  have n1 : ∀ c : Nat, 100 < c → ∀ z, A N1 c z = A M c z := fun c hc z => k1'.a (by simp only [List.mem_cons, List.not_mem_nil, or_false]; omega)
  have al := c_allows hF hg hex.2.1 h2 (L := L) (leg := leg) s1 L0 (by rw [n1 _ (by omega)]; exact x5) (fun i i0 i1 => by rw [n1 _ (by omega)]; exact hleg i i0 i1) hfo
  have rest : ∀ w : Int, (0 ≤ w ∧ w ≤ 1) → ∀ N2 : am_M, N2 = W_ N1 (137 + 3 * k.toNat) 3 w → ∃ (M' : am_M) (Ls fs tw : Int) (C lg : Int → Int), (am_ok 4 0 <| am_ci (F 217 0 [.ref 32, .ref 70, .int (fI N2 (137 + 3 * k.toNat + 1) 0), .int (fI N2 (137 + 3 * k.toNat + 1) 1), .int 1] [] N2) fun _ M5 => am_ok 4 0 <| am_cv (F 14 0 [.ref (137 + 3 * k.toNat), .ref 70] [] M5) fun M7 => F 243 86 [.ref 0, .ref (137 + 3 * k.toNat), .int 100, .int 0] [] M7) = some (none, M') ∧ Bst M0 day hour a b Ls fs tw C lg ∧ Ke [32, 33, 34, 35, 36, 37, 38, 39, 40, 41, 70, 71, 137 + 3 * k.toNat] M M' ∧ Imk M' ∧ A M' (137 + 3 * k.toNat) 0 = A M (137 + 3 * k.toNat) 0 ∧ A M' (137 + 3 * k.toNat) 1 = mkx M0 (Vf L w (ovr L ft_ Ls fs) ft_ day) ∧ A M' (137 + 3 * k.toNat) 2 = toD M0 := by
    intro w hw N2 e2
    have K2 : Ke [137 + 3 * k.toNat] N1 N2 := by rw [e2]; exact Ke.refl.w (List.mem_singleton.mpr rfl)
    have n2 : ∀ c : Nat, ¬ c = 137 + 3 * k.toNat → ∀ z, A N2 c z = A N1 c z := fun c hc z => K2.a (by rw [List.mem_singleton]; exact hc)
    have A2 : Ag M0 N2 := (hA.trans (k1'.ag (by decide))).trans (K2.ag (by
      simp only [List.all_cons, List.all_nil, Bool.and_true]
      have : ∀ j : Nat, j < 24 → stN (137 + 3 * j) = true := by decide
      exact this k.toNat (by omega)))
    have s2 : fset M0 (-1, day, hour, toD M0) N2 := fset_r s1 (fun c c0 c1 z => n2 c (by omega) z)
    obtain ⟨N3, Ls, C, q1, f1, f2, f3, f4, f5, f6, f7, f8, f9, f10⟩ := c_findBest hF hg (rok_70 hg) A2 h1 h2 h3 h4 (md := (-1, day, hour, toD M0)) (by_ := 1) (Or.inr rfl) u0 u1 a0 a1 b0 b1 s2
    have n3 : ∀ c : Nat, 100 < c → ∀ z, A N3 c z = A N2 c z := fun c hc z => f1.a (by simp only [List.mem_cons, List.not_mem_nil, or_false]; omega)
    have A3 : Ag M0 N3 := A2.trans (f1.ag (by decide))
    have hfs : -1 ≤ A N3 70 7 ∧ A N3 70 7 ≤ 4000000 := by
      by_cases q : bvl M0 (-1, day, hour, toD M0) 1 a b C = FARC
      · rw [(f6 q).2]; omega
      · have := (f7 q).2.1; omega
    have y5 : A N3 (137 + 3 * k.toNat + 1) 5 = L := by rw [n3 _ (by omega), n2 _ (by omega), n1 _ (by omega)]; exact x5
    have y7 : A N3 (137 + 3 * k.toNat + 1) 7 = ft_ := by rw [n3 _ (by omega), n2 _ (by omega), n1 _ (by omega)]; exact x7
    obtain ⟨N4, z1, z2, z3, z4⟩ := c_compare hF hg hex.1 (L := L) (ft_ := ft_) (Ls := Ls) (fs := A N3 70 7) y5 y7 f4 rfl (by omega) t0 hfs
    have n4 : ∀ c : Nat, ¬ c = 137 + 3 * k.toNat → ∀ z, A N4 c z = A N3 c z := fun c hc z => z4.a (by rw [List.mem_singleton]; exact hc)
    have v3 : A N4 (137 + 3 * k.toNat) 3 = w := by rw [z3 3 (by omega) (by omega), n3 _ (by omega), e2, A_Ws (by omega) (by omega)]
    have w5 : A N4 (137 + 3 * k.toNat + 1) 5 = L := by rw [n4 _ (by omega)]; exact y5
    have w7 : A N4 (137 + 3 * k.toNat + 1) 7 = ft_ := by rw [n4 _ (by omega)]; exact y7
    have w2 : A N4 (137 + 3 * k.toNat + 1) 2 = day := by rw [n4 _ (by omega), n3 _ (by omega), n2 _ (by omega), n1 _ (by omega)]; exact x2
    have hor := ovr_r (L := L) (Ls := Ls) (fs := A N3 70 7) t0.2
    have g18 : A N4 18 0 = toD M0 := by rw [n4 _ (by omega), agA A3 (a := 18) rfl]; exact h8.2
    have hR4 : RuA M0 N4 := by
      refine ⟨?_, fun c c0 c1 z => ?_⟩
      · rw [n4 _ (by omega), agA A3 (a := 0) rfl]
      · rw [n4 _ (by omega), n3 _ (by omega), n2 _ (by omega), n1 _ (by omega)]
        exact hR.2 c c0 c1 z
    have rl := c_rules_l hF hg hex.1 h16 hR4 (V := Vf L w (ovr L ft_ Ls (A N3 70 7)) ft_ day) (day := toD M0) g18 (fun f f0 f5 => c_valueOf hF hg hex.1 w5 v3 z2 w7 w2 L0 t0 f0 f5) (Vf_r L0 hw hor t0 ⟨d0, d1⟩) (by omega) (A M0 219 45).toNat 0 (by have := h16.1; omega)
    have et : tot M0 (Vf L w (ovr L ft_ Ls (A N3 70 7)) ft_ day) 0 = 0 := rfl
    rw [et] at rl
    have tr := tot_r h16 (V := Vf L w (ovr L ft_ Ls (A N3 70 7)) ft_ day) (A M0 219 45).toNat (by have := h16.1; omega)
    have mb : 0 ≤ mkx M0 (Vf L w (ovr L ft_ Ls (A N3 70 7)) ft_ day) ∧ mkx M0 (Vf L w (ovr L ft_ Ls (A N3 70 7)) ft_ day) ≤ 100 := by
      unfold mkx
      split <;> omega
    have o0 : A N2 (137 + 3 * k.toNat + 1) 0 = a := by rw [n2 _ (by omega), n1 _ (by omega)]; exact x0
    have o1 : A N2 (137 + 3 * k.toNat + 1) 1 = b := by rw [n2 _ (by omega), n1 _ (by omega)]; exact x1
    have hd8 := h4.1
    have kk : Ke [32, 33, 34, 35, 36, 37, 38, 39, 40, 41, 70, 71, 137 + 3 * k.toNat] M N4 := (((k1'.sub (fun c hc => by simp only [List.mem_cons, List.not_mem_nil, or_false] at hc ⊢; omega)).trans (K2.sub (fun c hc => by simp only [List.mem_cons, List.not_mem_nil, or_false] at hc ⊢; omega))).trans (f1.sub (fun c hc => by simp only [List.mem_cons, List.not_mem_nil, or_false] at hc ⊢; omega))).trans (z4.sub (fun c hc => by simp only [List.mem_cons, List.not_mem_nil, or_false] at hc ⊢; omega))
    have ke : Ke [137 + 3 * k.toNat] N4 (W_ (W_ N4 (137 + 3 * k.toNat) 1 (mkx M0 (Vf L w (ovr L ft_ Ls (A N3 70 7)) ft_ day))) (137 + 3 * k.toNat) 2 (toD M0)) := (Ke.refl.w (List.mem_singleton.mpr rfl)).w (List.mem_singleton.mpr rfl)
    refine ⟨W_ (W_ N4 (137 + 3 * k.toNat) 1 (mkx M0 (Vf L w (ovr L ft_ Ls (A N3 70 7)) ft_ day))) (137 + 3 * k.toNat) 2 (toD M0), Ls, A N3 70 7, A N3 70 6, C, fun j => A N3 71 j, ?_, ⟨f3, f5, f6, f7⟩, kk.trans (ke.sub (fun c hc => by simp only [List.mem_cons, List.not_mem_nil, or_false] at hc ⊢; omega)), ?_, ?_, ?_, ?_⟩
    · simp (config := { maxSteps := 1000000 }) (disch := (first | omega | decide | assumption)) only [ltm_s, ok_n, rd_i, rd_j, fd_i, fd_j, wr_i, wr_j, fw_i, fw_j, ci_s, cj_s, cv_s, dv_n, dw_n, rt_1, rt_b, rt_20, rt_21, okb_0, okb_1, okb_b, nar_0, nar_1, nar_b, i_0, i_1, j_0, j_1, i_lit, j_lit, i_n, iI_add, iI_sub, iI_mul, iI_neg, jI_add, jI_sub, jI_mul, jI_neg, sh_1, an_1, xo_1, di_p, dj_p, i_64A, i_64, j_32, lq_ge, lq_lt, lq_le, lq_gt, lq_eq, i_lt, i_le, i_eq, j_eq, iI_A, jI_J, iI_b, iI_v, jI_v, ↓reduceIte, ite_true, ite_false, Int.reduceEq, Int.reduceLT, Int.reduceLE, Int.reduceAdd, Int.reduceSub, Int.reduceMul, Int.reduceNeg, not_true_eq_false, not_false_eq_true, o0, o1, q1, z1]
      exact rl
    · have i3 : Imk N3 := f2.1
      exact (i3.ke z4 (by rw [List.mem_singleton]; omega) (by rw [List.mem_singleton]; omega) (by rw [List.mem_singleton]; omega)).ke ke (by rw [List.mem_singleton]; omega) (by rw [List.mem_singleton]; omega) (by rw [List.mem_singleton]; omega)
    · rw [A_Wo (by omega) (by omega) (by omega), A_Wo (by omega) (by omega) (by omega), z3 0 (by omega) (by omega), n3 _ (by omega), e2, A_Wo (by omega) (by omega) (by omega), n1 _ (by omega)]
    · rw [A_Wo (by omega) (by omega) (by omega), A_Ws (by omega) (by omega)]
    · rw [A_Ws (by omega) (by omega)]
  have pr : F 218 0 [.ref 32, .int (fI M (137 + 3 * k.toNat + 1) 2), .int (fI M (137 + 3 * k.toNat + 1) 3), .int (fI M 18 0)] [] M = some (none, N1) := by
    rw [fd_i, fd_i, fd_i, x2, x3, h18]; exact p1
  by_cases q : good M0 day hour (toD M0) L leg
  · have al' := al
    rw [bI_t q] at al'
    obtain ⟨M', Ls, fs, tw, C, lg, r1, r2⟩ := rest 0 (by omega) (W_ N1 (137 + 3 * k.toNat) 3 0) rfl
    refine ⟨M', Ls, fs, tw, C, lg, ?_, ?_⟩
    · refine s_RunSayer_markExam hF hg hex.1 ?_
      refine cv_in pr ?_
      refine ci_in al' ?_
      rw [if_neg (show ¬ iI 1 = 0 by decide)]
      exact r1
    · have ew : bI (¬ good M0 day hour (toD M0) L leg) = 0 := bI_f (fun h => h q)
      rw [ew]
      exact r2
  · have al' := al
    rw [bI_f q] at al'
    obtain ⟨M', Ls, fs, tw, C, lg, r1, r2⟩ := rest 1 (by omega) (W_ N1 (137 + 3 * k.toNat) 3 1) rfl
    refine ⟨M', Ls, fs, tw, C, lg, ?_, ?_⟩
    · refine s_RunSayer_markExam hF hg hex.1 ?_
      refine cv_in pr ?_
      refine ci_in al' ?_
      rw [if_pos (show iI 0 = 0 from rfl)]
      exact r1
    · have ew : bI (¬ good M0 day hour (toD M0) L leg) = 1 := bI_t q
      rw [ew]
      exact r2
end Mx
