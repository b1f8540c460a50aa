/-! A TEST, read: what comes of it, by both -/
/-- a comparison from q on: whether it is one, its sign, its number, how far -/
def Cmp (x : Int → Int) (q b s v p' : Int) : Prop := (x q = 61 ∨ x q = 60 ∨ x q = 62) ∧ s = (if x q = 61 then 0 else if x q = 60 then 1 else 2) ∧ p' = nmp x 4 (q + 1) ∧ ((48 ≤ x (q + 1) ∧ x (q + 1) ≤ 57) ∧ b = 1 ∧ v = nmv x 4 (q + 1) 0 ∨ ¬ (48 ≤ x (q + 1) ∧ x (q + 1) ≤ 57) ∧ b = 0) ∨ ¬ (x q = 61 ∨ x q = 60 ∨ x q = 62) ∧ b = 0 ∧ p' = q
/-- a test from p on -/
def Tst (x : Int → Int) (p b f s v p' : Int) : Prop := f = fld (x p) ∧ (mtk x (tx (2 + f.toNat)) p = 1 ∧ Cmp x (mtp x (tx (2 + f.toNat)) p) b s v p' ∨ mtk x (tx (2 + f.toNat)) p = 0 ∧ b = 0 ∧ p' = mtp x (tx (2 + f.toNat)) p)
theorem Cmp.u {x : Int → Int} {q b s v p' b2 s2 v2 p2 : Int} (h : Cmp x q b s v p') (h2 : Cmp x q b2 s2 v2 p2) : b = b2 ∧ p' = p2 ∧ (b = 1 → s = s2 ∧ v = v2) := by
  unfold Cmp at h h2
  rcases h with ⟨a1, a2, a3, a4⟩ | ⟨a1, a2, a3⟩
  · rcases h2 with ⟨c1, c2, c3, c4⟩ | ⟨c1, c2, c3⟩
    · rcases a4 with ⟨d1, d2, d3⟩ | ⟨d1, d2⟩
      · rcases c4 with ⟨e1, e2, e3⟩ | ⟨e1, e2⟩
        · exact ⟨d2.trans e2.symm, a3.trans c3.symm, fun _ => ⟨a2.trans c2.symm, d3.trans e3.symm⟩⟩
        · exact absurd d1 e1
      · rcases c4 with ⟨e1, e2, e3⟩ | ⟨e1, e2⟩
        · exact absurd e1 d1
        · exact ⟨d2.trans e2.symm, a3.trans c3.symm, fun h => by omega⟩
    · exact absurd a1 c1
  · rcases h2 with ⟨c1, c2, c3, c4⟩ | ⟨c1, c2, c3⟩
    · exact absurd c1 a1
    · exact ⟨a2.trans c2.symm, a3.trans c3.symm, fun h => by omega⟩
theorem Cmp.ex (x : Int → Int) (q : Int) : ∃ b s v p' : Int, Cmp x q b s v p' := by
  by_cases a : x q = 61 ∨ x q = 60 ∨ x q = 62
  · by_cases d : 48 ≤ x (q + 1) ∧ x (q + 1) ≤ 57
    · exact ⟨1, _, _, _, Or.inl ⟨a, rfl, rfl, Or.inl ⟨d, rfl, rfl⟩⟩⟩
    · exact ⟨0, _, 0, _, Or.inl ⟨a, rfl, rfl, Or.inr ⟨d, rfl⟩⟩⟩
  · exact ⟨0, 0, 0, _, Or.inr ⟨a, rfl, rfl⟩⟩
theorem Tst.ex {x : Int → Int} {n : Int} (ht : Tp x n) {p : Int} (p0 : 0 ≤ p) (p1 : p ≤ n) : ∃ b f s v p' : Int, Tst x p b f s v p' := by
  have hf := fld_r (x p)
  have m := (mt_r ht (cs := tx (2 + (fld (x p)).toNat)) (p := p) (tx_n _ (by omega)) p0 p1).2.1
  rcases m with m | m
  · exact ⟨0, _, 0, 0, _, rfl, Or.inr ⟨m, rfl, rfl⟩⟩
  · obtain ⟨b, s, v, p', c⟩ := Cmp.ex x (mtp x (tx (2 + (fld (x p)).toNat)) p)
    exact ⟨b, _, s, v, p', rfl, Or.inl ⟨m, c⟩⟩
theorem Tst.r {x : Int → Int} {n : Int} (ht : Tp x n) {p b f s v p' : Int} (p0 : 0 ≤ p) (p1 : p ≤ n) (T : Tst x p b f s v p') : (b = 0 ∨ b = 1) ∧ (0 ≤ f ∧ f ≤ 5) ∧ (0 ≤ p' ∧ p' ≤ n) ∧ (b = 1 → (0 ≤ s ∧ s ≤ 2) ∧ 0 ≤ v ∧ v ≤ 9999) := by
  obtain ⟨rfl, T⟩ := T
  have hf := fld_r (x p)
  have m := mt_r ht (cs := tx (2 + (fld (x p)).toNat)) (p := p) (tx_n _ (by omega)) p0 p1
  generalize mtp x (tx (2 + (fld (x p)).toNat)) p = q at *
  have nv := nmv_r (x := x) (p := q + 1)
  rcases T with ⟨-, C⟩ | ⟨-, b0, e⟩
  · rcases C with ⟨a1, a2, a3, a4⟩ | ⟨a1, a2, a3⟩
    · have hq : q < n := by
        by_cases y : q < n
        · exact y
        · have := ht.2.2 q (Or.inr (by omega)); omega
      have nr := nmp_r ht (r := 4) (p := q + 1) (by omega) (by omega)
      refine ⟨by omega, hf, by omega, fun hb => ⟨?_, by omega⟩⟩
      rw [a2]
      (repeat' split) <;> omega
    · exact ⟨by omega, hf, by omega, fun hb => by omega⟩
  · exact ⟨by omega, hf, by omega, fun hb => by omega⟩
section Tt
variable {M N : am_M} {g : am_G} {F : am_FT} {x : Int → Int} {n : Int}
theorem c_test_l (hF : F = am_F T0 g) (hg : GG g) (ht : Tp x n) {a : Nat} {p i : Int} (p0 : 0 ≤ p) (p1 : p ≤ n) {f0 : Nat} (e0 : (f0 : Int) = fld (x p)) : ∀ (m f : Nat) (N : am_M), f + m = f0 → Ct x n N → A N 61 2 = p → ∃ N' : am_M, (∀ R : am_R, F 269 8 [.ref a, .ref 61, .int (iI i), .int (iI p), .int (iI (f0 : Int))] [] N' = some R → F 269 8 [.ref a, .ref 61, .int (iI i), .int (iI p), .int (iI (f : Int))] [] N = some R) ∧ Ch [] [(61, 2)] N N' ∧ A N' 61 2 = p := by
  have g61 := gk_61 hg
  have hf := fld_r (x p)
  have hn := ht.1
  intro m
  induction m with
  | zero =>
    intro f N hm hc hp
    have e : f0 = f := by omega
    subst e
    exact ⟨N, fun R hR => hR, Ch.refl, hp⟩
  | succ m ih =>
    intro f N hm hc hp
    have hne := fld_n (c := x p) (f := f) (by omega)
    obtain ⟨cs, ecs⟩ := fl1_h f (by omega)
    obtain ⟨N1, q1, q2, q3⟩ := c_text hF hg ht (k := 2 + f) (by omega) hc hp p0 p1
    rw [ecs, mtk_n hne] at q1
    rw [ecs, mtp_n hne] at q3
    obtain ⟨N', w1, w2, w3⟩ := ih (f + 1) N1 (by omega) (hc.ch (q2.mono rfl)) q3
    refine ⟨N', fun R hR => ?_, q2.trans w2, w3⟩
    have w := w1 R hR
    refine e_Rule_readTest_8 hF ?_
    have er : rI N 61 2 = iI p := by rw [← hp]; exact (iI_of _).symm
    rw [if_neg (by
      rw [i_le, iI_v (by omega) (by omega)]
      have : (6 : Int32).toInt = 6 := rfl
      omega), cl_gI g61, er, if_pos rfl, cr_s (c_fieldName hF (f := f) (by omega)), cl_rc g61]
    refine ci_in q1 ?_
    rw [if_pos (by rfl), i_1, iI_add]
    exact w
theorem c_test (hF : F = am_F T0 g) (hg : GG g) (ht : Tp x n) {a : Nat} (ha : isRu g a) (a0 : 112 ≤ a) (a1 : a + 3 < 137) (hc : Ct x n N) {p i : Int} (hp : A N 61 2 = p) (p0 : 0 ≤ p) (p1 : p ≤ n) (i0 : 0 ≤ i) (i3 : i < 3) {b f s v p' : Int} (T : Tst x p b f s v p') :
    ∃ N' : am_M, F 269 0 [.ref a, .ref 61, .int (iI i)] [] N = some (some (.int (iI b)), N') ∧ Ch [a + 1, a + 2, a + 3] [(61, 2)] N N' ∧ A N' 61 2 = p' ∧ (∀ j : Int, 0 ≤ j → ¬ j = i → A N' (a + 1) j = A N (a + 1) j ∧ A N' (a + 2) j = A N (a + 2) j ∧ A N' (a + 3) j = A N (a + 3) j) ∧ (b = 1 → A N' (a + 1) i = f ∧ A N' (a + 2) i = sgs s ∧ A N' (a + 3) i = v) := by
  have g61 := gk_61 hg
  have hn := ht.1
  have tr := T.r ht p0 p1
  have hT := T
  obtain ⟨ef, T⟩ := T
  have hf := fld_r (x p)
  have e0 : ((f.toNat : Nat) : Int) = fld (x p) := by omega
  have ef2 : ((f.toNat : Nat) : Int) = f := by omega
  obtain ⟨N1, l1, l2, l3⟩ := c_test_l hF hg ht (a := a) (i := i) p0 p1 e0 f.toNat 0 N (by omega) hc hp
  have c1 : Ct x n N1 := hc.ch (l2.mono rfl)
  obtain ⟨N2, q1, q2, q3⟩ := c_text hF hg ht (k := 2 + f.toNat) (by omega) c1 l3 p0 p1
  have c2 : Ct x n N2 := c1.ch (q2.mono rfl)
  have m := mt_r ht (cs := tx (2 + f.toNat)) (p := p) (tx_n _ (by omega)) p0 p1
  have cN2 : Ch [] [(61, 2)] N N2 := l2.trans q2
  have rx : ∀ (z : Nat) (j : Int), z ≠ 61 → A N2 z j = A N z j := fun z j hz => congrArg Int32.toInt (cN2 z j.toNat (by simp only [List.not_mem_nil, not_false_eq_true]) (by simp only [List.mem_singleton, Prod.mk.injEq]; exact fun h => hz h.1)).1
  have er : rI N1 61 2 = iI p := by rw [← l3]; exact (iI_of _).symm
  have n6 : ¬ (6 : Int32) ≤ iI ((f.toNat : Nat) : Int) := by
    rw [i_le, iI_v (by omega) (by omega)]
    have : (6 : Int32).toInt = 6 := rfl
    omega
  have st : ∀ R : am_R, F 269 8 [.ref a, .ref 61, .int (iI i), .int (iI p), .int (iI ((f.toNat : Nat) : Int))] [] N1 = some R → F 269 0 [.ref a, .ref 61, .int (iI i)] [] N = some R := fun R hR => by
    refine e_Rule_readTest hF ?_
    have er0 : rI N 61 2 = iI p := by rw [← hp]; exact (iI_of _).symm
    rw [cl_gI g61, er0]
    exact l1 R hR
  have hoob : ¬ am_oob (iI i) 3 := by
    unfold am_oob
    rw [iI_n (by omega) (by omega)]
    intro h
    rcases h with h | h
    · rw [i_lt, iI_v (by omega) (by omega)] at h
      have : (0 : Int32).toInt = 0 := rfl
      omega
    · omega
  rcases T with ⟨T1, T2⟩ | ⟨T1, T2, T3⟩
  · rw [T1] at q1
    obtain ⟨Y, eY⟩ : ∃ Y : am_M, Y = W_ N2 (a + 1) i f := ⟨_, rfl⟩
    have cY : Ct x n Y := by
      rw [eY]
      exact ⟨by rw [A_Wn (by omega)]; exact c2.1, fun q q0 q1 => by rw [A_Wn (by omega)]; exact c2.2 q q0 q1⟩
    have pY : A Y 61 2 = mtp x (tx (2 + f.toNat)) p := by
      rw [eY, A_Wn (by omega)]; exact q3
    obtain ⟨b2, s2, v2, p2, N', w1, w2, w3, w4, w5, w6⟩ := c_cmp hF hg ht ha a0 a1 cY pY m.1.1 m.1.2 i0 i3
    have C2 : Cmp x (mtp x (tx (2 + f.toNat)) p) b2 s2 v2 p2 := by
      unfold Cmp
      rcases w6 with ⟨x1, x2, x3, x4⟩ | x1
      · refine Or.inl ⟨x1, x2, x3, ?_⟩
        rcases x4 with ⟨y1, y2, y3, -⟩ | y1
        · exact Or.inl ⟨y1, y2, y3⟩
        · exact Or.inr y1
      · exact Or.inr x1
    obtain ⟨u1, u2, u3⟩ := Cmp.u T2 C2
    have rY : ∀ (z : Nat) (j : Int), z ≠ 61 → z ≠ a + 2 → z ≠ a + 3 → A N' z j = A Y z j := fun z j h1 h2 h3 => congrArg Int32.toInt (w2 z j.toNat (by simp only [List.mem_cons, List.not_mem_nil, or_false]; omega) (by simp only [List.mem_singleton, Prod.mk.injEq]; exact fun h => h1 h.1)).1
    refine ⟨N', st _ ?_, ?_, by rw [w3, u2], fun j j0 j1 => ⟨?_, ?_, ?_⟩, fun hb => ⟨?_, ?_, ?_⟩⟩
    · refine e_Rule_readTest_8 hF ?_
      rw [if_neg n6, cl_gI g61, er, if_pos rfl, cr_s (c_fieldName hF (f := f.toNat) (by omega)), cl_rc g61]
      refine ci_in q1 ?_
      rw [if_neg (by decide), cl_gR ha.1 ha.2.1, cl_is ha.2.2.1 hoob, ef2, wr_i (by omega) (by omega), ← eY, cl_rc ha.1]
      refine ci_in w1 ?_
      rw [← u1]
      rcases tr.1 with hb | hb <;> rw [hb] <;> rfl
    · have cYN : Ch [a + 1, a + 2, a + 3] [(61, 2)] N2 Y := by
        rw [eY]; exact Ch.refl.wm (Or.inl (by simp only [List.mem_cons, true_or]))
      exact ((cN2.sub (fun b hb => by cases hb)).trans cYN).trans (w2.sub (fun b hb => List.mem_cons_of_mem _ hb))
    · rw [rY _ _ (by omega) (by omega) (by omega), eY, A_Wo i0 j0 j1, rx _ _ (by omega)]
    · rw [(w4 j j0 j1).1, eY, A_Wn (by omega), rx _ _ (by omega)]
    · rw [(w4 j j0 j1).2, eY, A_Wn (by omega), rx _ _ (by omega)]
    · rw [rY _ _ (by omega) (by omega) (by omega), eY, A_Ws (by omega) (by omega)]
    · rcases w6 with ⟨x1, x2, x3, x4⟩ | x1
      · rcases x4 with ⟨y1, y2, y3, y4, y5⟩ | y1
        · rw [y4, (u3 hb).1]
        · omega
      · omega
    · rcases w6 with ⟨x1, x2, x3, x4⟩ | x1
      · rcases x4 with ⟨y1, y2, y3, y4, y5⟩ | y1
        · rw [y5, (u3 hb).2]
        · omega
      · omega
  · rw [T1] at q1
    rw [← T3] at q3
    refine ⟨N2, st _ ?_, cN2.sub (fun b hb => by cases hb), q3, fun j j0 j1 => ⟨rx _ _ (by omega), rx _ _ (by omega), rx _ _ (by omega)⟩, fun hb => by omega⟩
    refine e_Rule_readTest_8 hF ?_
    rw [if_neg n6, cl_gI g61, er, if_pos rfl, cr_s (c_fieldName hF (f := f.toNat) (by omega)), cl_rc g61]
    refine ci_in q1 ?_
    rw [if_pos (by rfl), i_1, iI_add, T2]
    by_cases y : p' = p
    · have h5 : f = 5 := by
        by_cases h5 : f = 5
        · exact h5
        · exfalso
          have he := fld_e (c := x p) (f := f.toNat) e0 (by omega)
          obtain ⟨cs, ecs⟩ := fl1_h f.toNat (by omega)
          rw [ecs, mtp_y he] at T3
          have hx := ht.r p
          have hlt : p < n := by
            by_cases z : p < n
            · exact z
            · have h1 := ht.2.2 p (Or.inr (by omega))
              have h2 := tx_n (2 + f.toNat) (by omega) (fl1 f.toNat) (by rw [ecs]; exact List.mem_cons_self ..)
              omega
          have mm := mt_r ht (cs := cs) (p := p + 1) (fun c hc => tx_n (2 + f.toNat) (by omega) c (by rw [ecs]; exact List.mem_cons_of_mem _ hc)) (by omega) (by omega)
          omega
      have e6 : ((f.toNat : Nat) : Int) + 1 = 6 := by omega
      rw [e6]
      refine e_Rule_readTest_8 hF ?_
      rw [if_pos (by decide)]
      rfl
    · have sk := c_skip hF hg (N := N2) (a := a) (i := i) (st := p) q3 y (by omega) (by omega) (6 - (f.toNat + 1)) (f.toNat + 1) (by omega)
      exact sk
end Tt
