/-! WHAT HOLDS OF A SAID RUN once it is kept -/
section Si
variable {M Y N N' : am_M} {rt w : Nat}
theorem Lks_c {R m : Int} {lg : Int → Int} (h : Lks N N' R w lg m) (a1 : A N 42 2 = A M 42 2) (a2 : ∀ z : Int, A N 45 z = A M 45 z) (a3 : ∀ z : Int, A N 57 z = A M 57 z) (b1 : A Y 42 2 = A N' 42 2) (b2 : ∀ (b : Nat) (z : Int), b = 43 ∨ b = 44 ∨ b = 45 ∨ b = 57 ∨ b = w → A Y b z = A N' b z) : Lks M Y R w lg m := by
  have c43 : ∀ z : Int, A Y 43 z = A N' 43 z := fun z => b2 43 z (by omega)
  have c44 : ∀ z : Int, A Y 44 z = A N' 44 z := fun z => b2 44 z (by omega)
  have c45 : ∀ z : Int, A Y 45 z = A N' 45 z := fun z => b2 45 z (by omega)
  have c57 : ∀ z : Int, A Y 57 z = A N' 57 z := fun z => b2 57 z (by omega)
  have cw : ∀ z : Int, A Y w z = A N' w z := fun z => b2 w z (by omega)
  unfold Lks L14 at h ⊢
  simp only [c43, c44, c45, c57, cw, b1, ← a1, ← a2, ← a3]
  exact h
theorem say_inv (h2 : I2 M) (h13 : I13 M) (h14 : I14 M) (h15 : I15 M) {R m : Int} {lg : Int → Int} {W : List Nat} {Q : List (Nat × Nat)} (hR : A M 219 37 = R) (R1 : R < 10) (hrt : rt = 91 + 2 * R.toNat) (hw : w = 47 + 1 * R.toNat) (m0 : 0 ≤ m) (m1 : m ≤ 20) (hl : ∀ j : Int, 0 ≤ j → j ≤ m → 0 ≤ lg j ∧ lg j < 2 * nW M) (c : Ch W Q M Y) (wW : ∀ b : Nat, b ∈ W → b = rt ∨ b = rt + 1 ∨ b = w ∨ b < 47 ∨ b = 57 ∨ b = 64 ∨ b = 65 ∨ b = 247 ∨ b = 248 ∨ b = 249 ∨ 262 ≤ b) (wQ : ∀ q : Nat × Nat, q ∈ Q → q.1 < 47 ∨ q.1 = 61 ∨ q.1 = 63 ∨ q.1 = 219) (nW_ : nW Y = nW M) (f41 : A Y 219 41 = A M 219 41) (f11 : A Y 0 11 = A M 0 11)
    (y37 : A Y 219 37 = R + 1) (y9 : A Y 0 9 = R + 1) (y5 : A Y rt 5 = m + 1) (yl : ∀ j : Int, 0 ≤ j → j ≤ m → A Y (rt + 1) j = lg j) (y0 : A Y rt 0 = A Y 249 (6 * R)) (y1 : A Y rt 1 = A Y 249 (6 * R + 1)) (y2 : A Y rt 2 = A Y 249 (6 * R + 2)) (y3 : A Y rt 3 = A Y 249 (6 * R + 3)) (y7 : A Y rt 7 = A Y 249 (6 * R + 4)) (y6 : A Y rt 6 = A Y 249 (6 * R + 5)) (y247 : A Y 247 R = m + 1) (y248 : ∀ j : Int, 0 ≤ j → j ≤ m → A Y 248 (21 * R + j) = lg j) (o247 : ∀ z : Int, 0 ≤ z → ¬ z = R → A Y 247 z = A M 247 z) (o248 : ∀ z : Int, 0 ≤ z → z < 21 * R → A Y 248 z = A M 248 z) (o249 : ∀ z : Int, 0 ≤ z → z < 6 * R → A Y 249 z = A M 249 z) (hk : Lks M Y R w lg m) : I13 Y ∧ I14 Y ∧ I15 Y := by
  have hn := h2.1
  obtain ⟨⟨s0, s1⟩, s2, s3⟩ := h13
  rw [hR] at s0 s1 s2 s3
  obtain ⟨k1, k2, k3, k4⟩ := h14
  rw [hR] at k1 k2 k4
  obtain ⟨l1, l2, l3, l4⟩ := h15
  obtain ⟨⟨x1, x2⟩, x3, x4, ⟨x5, x6⟩, x7, x8, x9, x10⟩ := hk
  have rd : ∀ (b : Nat) (z : Int), 47 ≤ b → b < 219 → b ≠ rt → b ≠ rt + 1 → b ≠ w → b ≠ 57 → b ≠ 61 → b ≠ 63 → b ≠ 64 → b ≠ 65 → A Y b z = A M b z := fun b z b0 b1 b2 b3 b4 b5 b6 b7 b8 b9 => by
    refine congrArg Int32.toInt (c b z.toNat (fun h => ?_) (fun h => ?_)).1
    · have := wW b h; omega
    · have := wQ _ h; simp only at this; omega
  have rd2 : ∀ (b : Nat) (z : Int), 250 ≤ b → b < 262 → A Y b z = A M b z := fun b z b0 b1 => by
    refine congrArg Int32.toInt (c b z.toNat (fun h => ?_) (fun h => ?_)).1
    · have := wW b h; omega
    · have := wQ _ h; simp only at this; omega
  -- a link of an older run
  have lko : ∀ r i : Int, 0 ≤ r → r < R → 0 ≤ i → i < A M 247 r - 1 → lkn Y r i = lkn M r i ∧ (0 ≤ lkn M r i ∧ lkn M r i < 6400) := fun r i r0 r1 i0 i1 => by
    obtain ⟨p1, p2, p3, -⟩ := s3 r r0 r1
    have a := (p3 i i0 (by omega)).1
    have b := (p3 (i + 1) (by omega) (by omega)).1
    have e1 := o248 (21 * r + i) (by omega) (by omega)
    have e2 := o248 (21 * r + i + 1) (by omega) (by omega)
    have e3 : 21 * r + (i + 1) = 21 * r + i + 1 := by omega
    rw [e3] at b
    unfold lkn
    rw [e1, e2]
    exact ⟨rfl, by omega⟩
  have lkR : ∀ i : Int, 0 ≤ i → i < m → lkn Y R i = 80 * lg i + lg (i + 1) := fun i i0 i1 => by
    have e3 : 21 * R + i + 1 = 21 * R + (i + 1) := by omega
    unfold lkn
    rw [e3, y248 i i0 (by omega), y248 (i + 1) (by omega) (by omega)]
  refine ⟨⟨by rw [y37]; omega, by rw [y37, y9], fun r r0 r1 => ?_⟩, ⟨by rw [y37]; omega, by rw [y37]; omega, x3, fun r r0 r1 => ?_⟩, ⟨by rw [f41]; exact l1, by rw [f41, f11]; exact l2, fun p p0 p1 => ?_, fun p p0 p1 => ?_⟩⟩
  · rw [y37] at r1
    by_cases e : r = R
    · subst e
      unfold B13
      rw [← hrt, y247, nW_]
      refine ⟨by omega, y5, fun i i0 i1 => ?_, y0, y1, y2, y3, y7, y6⟩
      rw [y248 i i0 (by omega), yl i i0 (by omega)]
      exact ⟨hl i i0 (by omega), rfl⟩
    · obtain ⟨p1, p2, p3, p4, p5, p6, p7, p8, p9⟩ := s3 r r0 (by omega)
      have e0 : ∀ z : Int, A Y (91 + 2 * r.toNat) z = A M (91 + 2 * r.toNat) z := fun z => rd _ z (by omega) (by omega) (by omega) (by omega) (by omega) (by omega) (by omega) (by omega) (by omega) (by omega)
      have e1 : ∀ z : Int, A Y (91 + 2 * r.toNat + 1) z = A M (91 + 2 * r.toNat + 1) z := fun z => rd _ z (by omega) (by omega) (by omega) (by omega) (by omega) (by omega) (by omega) (by omega) (by omega) (by omega)
      have e2 := o247 r r0 e
      unfold B13
      rw [e2, nW_, e0, e0, e0, e0, e0, e0, e0, o249 (6 * r) (by omega) (by omega), o249 (6 * r + 1) (by omega) (by omega), o249 (6 * r + 2) (by omega) (by omega), o249 (6 * r + 3) (by omega) (by omega), o249 (6 * r + 4) (by omega) (by omega), o249 (6 * r + 5) (by omega) (by omega)]
      refine ⟨p1, p2, fun i i0 i1 => ?_, p4, p5, p6, p7, p8, p9⟩
      rw [o248 (21 * r + i) (by omega) (by omega), e1]
      exact p3 i i0 i1
  · rw [y37] at r1
    by_cases e : r = R
    · subst e
      unfold B14
      rw [← hw, y247]
      have em : m + 1 - 1 = m := by omega
      rw [em]
      refine ⟨by omega, fun j j0 j1 => ?_, x8, fun i i0 i1 => ?_⟩
      · obtain ⟨a, i, i0, i1, i2⟩ := x7 j j0 j1
        exact ⟨a, i, i0, i1, by rw [lkR i i0 i1]; exact i2⟩
      · rw [lkR i i0 i1]; exact x9 i i0 i1
    · obtain ⟨p1, p2, p3, p4⟩ := k4 r r0 (by omega)
      have q247 := (s3 r r0 (by omega)).1
      have e2 := o247 r r0 e
      have e57 := x4 r r0 e
      have ew : ∀ z : Int, A Y (47 + 1 * r.toNat) z = A M (47 + 1 * r.toNat) z := fun z => rd _ z (by omega) (by omega) (by omega) (by omega) (by omega) (by omega) (by omega) (by omega) (by omega) (by omega)
      unfold B14
      rw [e2, e57]
      refine ⟨p1, fun j j0 j1 => ?_, fun j l j0 j1 j2 => ?_, fun i i0 i1 => ?_⟩
      · obtain ⟨a, i, i0, i1, i2⟩ := p2 j j0 j1
        obtain ⟨u1, u2⟩ := lko r i r0 (by omega) i0 i1
        rw [ew]
        refine ⟨by omega, i, i0, i1, ?_⟩
        rw [u1, (x10 _ u2.1).1 (by omega)]; exact i2
      · rw [ew, ew]; exact p3 j l j0 j1 j2
      · obtain ⟨u1, u2⟩ := lko r i r0 (by omega) i0 i1
        obtain ⟨j, j0, j1, j2⟩ := p4 i i0 i1
        have a := (p2 j j0 j1).1
        refine ⟨j, j0, j1, ?_⟩
        rw [ew, u1, (x10 _ u2.1).1 (by omega)]; exact j2
  · rw [f41] at p1
    rw [rd _ _ (by omega) (by omega) (by omega) (by omega) (by omega) (by omega) (by omega) (by omega) (by omega) (by omega), rd2 _ _ (by omega) (by omega)]
    exact l3 p p0 p1
  · obtain ⟨a1, a2⟩ := l4 p p0 p1
    have r1 : ∀ z : Int, A Y (72 + 5 * p.toNat + 1) z = A M (72 + 5 * p.toNat + 1) z := fun z => rd _ z (by omega) (by omega) (by omega) (by omega) (by omega) (by omega) (by omega) (by omega) (by omega) (by omega)
    have r2 : ∀ z : Int, A Y (72 + 5 * p.toNat + 2) z = A M (72 + 5 * p.toNat + 2) z := fun z => rd _ z (by omega) (by omega) (by omega) (by omega) (by omega) (by omega) (by omega) (by omega) (by omega) (by omega)
    have r3 : ∀ z : Int, A Y 251 z = A M 251 z := fun z => rd2 _ z (by omega) (by omega)
    have r4 : ∀ z : Int, A Y 252 z = A M 252 z := fun z => rd2 _ z (by omega) (by omega)
    unfold B15
    simp only [r1, r2, r3, r4]
    refine ⟨fun l l0 l1 => a1 l (by omega) l1, fun t t0 t1 => ?_⟩
    obtain ⟨b1, b2⟩ := a2 t t0 t1
    obtain ⟨d1, d2⟩ := x10 t t0
    refine ⟨fun h => ?_, fun h => ?_⟩
    · by_cases z : A M 45 t = 0
      · exact b1 z
      · rw [d1 z] at h; exact absurd h z
    · by_cases z : A M 45 t = 0
      · obtain ⟨g1, g2⟩ := b1 z
        have n1 : A M 42 2 < A Y 45 t := by
          rcases d2 z with y | y
          · exact absurd y h
          · exact y
        have n2 := (x3.2 t t0 t1).1
        obtain ⟨v1, v2⟩ := a1 (A Y 45 t - 1) (by omega) (by omega)
        rw [g1, g2]
        exact ⟨v1, v2⟩
      · rw [d1 z]; exact b2 z
end Si
