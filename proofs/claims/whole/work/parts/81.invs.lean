/-! ALL INVARIANTS -/
/-- things -/
def I10 (M : am_M) : Prop := A M 219 31 = nJ M + nW M + nD M ∧ A M 1 17 = A M 219 31 ∧ ∀ t : Int, 0 ≤ t → t < A M 219 31 → A M 14 t = A M 244 t ∧ A M 15 t = A M 245 t ∧ (A M 244 t = 0 ∧ (0 ≤ A M 245 t ∧ A M 245 t < nJ M) ∨ A M 244 t = 1 ∧ (0 ≤ A M 245 t ∧ A M 245 t < nW M) ∨ A M 244 t = 2 ∧ (0 ≤ A M 245 t ∧ A M 245 t < nD M))
/-- how many were taken -/
def I11 (M : am_M) : Prop := A M 0 19 = A M 219 34
/-- the tape -/
def I12 (M : am_M) : Prop := (0 ≤ A M 219 36 ∧ A M 219 36 ≤ 160) ∧ A M 61 1 = A M 219 36 ∧ ∀ k : Int, 0 ≤ k → k < A M 219 36 → (0 ≤ A M 246 k ∧ A M 246 k ≤ 255) ∧ A M 62 k = A M 246 k
/-- said runs -/
def B13 (M : am_M) (r : Int) : Prop := (1 ≤ A M 247 r ∧ A M 247 r ≤ 21) ∧ A M (91 + 2 * r.toNat) 5 = A M 247 r ∧ (∀ i : Int, 0 ≤ i → i < A M 247 r → (0 ≤ A M 248 (21 * r + i) ∧ A M 248 (21 * r + i) < 2 * nW M) ∧ A M (91 + 2 * r.toNat + 1) i = A M 248 (21 * r + i)) ∧ A M (91 + 2 * r.toNat) 0 = A M 249 (6 * r) ∧ A M (91 + 2 * r.toNat) 1 = A M 249 (6 * r + 1) ∧ A M (91 + 2 * r.toNat) 2 = A M 249 (6 * r + 2) ∧ A M (91 + 2 * r.toNat) 3 = A M 249 (6 * r + 3) ∧ A M (91 + 2 * r.toNat) 7 = A M 249 (6 * r + 4) ∧ A M (91 + 2 * r.toNat) 6 = A M 249 (6 * r + 5)
def I13 (M : am_M) : Prop := (0 ≤ A M 219 37 ∧ A M 219 37 ≤ 10) ∧ A M 0 9 = A M 219 37 ∧ ∀ r : Int, 0 ≤ r → r < A M 219 37 → B13 M r
/-- links -/
def lkn (M : am_M) (r i : Int) : Int := 80 * A M 248 (21 * r + i) + A M 248 (21 * r + i + 1)
def B14 (M : am_M) (r : Int) : Prop := (0 ≤ A M 57 r ∧ A M 57 r ≤ 20) ∧ (∀ j : Int, 0 ≤ j → j < A M 57 r → (0 ≤ A M (47 + 1 * r.toNat) j ∧ A M (47 + 1 * r.toNat) j < A M 42 2) ∧ ∃ i : Int, 0 ≤ i ∧ i < A M 247 r - 1 ∧ A M 45 (lkn M r i) = A M (47 + 1 * r.toNat) j + 1) ∧ (∀ j l : Int, 0 ≤ j → j < l → l < A M 57 r → ¬ A M (47 + 1 * r.toNat) j = A M (47 + 1 * r.toNat) l) ∧ ∀ i : Int, 0 ≤ i → i < A M 247 r - 1 → ∃ j : Int, 0 ≤ j ∧ j < A M 57 r ∧ A M (47 + 1 * r.toNat) j + 1 = A M 45 (lkn M r i)
def L14 (M : am_M) : Prop := (∀ l : Int, 0 ≤ l → l < A M 42 2 → (0 ≤ A M 43 l ∧ A M 43 l < 80) ∧ (0 ≤ A M 44 l ∧ A M 44 l < 80) ∧ A M 45 (80 * A M 43 l + A M 44 l) = l + 1) ∧ ∀ t : Int, 0 ≤ t → t < 6400 → (0 ≤ A M 45 t ∧ A M 45 t ≤ A M 42 2) ∧ (¬ A M 45 t = 0 → 80 * A M 43 (A M 45 t - 1) + A M 44 (A M 45 t - 1) = t)
def I14 (M : am_M) : Prop := (0 ≤ A M 42 2 ∧ A M 42 2 ≤ 20 * A M 219 37) ∧ A M 219 37 ≤ 10 ∧ L14 M ∧ ∀ r : Int, 0 ≤ r → r < A M 219 37 → B14 M r
/-- pupils -/
def B15 (M : am_M) (p : Int) : Prop := (∀ l : Int, A M 42 2 ≤ l → l < 200 → A M (72 + 5 * p.toNat + 1) l = 0 ∧ A M (72 + 5 * p.toNat + 2) l = 0) ∧ ∀ t : Int, 0 ≤ t → t < 6400 → (A M 45 t = 0 → A M 251 (6400 * p + t) = 0 ∧ A M 252 (6400 * p + t) = 0) ∧ (¬ A M 45 t = 0 → A M (72 + 5 * p.toNat + 1) (A M 45 t - 1) = A M 251 (6400 * p + t) ∧ A M (72 + 5 * p.toNat + 2) (A M 45 t - 1) = A M 252 (6400 * p + t))
def I15 (M : am_M) : Prop := (0 ≤ A M 219 41 ∧ A M 219 41 ≤ 4) ∧ A M 0 11 = A M 219 41 ∧ (∀ p : Int, 0 ≤ p → p < A M 219 41 → A M (72 + 5 * p.toNat) 0 = A M 250 p) ∧ ∀ p : Int, 0 ≤ p → p < 4 → B15 M p
/-- rules -/
def B16 (M : am_M) (r : Int) : Prop := (0 ≤ A M 253 r ∧ A M 253 r ≤ 9999) ∧ A M (112 + 4 * r.toNat) 0 = A M 253 r ∧ (0 ≤ A M 254 r ∧ A M 254 r ≤ 3) ∧ A M (112 + 4 * r.toNat) 1 = A M 254 r ∧ ∀ i : Int, 0 ≤ i → i < A M 254 r → ∃ f s n : Int, (0 ≤ f ∧ f ≤ 5) ∧ (0 ≤ s ∧ s ≤ 2) ∧ (0 ≤ n ∧ n ≤ 9999) ∧ A M 255 (3 * r + i) = 100000 * f + 10000 * s + n ∧ A M (112 + 4 * r.toNat + 1) i = f ∧ A M (112 + 4 * r.toNat + 2) i = (if s = 0 then 0 else if s = 1 then -1 else 1) ∧ A M (112 + 4 * r.toNat + 3) i = n
def I16 (M : am_M) : Prop := (0 ≤ A M 219 45 ∧ A M 219 45 ≤ 6) ∧ A M 0 13 = A M 219 45 ∧ ∀ r : Int, 0 ≤ r → r < A M 219 45 → B16 M r
/-- exams -/
def B17 (M : am_M) (k : Int) : Prop := (0 ≤ A M 256 (8 * k + 1) ∧ A M 256 (8 * k + 1) < nD M) ∧ (0 ≤ A M 256 (8 * k + 2) ∧ A M 256 (8 * k + 2) < nD M) ∧ (0 ≤ A M 256 (8 * k + 3) ∧ A M 256 (8 * k + 3) < 300) ∧ (0 ≤ A M 256 (8 * k + 4) ∧ A M 256 (8 * k + 4) < 24) ∧ (0 ≤ A M 256 (8 * k + 5) ∧ A M 256 (8 * k + 5) ≤ 100) ∧ (0 ≤ A M 256 (8 * k + 6) ∧ A M 256 (8 * k + 6) ≤ 80) ∧
  A M (137 + 3 * k.toNat) 0 = A M 256 (8 * k) ∧ A M (137 + 3 * k.toNat + 1) 0 = A M 256 (8 * k + 1) ∧ A M (137 + 3 * k.toNat + 1) 1 = A M 256 (8 * k + 2) ∧ A M (137 + 3 * k.toNat + 1) 2 = A M 256 (8 * k + 3) ∧ A M (137 + 3 * k.toNat + 1) 3 = A M 256 (8 * k + 4) ∧ A M (137 + 3 * k.toNat) 1 = A M 256 (8 * k + 5) ∧ A M (137 + 3 * k.toNat + 1) 5 = A M 256 (8 * k + 6) ∧ A M (137 + 3 * k.toNat) 2 = A M 256 (8 * k + 7) ∧
  (∀ i : Int, 0 ≤ i → i < A M 256 (8 * k + 6) → (0 ≤ A M 257 (80 * k + i) ∧ A M 257 (80 * k + i) < 2 * nW M) ∧ A M (137 + 3 * k.toNat + 1 + 1) i = A M 257 (80 * k + i)) ∧ A M (137 + 3 * k.toNat + 1) 7 = J M 258 k ∧ (-1 ≤ J M 258 k ∧ J M 258 k ≤ 4000000) ∧ (A M 256 (8 * k + 6) = 0 → J M 258 k = -1) ∧ (0 < A M 256 (8 * k + 6) → 0 ≤ J M 258 k) ∧ ∀ i : Int, 0 ≤ i → i + 1 < A M 256 (8 * k + 6) → fol M (A M 257 (80 * k + i)) (A M 257 (80 * k + i + 1))
def I17 (M : am_M) : Prop := (0 ≤ A M 219 49 ∧ A M 219 49 ≤ 24) ∧ A M 0 15 = A M 219 49 ∧ ∀ k : Int, 0 ≤ k → k < A M 219 49 → B17 M k
/-- sheets -/
def B18 (M : am_M) (s : Int) : Prop := (-1 ≤ A M 259 s ∧ A M 259 s ≤ 2) ∧ (0 ≤ A M 260 s ∧ A M 260 s ≤ 100) ∧ A M (210 + 2 * s.toNat) 0 = A M 259 s ∧ A M (210 + 2 * s.toNat) 1 = A M 260 s ∧ ∀ i : Int, 0 ≤ i → i < 100 → A M (210 + 2 * s.toNat + 1) i = A M 261 (100 * s + i)
def I18 (M : am_M) : Prop := ∀ s : Int, 0 ≤ s → s < 4 → B18 M s
/-- what was planned -/
def I19 (M : am_M) : Prop := (0 ≤ A M 219 89 ∧ A M 219 89 ≤ 4) ∧ A M 0 18 = A M 219 89 ∧ ∀ i : Int, 0 ≤ i → i < A M 219 89 → A M 218 i = A M 273 i
/-- all of it -/
def Inv (M : am_M) : Prop := I1 M ∧ I2 M ∧ I3 M ∧ I4 M ∧ I5 M ∧ I6 M ∧ I7 M ∧ I8 M ∧ I9 M ∧ I10 M ∧ I11 M ∧ I12 M ∧ I13 M ∧ I14 M ∧ I15 M ∧ I16 M ∧ I17 M ∧ I18 M ∧ I19 M ∧ Imk M ∧ Itd M
section Tr2
variable {W : List Nat} {Q : List (Nat × Nat)} {M M' : am_M}
theorem mRg {b n a : Nat} (h : b ≤ a) (h2 : a < b + n) : a ∈ List.range' b n := List.mem_range'_1.mpr ⟨h, h2⟩
theorem Ch.i10 (h : Ch W Q M M') (hc : okc [14, 15, 244, 245] [(219, 0), (219, 4), (219, 10), (219, 31), (1, 17)] W Q = true) (i : I10 M) : I10 M' := h.tr _ _ (fun _ => rfl) hc i
theorem Ch.i11 (h : Ch W Q M M') (hc : okc [] [(219, 34), (0, 19)] W Q = true) (i : I11 M) : I11 M' := h.tr _ _ (fun _ => rfl) hc i
theorem Ch.i12 (h : Ch W Q M M') (hc : okc [62, 246] [(219, 36), (61, 1)] W Q = true) (i : I12 M) : I12 M' := h.tr _ _ (fun _ => rfl) hc i
theorem Ch.i19 (h : Ch W Q M M') (hc : okc [218, 273] [(219, 89), (0, 18)] W Q = true) (i : I19 M) : I19 M' := h.tr _ _ (fun _ => rfl) hc i
theorem Ch.i13 (h : Ch W Q M M') (hc : okc (247 :: 248 :: 249 :: List.range' 91 20) [(219, 4), (219, 37), (0, 9)] W Q = true) (i : I13 M) : I13 M' := by
  have e1 : A M' 219 37 = A M 219 37 := h.r _ _ hc (Or.inr (by decide))
  have e2 : A M' 0 9 = A M 0 9 := h.r _ _ hc (Or.inr (by decide))
  have e3 : A M' 219 4 = A M 219 4 := h.r _ _ hc (Or.inr (by decide))
  obtain ⟨i1, i2, i3⟩ := i
  refine ⟨by rw [e1]; exact i1, by rw [e1, e2]; exact i2, fun r r0 r1 => ?_⟩
  rw [e1] at r1
  have c := i3 r r0 r1
  have e0 : ∀ z, A M' (91 + 2 * r.toNat) z = A M (91 + 2 * r.toNat) z := fun z => h.r _ _ hc (Or.inl (List.mem_cons_of_mem _ (List.mem_cons_of_mem _ (List.mem_cons_of_mem _ (mRg (by omega) (by omega))))))
  have e4 : ∀ z, A M' (91 + 2 * r.toNat + 1) z = A M (91 + 2 * r.toNat + 1) z := fun z => h.r _ _ hc (Or.inl (List.mem_cons_of_mem _ (List.mem_cons_of_mem _ (List.mem_cons_of_mem _ (mRg (by omega) (by omega))))))
  have e5 : ∀ z, A M' 247 z = A M 247 z := fun z => h.r _ _ hc (Or.inl (by simp only [List.mem_cons, true_or, or_true]))
  have e6 : ∀ z, A M' 248 z = A M 248 z := fun z => h.r _ _ hc (Or.inl (by simp only [List.mem_cons, true_or, or_true]))
  have e7 : ∀ z, A M' 249 z = A M 249 z := fun z => h.r _ _ hc (Or.inl (by simp only [List.mem_cons, true_or, or_true]))
  have e8 : nW M' = nW M := e3
  unfold B13
  simp only [e0, e4, e5, e6, e7, e8]
  exact c
theorem Ch.i14 (h : Ch W Q M M') (hc : okc (43 :: 44 :: 45 :: 57 :: 247 :: 248 :: List.range' 47 10) [(219, 37), (42, 2)] W Q = true) (i : I14 M) : I14 M' := by
  have e1 : A M' 219 37 = A M 219 37 := h.r _ _ hc (Or.inr (by decide))
  have e2 : A M' 42 2 = A M 42 2 := h.r _ _ hc (Or.inr (by decide))
  have e3 : ∀ z, A M' 43 z = A M 43 z := fun z => h.r _ _ hc (Or.inl (by simp only [List.mem_cons, true_or, or_true]))
  have e4 : ∀ z, A M' 44 z = A M 44 z := fun z => h.r _ _ hc (Or.inl (by simp only [List.mem_cons, true_or, or_true]))
  have e5 : ∀ z, A M' 45 z = A M 45 z := fun z => h.r _ _ hc (Or.inl (by simp only [List.mem_cons, true_or, or_true]))
  have e6 : ∀ z, A M' 57 z = A M 57 z := fun z => h.r _ _ hc (Or.inl (by simp only [List.mem_cons, true_or, or_true]))
  have e7 : ∀ z, A M' 247 z = A M 247 z := fun z => h.r _ _ hc (Or.inl (by simp only [List.mem_cons, true_or, or_true]))
  have e8 : ∀ z, A M' 248 z = A M 248 z := fun z => h.r _ _ hc (Or.inl (by simp only [List.mem_cons, true_or, or_true]))
  obtain ⟨i1, i0, i2, i3⟩ := i
  refine ⟨by rw [e1, e2]; exact i1, by rw [e1]; exact i0, ?_, fun r r0 r1 => ?_⟩
  · unfold L14
    simp only [e2, e3, e4, e5]
    exact i2
  · rw [e1] at r1
    have c := i3 r r0 r1
    have e0 : ∀ z, A M' (47 + 1 * r.toNat) z = A M (47 + 1 * r.toNat) z := fun z => h.r _ _ hc (Or.inl (List.mem_cons_of_mem _ (List.mem_cons_of_mem _ (List.mem_cons_of_mem _ (List.mem_cons_of_mem _ (List.mem_cons_of_mem _ (List.mem_cons_of_mem _ (mRg (by omega) (by omega)))))))))
    unfold B14 lkn
    simp only [e0, e2, e5, e6, e7, e8]
    exact c
theorem Ch.i15 (h : Ch W Q M M') (hc : okc [45, 250, 251, 252, 72, 73, 74, 77, 78, 79, 82, 83, 84, 87, 88, 89] [(219, 41), (0, 11), (42, 2)] W Q = true) (i : I15 M) : I15 M' := by
  have e1 : A M' 219 41 = A M 219 41 := h.r _ _ hc (Or.inr (by decide))
  have e2 : A M' 42 2 = A M 42 2 := h.r _ _ hc (Or.inr (by decide))
  have e3 : A M' 0 11 = A M 0 11 := h.r _ _ hc (Or.inr (by decide))
  have e4 : ∀ z, A M' 45 z = A M 45 z := fun z => h.r _ _ hc (Or.inl (by simp only [List.mem_cons, true_or, or_true]))
  have e5 : ∀ z, A M' 250 z = A M 250 z := fun z => h.r _ _ hc (Or.inl (by simp only [List.mem_cons, true_or, or_true]))
  have e6 : ∀ z, A M' 251 z = A M 251 z := fun z => h.r _ _ hc (Or.inl (by simp only [List.mem_cons, true_or, or_true]))
  have e7 : ∀ z, A M' 252 z = A M 252 z := fun z => h.r _ _ hc (Or.inl (by simp only [List.mem_cons, true_or, or_true]))
  have er : ∀ p : Int, 0 ≤ p → p < 4 → ∀ z, A M' (72 + 5 * p.toNat) z = A M (72 + 5 * p.toNat) z ∧ A M' (72 + 5 * p.toNat + 1) z = A M (72 + 5 * p.toNat + 1) z ∧ A M' (72 + 5 * p.toNat + 2) z = A M (72 + 5 * p.toNat + 2) z := fun p p0 p1 z => by
    have hp : p = 0 ∨ p = 1 ∨ p = 2 ∨ p = 3 := by omega
    rcases hp with rfl | rfl | rfl | rfl <;> exact ⟨h.r _ _ hc (Or.inl (by decide)), h.r _ _ hc (Or.inl (by decide)), h.r _ _ hc (Or.inl (by decide))⟩
  obtain ⟨i1, i2, i3, i4⟩ := i
  refine ⟨by rw [e1]; exact i1, by rw [e1, e3]; exact i2, fun p p0 p1 => ?_, fun p p0 p1 => ?_⟩
  · rw [e1] at p1
    rw [(er p p0 (by omega) 0).1, e5]; exact i3 p p0 p1
  · have c := i4 p p0 p1
    have f1 : ∀ z, A M' (72 + 5 * p.toNat + 1) z = A M (72 + 5 * p.toNat + 1) z := fun z => (er p p0 p1 z).2.1
    have f2 : ∀ z, A M' (72 + 5 * p.toNat + 2) z = A M (72 + 5 * p.toNat + 2) z := fun z => (er p p0 p1 z).2.2
    unfold B15
    simp only [f1, f2, e2, e4, e6, e7]
    exact c
theorem Ch.i16 (h : Ch W Q M M') (hc : okc (253 :: 254 :: 255 :: List.range' 112 25) [(219, 45), (0, 13)] W Q = true) (i : I16 M) : I16 M' := by
  have e1 : A M' 219 45 = A M 219 45 := h.r _ _ hc (Or.inr (by decide))
  have e2 : A M' 0 13 = A M 0 13 := h.r _ _ hc (Or.inr (by decide))
  have e3 : ∀ z, A M' 253 z = A M 253 z := fun z => h.r _ _ hc (Or.inl (by simp only [List.mem_cons, true_or, or_true]))
  have e4 : ∀ z, A M' 254 z = A M 254 z := fun z => h.r _ _ hc (Or.inl (by simp only [List.mem_cons, true_or, or_true]))
  have e5 : ∀ z, A M' 255 z = A M 255 z := fun z => h.r _ _ hc (Or.inl (by simp only [List.mem_cons, true_or, or_true]))
  obtain ⟨i1, i2, i3⟩ := i
  refine ⟨by rw [e1]; exact i1, by rw [e1, e2]; exact i2, fun r r0 r1 => ?_⟩
  rw [e1] at r1
  have c := i3 r r0 r1
  have er : ∀ a : Nat, 112 ≤ a → a < 137 → ∀ z, A M' a z = A M a z := fun a a0 a1 z => h.r _ _ hc (Or.inl (List.mem_cons_of_mem _ (List.mem_cons_of_mem _ (List.mem_cons_of_mem _ (mRg (by omega) (by omega))))))
  have f0 := er (112 + 4 * r.toNat) (by omega) (by omega)
  have f1 := er (112 + 4 * r.toNat + 1) (by omega) (by omega)
  have f2 := er (112 + 4 * r.toNat + 2) (by omega) (by omega)
  have f3 := er (112 + 4 * r.toNat + 3) (by omega) (by omega)
  unfold B16
  simp only [f0, f1, f2, f3, e3, e4, e5]
  exact c
theorem Ch.i17 (h : Ch W Q M M') (hc : okc (224 :: 225 :: 256 :: 257 :: 258 :: List.range' 137 72) [(219, 49), (0, 15), (219, 4), (219, 10)] W Q = true) (i : I17 M) : I17 M' := by
  have e1 : A M' 219 49 = A M 219 49 := h.r _ _ hc (Or.inr (by decide))
  have e2 : A M' 0 15 = A M 0 15 := h.r _ _ hc (Or.inr (by decide))
  have e3 : nW M' = nW M := h.r _ _ hc (Or.inr (by decide))
  have e4 : nD M' = nD M := h.r _ _ hc (Or.inr (by decide))
  have e5 : ∀ z, A M' 256 z = A M 256 z := fun z => h.r _ _ hc (Or.inl (by simp only [List.mem_cons, true_or, or_true]))
  have e6 : ∀ z, A M' 257 z = A M 257 z := fun z => h.r _ _ hc (Or.inl (by simp only [List.mem_cons, true_or, or_true]))
  have e7 : ∀ z, J M' 258 z = J M 258 z := fun z => h.rj _ _ hc (Or.inl (by simp only [List.mem_cons, true_or, or_true])) rfl
  have e8 : ∀ z, A M' 224 z = A M 224 z := fun z => h.r _ _ hc (Or.inl (by simp only [List.mem_cons, true_or, or_true]))
  have e9 : ∀ z, A M' 225 z = A M 225 z := fun z => h.r _ _ hc (Or.inl (by simp only [List.mem_cons, true_or, or_true]))
  have eb : ∀ e, bg M' e = bg M e := fun e => by unfold bg; rw [e8, e9]
  have ee : ∀ e, en M' e = en M e := fun e => by unfold en; rw [e8, e9]
  obtain ⟨i1, i2, i3⟩ := i
  refine ⟨by rw [e1]; exact i1, by rw [e1, e2]; exact i2, fun k k0 k1 => ?_⟩
  rw [e1] at k1
  have c := i3 k k0 k1
  have er : ∀ a : Nat, 137 ≤ a → a < 209 → ∀ z, A M' a z = A M a z := fun a a0 a1 z => h.r _ _ hc (Or.inl (List.mem_cons_of_mem _ (List.mem_cons_of_mem _ (List.mem_cons_of_mem _ (List.mem_cons_of_mem _ (List.mem_cons_of_mem _ (mRg (by omega) (by omega))))))))
  have f0 := er (137 + 3 * k.toNat) (by omega) (by omega)
  have f1 := er (137 + 3 * k.toNat + 1) (by omega) (by omega)
  have f2 := er (137 + 3 * k.toNat + 1 + 1) (by omega) (by omega)
  unfold B17 fol
  simp only [f0, f1, f2, e3, e4, e5, e6, e7, eb, ee]
  exact c
theorem Ch.i18 (h : Ch W Q M M') (hc : okc (259 :: 260 :: 261 :: List.range' 210 8) [] W Q = true) (i : I18 M) : I18 M' := by
  have e3 : ∀ z, A M' 259 z = A M 259 z := fun z => h.r _ _ hc (Or.inl (by simp only [List.mem_cons, true_or, or_true]))
  have e4 : ∀ z, A M' 260 z = A M 260 z := fun z => h.r _ _ hc (Or.inl (by simp only [List.mem_cons, true_or, or_true]))
  have e5 : ∀ z, A M' 261 z = A M 261 z := fun z => h.r _ _ hc (Or.inl (by simp only [List.mem_cons, true_or, or_true]))
  intro s s0 s1
  have c := i s s0 s1
  have er : ∀ a : Nat, 210 ≤ a → a < 218 → ∀ z, A M' a z = A M a z := fun a a0 a1 z => h.r _ _ hc (Or.inl (List.mem_cons_of_mem _ (List.mem_cons_of_mem _ (List.mem_cons_of_mem _ (mRg (by omega) (by omega))))))
  have f0 := er (210 + 2 * s.toNat) (by omega) (by omega)
  have f1 := er (210 + 2 * s.toNat + 1) (by omega) (by omega)
  unfold B18
  simp only [f0, f1, e3, e4, e5]
  exact c
/-- the cells that a search may change -/
theorem Kbs.ch (h : Kbs M M') : Ch [32, 33, 34, 35, 36, 37, 38, 39, 40, 41, 66, 67, 262, 263, 264, 265] [(219, 56), (219, 57), (219, 58), (219, 59), (219, 60), (219, 61), (219, 62), (219, 63), (219, 64), (219, 65), (219, 66), (219, 67), (219, 68), (219, 69), (219, 70), (219, 71), (219, 72), (219, 73), (219, 74)] M M' := fun a k ha hk => by
  obtain ⟨h1, -, -, h2, h3⟩ := h
  by_cases q : a = 219
  · subst q
    by_cases q1 : k < 56
    · have hs : stb 219 k = true := by
        have : Nat.blt k 56 = true := Nat.ble_eq_true_of_le (by omega)
        unfold stb
        rw [this]; rfl
      exact ⟨(h1 219 k hs).1, fun _ => (h1 219 k hs).2⟩
    · have q2 : 75 ≤ k := by
        simp only [List.mem_cons, Prod.mk.injEq, true_and, List.not_mem_nil, or_false] at hk
        omega
      refine ⟨?_, fun j => ?_⟩
      · have e := h3 (k : Int) (by omega)
        unfold A at e
        rw [Int.toNat_natCast] at e
        exact Int32.toInt_inj.mp e
      · have : Nat.ble 75 k = true := Nat.ble_eq_true_of_le q2
        unfold jx at j
        rw [this] at j
        cases j
  · have e := h2 a (by
      simp only [List.mem_cons, List.not_mem_nil, or_false] at ha ⊢
      omega)
    exact ⟨congrFun e.1 k, fun _ => congrFun e.2 k⟩
theorem Inv.ibs (h : Inv M) : Ibs M := by
  obtain ⟨h1, h2, h3, h4, h5, h6, h7, h8, h9, -, -, -, -, -, h15, -, -, -, -, hm, ht⟩ := h
  exact ⟨h1, h2, h3, h4, h6, h7, h8, h9, h15.1.1, hm, ht⟩
theorem Kbs.inv (k : Kbs M M') (h : Inv M) : Inv M' := by
  have c := k.ch
  obtain ⟨h1, h2, h3, h4, h5, h6, h7, h8, h9, h10, h11, h12, h13, h14, h15, h16, h17, h18, h19, hm, ht⟩ := h
  exact ⟨c.i1 rfl h1, c.i2 rfl h2, c.i3 rfl h3, c.i4 rfl h4, c.i5 rfl h5, c.i6 rfl h6, c.i7 rfl h7, c.i8 rfl h8, c.i9 rfl h9, c.i10 rfl h10, c.i11 rfl h11, c.i12 rfl h12, c.i13 rfl h13, c.i14 rfl h14, c.i15 rfl h15, c.i16 rfl h16, c.i17 rfl h17, c.i18 rfl h18, c.i19 rfl h19, k.2.1, k.2.2.1⟩
end Tr2
