/-! TURNS: how one leg is turned into out of another, by both -/
noncomputable def cn (C : Int → Prop) : Nat → Int
  | 0 => 0
  | n + 1 => cn C n + bI (C (n : Int))
theorem cn_cg {C D : Int → Prop} : ∀ {n : Nat}, (∀ k : Int, 0 ≤ k → k < (n : Int) → (C k ↔ D k)) → cn C n = cn D n
  | 0, _ => rfl
  | n + 1, h => by
    show cn C n + bI (C n) = cn D n + bI (D n)
    rw [cn_cg fun k h0 h1 => h k h0 (by omega), bI_cg (h n (by omega) (by omega))]
theorem cn_b {C : Int → Prop} : ∀ (n : Nat), 0 ≤ cn C n ∧ cn C n ≤ (n : Int)
  | 0 => ⟨Int.le_refl _, Int.le_refl _⟩
  | n + 1 => by
    have h := cn_b (C := C) n
    show 0 ≤ cn C n + bI (C n) ∧ cn C n + bI (C n) ≤ ((n + 1 : Nat) : Int)
    rcases bI_01 (P := C n) with e | e <;> rw [e] <;> omega
theorem cn_m {C : Int → Prop} {m : Nat} : ∀ {n : Nat}, m ≤ n → cn C m ≤ cn C n ∧ cn C n - cn C m ≤ (n : Int) - m
  | 0, h => by rw [show m = 0 by omega]; omega
  | n + 1, h => by
    by_cases e : m = n + 1
    · rw [e]; omega
    · have ih := cn_m (C := C) (m := m) (n := n) (by omega)
      show cn C m ≤ cn C n + bI (C n) ∧ cn C n + bI (C n) - cn C m ≤ ((n + 1 : Nat) : Int) - m
      rcases bI_01 (P := C n) with e | e <;> rw [e] <;> omega
theorem cn_no {C : Int → Prop} {m : Nat} : ∀ {n : Nat}, m ≤ n → (∀ k : Int, (m : Int) ≤ k → k < (n : Int) → ¬ C k) → cn C n = cn C m
  | 0, h, _ => by rw [show m = 0 by omega]
  | n + 1, h, hc => by
    by_cases e : m = n + 1
    · rw [e]
    · show cn C n + bI (C n) = _
      rw [bI_f (hc n (by omega) (by omega)), cn_no (n := n) (by omega) fun k h0 h1 => hc k h0 (by omega)]
      omega
/-- counted along a rising row -/
theorem cn_row {P : Int → Prop} {o : Int → Int} : ∀ (c n : Nat), (∀ k l : Int, 0 ≤ k → k < l → l < (c : Int) → o k < o l) → (∀ k : Int, 0 ≤ k → k < (c : Int) → 0 ≤ o k ∧ o k < (n : Int)) → cn (fun k => P (o k)) c = cn (fun g => (∃ k : Int, 0 ≤ k ∧ k < (c : Int) ∧ o k = g) ∧ P g) n
  | 0, n, _, _ => by
    have h := cn_no (C := fun g => (∃ k : Int, 0 ≤ k ∧ k < ((0 : Nat) : Int) ∧ o k = g) ∧ P g) (m := 0) (n := n) (Nat.zero_le _) (fun k _ _ ⟨⟨k, h0, h1, _⟩, _⟩ => by omega)
    rw [h]
    rfl
  | c + 1, n, hr, hb => by
    have hm := hb c (by omega) (by omega)
    have em : ((o c).toNat : Int) = o c := Int.toNat_of_nonneg hm.1
    have ih := cn_row (P := P) (o := o) c (o c).toNat (fun k l h0 h1 h2 => hr k l h0 h1 (by omega)) (fun k h0 h1 => ⟨(hb k h0 (by omega)).1, by rw [em]; exact hr k c h0 h1 (by omega)⟩)
    show cn (fun k => P (o k)) c + bI (P (o c)) = _
    rw [ih, cn_no (C := fun g => (∃ k : Int, 0 ≤ k ∧ k < ((c + 1 : Nat) : Int) ∧ o k = g) ∧ P g) (m := (o c).toNat + 1) (n := n) (by omega) (fun k h0 h1 ⟨⟨l, l0, l1, e⟩, _⟩ => by
      by_cases el : l = c
      · rw [el] at e; omega
      · have := hr l c l0 (by omega) (by omega); omega)]
    show _ = cn _ (o c).toNat + bI _
    rw [em]
    have e1 : bI ((∃ k : Int, 0 ≤ k ∧ k < ((c + 1 : Nat) : Int) ∧ o k = o c) ∧ P (o c)) = bI (P (o c)) := bI_cg ⟨fun h => h.2, fun h => ⟨⟨c, by omega, by omega, rfl⟩, h⟩⟩
    rw [e1]
    congr 1
    refine cn_cg fun g h0 h1 => ?_
    rw [em] at h1
    constructor
    · rintro ⟨⟨k, k0, k1, e⟩, hp⟩
      exact ⟨⟨k, k0, by omega, e⟩, hp⟩
    · rintro ⟨⟨k, k0, k1, e⟩, hp⟩
      refine ⟨⟨k, k0, ?_, e⟩, hp⟩
      by_cases ek : k = c
      · rw [ek] at e; omega
      · omega
noncomputable section
/-- in which part of a round, from the look back along e, leg g lies -/
def qt (M : am_M) (e f : Int) : Int := if 0 < crs M e f then 1 else if crs M e f < 0 then 3 else if dt M e f < 0 then 0 else 2
def ahd (M : am_M) (e f h : Int) : Prop := (qt M e f = qt M e h → crs M f h < 0 ∨ crs M f h = 0 ∧ f < h) ∧ (¬ qt M e f = qt M e h → qt M e f < qt M e h)
def trn (M : am_M) (e f : Int) : Int :=
  if rg M (en M e) = 0 then (if crs M e f < 0 then 1 else if crs M e f = 0 then (if dt M e f < 0 then 0 else 2) else 0)
  else 3 + cn (fun h => ¬ h = f ∧ fol M e h ∧ ahd M e h f) (2 * nW M).toNat
def fh (M : am_M) (e f : Int) : Prop := 0 < crs M e f ∨ crs M e f = 0 ∧ dt M e f < 0
end
theorem sq_z {a b : Int} (h : a * a + b * b = 0) : a = 0 ∧ b = 0 := by
  have h1 : 0 ≤ a * a := by rcases Int.le_total 0 a with q | q; exact Int.mul_nonneg q q; exact Int.mul_nonneg_of_nonpos_of_nonpos q q
  have h2 : 0 ≤ b * b := by rcases Int.le_total 0 b with q | q; exact Int.mul_nonneg q q; exact Int.mul_nonneg_of_nonpos_of_nonpos q q
  have h3 : a * a = 0 := by omega
  have h4 : b * b = 0 := by omega
  exact ⟨by rcases Int.mul_eq_zero.mp h3 with q | q <;> exact q, by rcases Int.mul_eq_zero.mp h4 with q | q <;> exact q⟩
theorem sq_p {a b : Int} (h : ¬ (a = 0 ∧ b = 0)) : 0 < a * a + b * b := by
  have h1 : 0 ≤ a * a := by rcases Int.le_total 0 a with q | q; exact Int.mul_nonneg q q; exact Int.mul_nonneg_of_nonpos_of_nonpos q q
  have h2 : 0 ≤ b * b := by rcases Int.le_total 0 b with q | q; exact Int.mul_nonneg q q; exact Int.mul_nonneg_of_nonpos_of_nonpos q q
  by_cases e : a * a + b * b = 0
  · exact absurd (sq_z e) h
  · omega
section Tu
variable {M0 M : am_M} {g : am_G} {F : am_FT}
theorem vec_nz (h1 : I1 M0) (h2 : I2 M0) {e : Int} (e0 : 0 ≤ e) (e1 : e < 2 * nW M0) : ¬ (dx M0 e = 0 ∧ dy M0 e = 0) := by
  rintro ⟨a, b⟩
  obtain ⟨c1, c2, -⟩ := h2.2.2.2 e e0 e1
  have c3 := en_r h2 e0 e1
  unfold dx at a
  unfold dy at b
  exact c2 (h1.2.2.2 _ _ c1.1 c1.2 c3.1 c3.2 (by omega) (by omega))
theorem dt_nz (h1 : I1 M0) (h2 : I2 M0) {e f : Int} (e0 : 0 ≤ e) (e1 : e < 2 * nW M0) (f0 : 0 ≤ f) (f1 : f < 2 * nW M0) (hc : crs M0 e f = 0) : ¬ dt M0 e f = 0 := by
  intro hd
  have a := sq_p (vec_nz h1 h2 e0 e1)
  have b := sq_p (vec_nz h1 h2 f0 f1)
  have k := Int.mul_pos a b
  unfold crs at hc
  unfold dt at hd
  generalize dx M0 e = x at *
  generalize dy M0 e = y at *
  generalize dx M0 f = u at *
  generalize dy M0 f = v at *
  have id : (x * x + y * y) * (u * u + v * v) = (x * v - y * u) * (x * v - y * u) + (x * u + y * v) * (x * u + y * v) := by grind
  rw [id, hc, hd] at k
  omega
theorem crs_id {e f h : Int} : (dx M0 e * dx M0 e + dy M0 e * dy M0 e) * crs M0 f h = dt M0 e f * crs M0 e h - crs M0 e f * dt M0 e h := by
  unfold crs dt; grind
theorem mul_neg {a b : Int} (ha : 0 < a) (h : a * b < 0) : b < 0 := by
  by_cases q : b < 0
  · exact q
  · have q : 0 ≤ b := by omega
    have := Int.mul_nonneg (Int.le_of_lt ha) q; omega
theorem mul_pos' {a b : Int} (ha : 0 < a) (h : 0 < a * b) : 0 < b := by
  by_cases q : 0 < b
  · exact q
  · have := Int.mul_nonneg (Int.le_of_lt ha) (show 0 ≤ -b by omega)
    rw [Int.mul_neg] at this; omega
/-- two ways to say which exit comes first -/
theorem ahd_iff (h1 : I1 M0) (h2 : I2 M0) {e f h : Int} (e0 : 0 ≤ e) (e1 : e < 2 * nW M0) (f0 : 0 ≤ f) (f1 : f < 2 * nW M0) (k0 : 0 ≤ h) (k1 : h < 2 * nW M0) : ahd M0 e f h ↔ ((fh M0 e f ↔ fh M0 e h) → crs M0 f h < 0 ∨ crs M0 f h = 0 ∧ f < h) ∧ (¬ (fh M0 e f ↔ fh M0 e h) → fh M0 e f) := by
  have p := sq_p (vec_nz h1 h2 e0 e1)
  have id := crs_id (M0 := M0) (e := e) (f := f) (h := h)
  have nf := dt_nz h1 h2 e0 e1 f0 f1
  have nh := dt_nz h1 h2 e0 e1 k0 k1
  unfold ahd qt fh
  generalize dx M0 e * dx M0 e + dy M0 e * dy M0 e = s at *
  generalize crs M0 f h = z at *
  generalize crs M0 e f = a at *
  generalize crs M0 e h = b at *
  generalize dt M0 e f = u at *
  generalize dt M0 e h = v at *
  have F1 : a = 0 → u < 0 → 0 < b → z < 0 := fun ha hu hb => mul_neg p (by rw [id, ha, Int.zero_mul]; have := Int.mul_neg_of_neg_of_pos hu hb; omega)
  have F2 : 0 < a → b = 0 → v < 0 → 0 < z := fun ha hb hv => mul_pos' p (by rw [id, hb, Int.mul_zero]; have := Int.mul_neg_of_pos_of_neg ha hv; omega)
  have F3 : a = 0 → 0 < u → b < 0 → z < 0 := fun ha hu hb => mul_neg p (by rw [id, ha, Int.zero_mul]; have := Int.mul_neg_of_pos_of_neg hu hb; omega)
  have F4 : a < 0 → b = 0 → 0 < v → 0 < z := fun ha hb hv => mul_pos' p (by rw [id, hb, Int.mul_zero]; have := Int.mul_neg_of_neg_of_pos ha hv; omega)
  clear id p h1 h2
  (repeat' split) <;> omega
end Tu
