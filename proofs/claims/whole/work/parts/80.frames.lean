/-! WHAT CHANGES AND WHAT IS READ -/
/-- all as it was, but for the rows of W and the cells of Q -/
def jx (a k : Nat) : Bool := Nat.beq a 219 && Nat.ble 75 k
def Ch (W : List Nat) (Q : List (Nat × Nat)) (M M' : am_M) : Prop := ∀ a k : Nat, a ∉ W → (a, k) ∉ Q → M'.1 a k = M.1 a k ∧ (jx a k = false → M'.2 a k = M.2 a k)
def rdq (R : List Nat) (P : List (Nat × Nat)) (a k : Nat) : Bool := R.any (fun r => Nat.beq a r) || P.any (fun p => Nat.beq a p.1 && Nat.beq k p.2)
/-- a memory, as far as it is read -/
def msk (R : List Nat) (P : List (Nat × Nat)) (M : am_M) : am_M := (fun a k => bif rdq R P a k then M.1 a k else 0, fun a k => bif rdq R P a k && !jx a k then M.2 a k else 0)
def okc (R : List Nat) (P : List (Nat × Nat)) (W : List Nat) (Q : List (Nat × Nat)) : Bool := R.all (fun r => !W.any (fun w => Nat.beq r w) && Q.all (fun q => !Nat.beq r q.1)) && P.all (fun p => !W.any (fun w => Nat.beq p.1 w) && Q.all (fun q => !(Nat.beq p.1 q.1 && Nat.beq p.2 q.2)))
section Chs
variable {W W' R : List Nat} {Q Q' P : List (Nat × Nat)} {M M' M'' : am_M}
theorem Ch.refl : Ch W Q M M := fun _ _ _ _ => ⟨rfl, fun _ => rfl⟩
theorem Ch.trans (h : Ch W Q M M') (h2 : Ch W Q M' M'') : Ch W Q M M'' := fun a k ha hk => ⟨(h2 a k ha hk).1.trans (h a k ha hk).1, fun j => ((h2 a k ha hk).2 j).trans ((h a k ha hk).2 j)⟩
theorem Ch.mono (h : Ch W Q M M') (hs : (W.all (fun a => W'.elem a) && Q.all (fun q => Q'.elem q)) = true) : Ch W' Q' M M' := fun a k ha hk => by
  rw [Bool.and_eq_true] at hs
  exact h a k (fun q => ha (List.elem_iff.mp (List.all_eq_true.mp hs.1 a q))) (fun q => hk (List.elem_iff.mp (List.all_eq_true.mp hs.2 _ q)))
theorem Ch.wm (h : Ch W Q M M') {a : Nat} {z v : Int} (ha : a ∈ W ∨ (a, z.toNat) ∈ Q) : Ch W Q M (W_ M' a z v) := fun b k hb hk => by
  refine ⟨?_, (h b k hb hk).2⟩
  show (if b = a ∧ k = z.toNat then _ else M'.1 b k) = _
  have hne : ¬ (b = a ∧ k = z.toNat) := fun q => by
    rcases ha with ha | ha
    · exact hb (by rw [q.1]; exact ha)
    · exact hk (by rw [q.1, q.2]; exact ha)
  rw [if_neg hne, (h b k hb hk).1]
theorem Ch.xm (h : Ch W Q M M') {a : Nat} {z v : Int} (ha : a ∈ W ∨ (a, z.toNat) ∈ Q) : Ch W Q M (X_ M' a z v) := fun b k hb hk => by
  refine ⟨(h b k hb hk).1, fun j => ?_⟩
  show (if b = a ∧ k = z.toNat then _ else M'.2 b k) = _
  have hne : ¬ (b = a ∧ k = z.toNat) := fun q => by
    rcases ha with ha | ha
    · exact hb (by rw [q.1]; exact ha)
    · exact hk (by rw [q.1, q.2]; exact ha)
  rw [if_neg hne, (h b k hb hk).2 j]
theorem rdq_iff {a k : Nat} : rdq R P a k = true ↔ a ∈ R ∨ (a, k) ∈ P := by
  unfold rdq
  rw [Bool.or_eq_true, List.any_eq_true, List.any_eq_true]
  constructor
  · rintro (⟨r, hr, e⟩ | ⟨p, hp, e⟩)
    · rw [Nat.eq_of_beq_eq_true e]; exact Or.inl hr
    · rw [Bool.and_eq_true] at e
      rw [Nat.eq_of_beq_eq_true e.1, Nat.eq_of_beq_eq_true e.2]; exact Or.inr hp
  · rintro (h | h)
    · exact Or.inl ⟨a, h, Nat.beq_refl a⟩
    · exact Or.inr ⟨(a, k), h, by rw [Bool.and_eq_true]; exact ⟨Nat.beq_refl a, Nat.beq_refl k⟩⟩
theorem Ch.cell (h : Ch W Q M M') (hc : okc R P W Q = true) {a k : Nat} (hr : a ∈ R ∨ (a, k) ∈ P) : M'.1 a k = M.1 a k ∧ (jx a k = false → M'.2 a k = M.2 a k) := by
  unfold okc at hc
  rw [Bool.and_eq_true] at hc
  rcases hr with hr | hr
  · have h1 := List.all_eq_true.mp hc.1 a hr
    rw [Bool.and_eq_true, Bool.not_eq_true'] at h1
    refine h a k (fun q => ?_) (fun q => ?_)
    · have := List.any_eq_true.mpr ⟨a, q, Nat.beq_refl a⟩
      rw [h1.1] at this; cases this
    · have := List.all_eq_true.mp h1.2 _ q
      rw [Bool.not_eq_true'] at this
      have h2 := Nat.beq_refl a
      rw [this] at h2; cases h2
  · have h1 := List.all_eq_true.mp hc.2 _ hr
    rw [Bool.and_eq_true, Bool.not_eq_true'] at h1
    refine h a k (fun q => ?_) (fun q => ?_)
    · have := List.any_eq_true.mpr ⟨a, q, Nat.beq_refl a⟩
      rw [h1.1] at this; cases this
    · have := List.all_eq_true.mp h1.2 _ q
      rw [Bool.not_eq_true'] at this
      have h2 : (Nat.beq (a, k).1 (a, k).1 && Nat.beq (a, k).2 (a, k).2) = true := by rw [Bool.and_eq_true]; exact ⟨Nat.beq_refl a, Nat.beq_refl k⟩
      rw [this] at h2; cases h2
theorem Ch.r (h : Ch W Q M M') (R : List Nat) (P : List (Nat × Nat)) (hc : okc R P W Q = true) {a : Nat} {z : Int} (hr : a ∈ R ∨ (a, z.toNat) ∈ P) : A M' a z = A M a z := congrArg Int32.toInt (h.cell hc hr).1
theorem Ch.rj (h : Ch W Q M M') (R : List Nat) (P : List (Nat × Nat)) (hc : okc R P W Q = true) {a : Nat} {z : Int} (hr : a ∈ R ∨ (a, z.toNat) ∈ P) (hj : jx a z.toNat = false) : J M' a z = J M a z := congrArg Int64.toInt ((h.cell hc hr).2 hj)
theorem Ch.a (h : Ch W Q M M') {a : Nat} {z : Int} (hc : okc [a] [] W Q = true) : A M' a z = A M a z := h.r [a] [] hc (Or.inl (List.mem_singleton.mpr rfl))
theorem Ch.j (h : Ch W Q M M') {a : Nat} {z : Int} (hc : okc [a] [] W Q = true) (hj : jx a z.toNat = false) : J M' a z = J M a z := h.rj [a] [] hc (Or.inl (List.mem_singleton.mpr rfl)) hj
theorem Ch.f (h : Ch W Q M M') {a : Nat} {z : Int} (hc : okc [] [(a, z.toNat)] W Q = true) : A M' a z = A M a z := h.r [] [(a, z.toNat)] hc (Or.inr (List.mem_singleton.mpr rfl))
theorem Ch.g (h : Ch W Q M M') {a : Nat} {z : Int} (hc : okc [] [(a, z.toNat)] W Q = true) (hj : jx a z.toNat = false) : J M' a z = J M a z := h.rj [] [(a, z.toNat)] hc (Or.inr (List.mem_singleton.mpr rfl)) hj
theorem Ch.mks (h : Ch W Q M M') (hc : okc R P W Q = true) : msk R P M' = msk R P M := by
  have e : ∀ a k : Nat, rdq R P a k = true → M'.1 a k = M.1 a k ∧ (jx a k = false → M'.2 a k = M.2 a k) := fun a k hr => h.cell hc (rdq_iff.mp hr)
  refine Prod.ext ?_ ?_
  · funext a k
    show (bif rdq R P a k then M'.1 a k else 0) = (bif rdq R P a k then M.1 a k else 0)
    cases hq : rdq R P a k with
    | true => exact (e a k hq).1
    | false => rfl
  · funext a k
    show (bif rdq R P a k && !jx a k then M'.2 a k else 0) = (bif rdq R P a k && !jx a k then M.2 a k else 0)
    cases hq : rdq R P a k with
    | true =>
      cases hj : jx a k with
      | false => exact (e a k hq).2 hj
      | true => rfl
    | false => rfl
theorem Ch.fn {α : Type} {f : am_M → α} (R : List Nat) (P : List (Nat × Nat)) (hf : ∀ M, f (msk R P M) = f M) (h : Ch W Q M M') (hc : okc R P W Q = true) : f M' = f M := by rw [← hf M', h.mks hc, hf M]
theorem Ch.tr {I : am_M → Prop} (R : List Nat) (P : List (Nat × Nat)) (hf : ∀ M, I (msk R P M) = I M) (h : Ch W Q M M') (hc : okc R P W Q = true) (i : I M) : I M' := by rw [← hf M', h.mks hc, hf M]; exact i
theorem Ke.ch (h : Ke W M M') : Ch W [] M M' := fun a k ha _ => ⟨congrFun (h a ha).1 k, fun _ => congrFun (h a ha).2 k⟩
end Chs
section Tr
variable {W : List Nat} {Q : List (Nat × Nat)} {M M' : am_M}
theorem Ch.i1 (h : Ch W Q M M') (hc : okc [2, 3, 4, 220, 221, 222] [(219, 0), (1, 3)] W Q = true) (i : I1 M) : I1 M' := h.tr _ _ (fun _ => rfl) hc i
theorem Ch.i2 (h : Ch W Q M M') (hc : okc [5, 6, 7, 8, 9, 10, 220, 221, 223, 224, 225, 226, 227] [(219, 0), (219, 4), (1, 7)] W Q = true) (i : I2 M) : I2 M' := h.tr _ _ (fun _ => rfl) hc i
theorem Ch.i3 (h : Ch W Q M M') (hc : okc [16, 17, 224, 225] [(219, 0), (219, 4)] W Q = true) (i : I3 M) : I3 M' := h.tr _ _ (fun _ => rfl) hc i
theorem Ch.i4 (h : Ch W Q M M') (hc : okc [11, 12, 13, 226, 228, 229, 230] [(219, 10), (219, 4), (1, 14)] W Q = true) (i : I4 M) : I4 M' := h.tr _ _ (fun _ => rfl) hc i
theorem Ch.i5 (h : Ch W Q M M') (hc : okc [19, 20, 21, 231, 232, 233] [(219, 15), (18, 4)] W Q = true) (i : I5 M) : I5 M' := h.tr _ _ (fun _ => rfl) hc i
theorem Ch.i6 (h : Ch W Q M M') (hc : okc [22, 23, 24, 25, 234, 235, 236, 237] [(219, 19), (18, 9)] W Q = true) (i : I6 M) : I6 M' := h.tr _ _ (fun _ => rfl) hc i
theorem Ch.i7 (h : Ch W Q M M') (hc : okc [26, 27, 28, 29, 30, 31, 238, 239, 240, 241, 242, 243] [(219, 24), (219, 4), (18, 16)] W Q = true) (i : I7 M) : I7 M' := h.tr _ _ (fun _ => rfl) hc i
theorem Ch.i8 (h : Ch W Q M M') (hc : okc [] [(219, 14), (18, 0)] W Q = true) (i : I8 M) : I8 M' := h.tr _ _ (fun _ => rfl) hc i
theorem Ch.i9 (h : Ch W Q M M') (hc : okc [250, 251, 252] [] W Q = true) (i : I9 M) : I9 M' := h.tr _ _ (fun _ => rfl) hc i
theorem Ch.imk (h : Ch W Q M M') (hc : okc [35, 36] [(32, 6)] W Q = true) (i : Imk M) : Imk M' := h.tr _ _ (fun _ => rfl) hc i
theorem Ch.itd (h : Ch W Q M M') (hc : okc [66, 67, 265] [(219, 72), (219, 73), (219, 74)] W Q = true) (i : Itd M) : Itd M' := h.tr _ _ (fun _ => rfl) hc i
end Tr
