/-! AT THE BEGINNING -/
section B0
theorem at0 (a k : Nat) : (al_m idl).1 a k = if a = 259 ∧ k ≤ 3 ∨ (a = 210 ∨ a = 212 ∨ a = 214 ∨ a = 216) ∧ k = 0 then -1 else 0 := by
  simp only [al_m, idl, wI, am_up]
  repeat' split
  all_goals first | rfl | (exfalso; omega)
theorem at0_n {a : Nat} {z : Int} (h : a < 210 ∨ 216 < a) (h2 : a ≠ 259) : A (al_m idl) a z = 0 := by
  show ((al_m idl).1 a z.toNat).toInt = 0
  rw [at0, if_neg (by omega)]
  rfl
theorem at0_o {a : Nat} {z : Int} (h : a ≠ 259) (h2 : a ≠ 210 ∧ a ≠ 212 ∧ a ≠ 214 ∧ a ≠ 216) : A (al_m idl) a z = 0 := by
  show ((al_m idl).1 a z.toNat).toInt = 0
  rw [at0, if_neg (by omega)]
  rfl
theorem at0_s {a : Nat} (h : a = 210 ∨ a = 212 ∨ a = 214 ∨ a = 216) : A (al_m idl) a 0 = -1 ∧ A (al_m idl) a 1 = 0 := by
  refine ⟨?_, ?_⟩
  · show ((al_m idl).1 a (0 : Int).toNat).toInt = -1
    rw [at0, if_pos (Or.inr ⟨h, rfl⟩)]
    rfl
  · show ((al_m idl).1 a (1 : Int).toNat).toInt = 0
    rw [at0, if_neg (by
      have : (1 : Int).toNat = 1 := rfl
      omega)]
    rfl
theorem at0_9 {z : Int} (z0 : 0 ≤ z) (z1 : z < 4) : A (al_m idl) 259 z = -1 := by
  show ((al_m idl).1 259 z.toNat).toInt = -1
  rw [at0, if_pos (Or.inl ⟨rfl, by omega⟩)]
  rfl
theorem jt0 {a : Nat} {z : Int} : J (al_m idl) a z = 0 := by
  show ((al_m idl).2 a z.toNat).toInt = 0
  rfl
theorem inv0 : Inv (al_m idl) := by
  have z : ∀ (a : Nat) (k : Int), a < 210 ∨ 216 < a → a ≠ 259 → A (al_m idl) a k = 0 := fun a k h h2 => at0_n h h2
  have nj : nJ (al_m idl) = 0 := z 219 0 (by omega) (by omega)
  have nw : nW (al_m idl) = 0 := z 219 4 (by omega) (by omega)
  have nd : nD (al_m idl) = 0 := z 219 10 (by omega) (by omega)
  have td : toD (al_m idl) = 0 := z 219 14 (by omega) (by omega)
  have z219 : ∀ k : Int, A (al_m idl) 219 k = 0 := fun k => z 219 k (by omega) (by omega)
  have i1 : I1 (al_m idl) := by
    refine ⟨by rw [nj]; omega, by rw [nj]; exact z 1 3 (by omega) (by omega), fun j j0 j1 => ?_, fun i j a0 a1 => ?_⟩
    · rw [nj] at j1; omega
    · rw [nj] at a1; omega
  have i2 : I2 (al_m idl) := by
    refine ⟨by rw [nw]; omega, by rw [nw]; exact z 1 7 (by omega) (by omega), fun w w0 w1 => ?_, fun e e0 e1 => ?_⟩
    · rw [nw] at w1; omega
    · rw [nw] at e1; omega
  have i3 : I3 (al_m idl) := by
    intro j j0 j1
    have e : A (al_m idl) 17 j = 0 := z 17 j (by omega) (by omega)
    rw [e, nw]
    refine ⟨by omega, fun _ => rfl, fun k k0 k1 => by omega, fun k l k0 k1 l1 => by omega, fun e e0 e1 => by omega⟩
  have i4 : I4 (al_m idl) := by
    refine ⟨by rw [nd]; omega, by rw [nd]; exact z 1 14 (by omega) (by omega), fun d d0 d1 => ?_⟩
    rw [nd] at d1; omega
  have i5 : I5 (al_m idl) := by
    refine ⟨by rw [z219]; omega, by rw [z219]; exact z 18 4 (by omega) (by omega), fun k k0 k1 => ?_⟩
    rw [z219] at k1; omega
  have i6 : I6 (al_m idl) := by
    refine ⟨by rw [z219]; omega, by rw [z219]; exact z 18 9 (by omega) (by omega), fun k k0 k1 => ?_⟩
    rw [z219] at k1; omega
  have i7 : I7 (al_m idl) := by
    refine ⟨by rw [z219]; omega, by rw [z219]; exact z 18 16 (by omega) (by omega), fun k k0 k1 => ?_⟩
    rw [z219] at k1; omega
  have i8 : I8 (al_m idl) := by
    refine ⟨by rw [td]; omega, by rw [td]; exact z 18 0 (by omega) (by omega)⟩
  have i9 : I9 (al_m idl) := by
    refine ⟨fun p p0 p1 => ?_, fun t t0 t1 => ?_⟩
    · rw [z 250 p (by omega) (by omega)]; omega
    · rw [z 251 t (by omega) (by omega), z 252 t (by omega) (by omega)]; omega
  have i10 : I10 (al_m idl) := by
    refine ⟨by rw [z219, nj, nw, nd]; rfl, by rw [z219]; exact z 1 17 (by omega) (by omega), fun t t0 t1 => ?_⟩
    rw [z219] at t1; omega
  have i11 : I11 (al_m idl) := (z 0 19 (by omega) (by omega)).trans (z219 34).symm
  have i12 : I12 (al_m idl) := by
    refine ⟨by rw [z219]; omega, by rw [z219]; exact z 61 1 (by omega) (by omega), fun k k0 k1 => ?_⟩
    rw [z219] at k1; omega
  have i13 : I13 (al_m idl) := by
    refine ⟨by rw [z219]; omega, by rw [z219]; exact z 0 9 (by omega) (by omega), fun r r0 r1 => ?_⟩
    rw [z219] at r1; omega
  have z42 : A (al_m idl) 42 2 = 0 := z 42 2 (by omega) (by omega)
  have z45 : ∀ t : Int, A (al_m idl) 45 t = 0 := fun t => z 45 t (by omega) (by omega)
  have i14 : I14 (al_m idl) := by
    refine ⟨by rw [z42, z219]; omega, by rw [z219]; omega, ⟨fun l l0 l1 => ?_, fun t t0 t1 => ?_⟩, fun r r0 r1 => ?_⟩
    · rw [z42] at l1; omega
    · rw [z45, z42]
      exact ⟨by omega, fun h => absurd rfl h⟩
    · rw [z219] at r1; omega
  have i15 : I15 (al_m idl) := by
    refine ⟨by rw [z219]; omega, by rw [z219]; exact z 0 11 (by omega) (by omega), fun p p0 p1 => ?_, fun p p0 p1 => ⟨fun l l0 l1 => ⟨?_, ?_⟩, fun t t0 t1 => ⟨fun _ => ⟨?_, ?_⟩, fun h => ?_⟩⟩⟩
    · rw [z219] at p1; omega
    · exact z _ _ (by omega) (by omega)
    · exact z _ _ (by omega) (by omega)
    · exact z _ _ (by omega) (by omega)
    · exact z _ _ (by omega) (by omega)
    · exact absurd (z45 t) h
  have i16 : I16 (al_m idl) := by
    refine ⟨by rw [z219]; omega, by rw [z219]; exact z 0 13 (by omega) (by omega), fun r r0 r1 => ?_⟩
    rw [z219] at r1; omega
  have i17 : I17 (al_m idl) := by
    refine ⟨by rw [z219]; omega, by rw [z219]; exact z 0 15 (by omega) (by omega), fun r r0 r1 => ?_⟩
    rw [z219] at r1; omega
  have i18 : I18 (al_m idl) := by
    intro s s0 s1
    have hs : 210 + 2 * s.toNat = 210 ∨ 210 + 2 * s.toNat = 212 ∨ 210 + 2 * s.toNat = 214 ∨ 210 + 2 * s.toNat = 216 := by omega
    obtain ⟨a, b⟩ := at0_s hs
    unfold B18
    rw [a, b, at0_9 s0 s1, z 260 s (by omega) (by omega)]
    refine ⟨by omega, by omega, rfl, rfl, fun i i0 i1 => ?_⟩
    rw [z 261 _ (by omega) (by omega)]
    exact at0_o (by omega) (by omega)
  have i19 : I19 (al_m idl) := by
    refine ⟨by rw [z219]; omega, by rw [z219]; exact z 0 18 (by omega) (by omega), fun i i0 i1 => ?_⟩
    rw [z219] at i1; omega
  have im : Imk (al_m idl) := by
    have e : A (al_m idl) 32 6 = 0 := z 32 6 (by omega) (by omega)
    refine ⟨by rw [e]; omega, fun i i0 i1 => ?_, fun t t0 t1 => Or.inl (z 35 t (by omega) (by omega))⟩
    rw [e] at i1; omega
  have it : Itd (al_m idl) := by
    have e : ∀ k : Int, A (al_m idl) 66 k = 0 := fun k => z 66 k (by omega) (by omega)
    refine ⟨by rw [e]; omega, by rw [e, z219], fun i i0 i1 => ?_, by rw [e, jt0], by rw [e, jt0]⟩
    rw [e] at i1; omega
  exact ⟨i1, i2, i3, i4, i5, i6, i7, i8, i9, i10, i11, i12, i13, i14, i15, i16, i17, i18, i19, im, it⟩
end B0
