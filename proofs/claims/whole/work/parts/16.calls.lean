/-! what a method of the machine answers is what the method does -/
theorem am_hck : ∀ y : Nat, y < 275 → am_cks y = true := by
  intro y hy
  have key : ∀ (l : List Nat), l.all am_cks = true → ∀ a n : Nat, l = List.range' a n → a ≤ y → y < a + n → am_cks y = true := by
    intro l h a n e h1 h2
    exact List.all_eq_true.mp h y (by rw [e]; exact List.mem_range'_1.mpr ⟨h1, h2⟩)
  by_cases h0 : y < 12
  · exact key _ cks_0 0 12 rfl (by omega) (by omega)
  by_cases h1 : y < 24
  · exact key _ cks_1 12 12 rfl (by omega) (by omega)
  by_cases h2 : y < 36
  · exact key _ cks_2 24 12 rfl (by omega) (by omega)
  by_cases h3 : y < 48
  · exact key _ cks_3 36 12 rfl (by omega) (by omega)
  by_cases h4 : y < 60
  · exact key _ cks_4 48 12 rfl (by omega) (by omega)
  by_cases h5 : y < 72
  · exact key _ cks_5 60 12 rfl (by omega) (by omega)
  by_cases h6 : y < 84
  · exact key _ cks_6 72 12 rfl (by omega) (by omega)
  by_cases h7 : y < 96
  · exact key _ cks_7 84 12 rfl (by omega) (by omega)
  by_cases h8 : y < 108
  · exact key _ cks_8 96 12 rfl (by omega) (by omega)
  by_cases h9 : y < 120
  · exact key _ cks_9 108 12 rfl (by omega) (by omega)
  by_cases h10 : y < 132
  · exact key _ cks_10 120 12 rfl (by omega) (by omega)
  by_cases h11 : y < 144
  · exact key _ cks_11 132 12 rfl (by omega) (by omega)
  by_cases h12 : y < 156
  · exact key _ cks_12 144 12 rfl (by omega) (by omega)
  by_cases h13 : y < 168
  · exact key _ cks_13 156 12 rfl (by omega) (by omega)
  by_cases h14 : y < 180
  · exact key _ cks_14 168 12 rfl (by omega) (by omega)
  by_cases h15 : y < 192
  · exact key _ cks_15 180 12 rfl (by omega) (by omega)
  by_cases h16 : y < 204
  · exact key _ cks_16 192 12 rfl (by omega) (by omega)
  by_cases h17 : y < 216
  · exact key _ cks_17 204 12 rfl (by omega) (by omega)
  by_cases h18 : y < 228
  · exact key _ cks_18 216 12 rfl (by omega) (by omega)
  by_cases h19 : y < 240
  · exact key _ cks_19 228 12 rfl (by omega) (by omega)
  by_cases h20 : y < 252
  · exact key _ cks_20 240 12 rfl (by omega) (by omega)
  by_cases h21 : y < 264
  · exact key _ cks_21 252 12 rfl (by omega) (by omega)
  by_cases h22 : y < 275
  · exact key _ cks_22 264 11 rfl (by omega) (by omega)
  exact absurd hy (by omega)
theorem am_meth {l : Launch} {adr : Nat → Nat} {fv : Value} {B : Nat} {H0 : Heap} {D : va_G} {cA : Nat → ClassId} {g : am_G} (fv0 : fv = .null ∨ ∃ t, fv = .ref t) (hG : am_Gk adr B g) (hB : B ≤ H0.size) {y : Nat} {a : List Value} {M : am_M} {r : am_R} (hy : y < 275) (hw : am_wds a ≤ mL y) (h : am_F T0 g y 0 a [] M = some r) :
    Met l (mN y) (mws y) (mrm (mK y)) (am_Pc adr fv B H0 D cA g a M) (am_Qc adr fv B H0 D cA g r) 0 0 (fun q : Nat => B ≤ q) := by
  obtain ⟨N, hN⟩ := am_F_iff.mp h
  exact (am_fl_ok fv0 hG hB am_hck N).1 y a M r hy hw hN
