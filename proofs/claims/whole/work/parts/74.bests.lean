/-! BEST, by both -/
section Bs
variable {M0 M M' : am_M} {g : am_G} {F : am_FT}
theorem rok_66 (hg : GG g) : rok g 66 := ⟨rt_66 hg, by decide, rfl, rfl⟩
theorem c_real (hF : F = am_F T0 g) (hg : GG g) (hA : Ag M0 M) (h1 : I1 M0) (h2 : I2 M0) (h3 : I3 M0) (h4 : I4 M0) (h6 : I6 M0) (h7 : I7 M0) (hm : Imk M) {day hour kn by_ a b : Int} (hb01 : by_ = 0 ∨ by_ = 1) (d0 : 0 ≤ day) (d1 : day < 300) (u0 : 0 ≤ hour) (u1 : hour < 24) (k0 : 0 ≤ kn) (k1 : kn < 300) (a0 : 0 ≤ a) (a1 : a < nD M0) (b0 : 0 ≤ b) (b1 : b < nD M0) :
    ∃ (M1 M2 : am_M) (L : Int) (C : Int → Int), F 218 0 [.ref 32, .int (iI day), .int (iI hour), .int (iI kn)] [] M = some (none, M1) ∧ F 217 0 [.ref 32, .ref 66, .int (iI a), .int (iI b), .int (iI by_)] [] M1 = some (some (.int (iI L)), M2) ∧ Ke [32, 33, 34, 35, 36, 37, 38, 39, 40, 41, 66, 67] M M2 ∧ Fnd M0 (-1, day, hour, kn) by_ a b C 66 M1 M2 L := by
  obtain ⟨M1, p1, k1, s1, -⟩ := c_setCity hF hg hA h2 h6 h7 hm d0 d1 u0 u1 k0 k1
  obtain ⟨M2, L, C, p2, f2⟩ := c_findBest hF hg (rok_66 hg) (hA.trans (k1.ag (by decide))) h1 h2 h3 h4 hb01 u0 u1 a0 a1 b0 b1 s1
  exact ⟨M1, M2, L, C, p1, p2, (k1.mono (by decide)).trans (f2.1.mono (by decide)), f2⟩
theorem m_real (hF : F = am_F T0 g) (hg : GG g) (hA : Ag M0 M) (h1 : I1 M0) (h2 : I2 M0) (h3 : I3 M0) (h4 : I4 M0) (h6 : I6 M0) (h7 : I7 M0) (h8 : I8 M0) (h9 : I9 M0) (hp : 0 ≤ A M0 219 41) {day hour kn by_ a b : Int} {C : Int → Int} (hb01 : by_ = 0 ∨ by_ = 1) (d0 : 0 ≤ day) (d1 : day < 300) (u0 : 0 ≤ hour) (u1 : hour < 24) (k0 : 0 ≤ kn) (k1 : kn < 300) (a0 : 0 ≤ a) (a1 : a < nD M0) (b0 : 0 ≤ b) (b1 : b < nD M0) (hC : Cok M0 (-1, day, hour, kn) by_ a b C) :
    ∃ (M1 M2 M3 : am_M) (L : Int), F 43 0 [.ref 219, .int (iI day), .int (iI hour), .int (iI kn), .int (iI by_)] [] M = some (none, M1) ∧ F 260 0 [.ref 219, .int (iI a), .int (iI b)] [] M1 = some (none, M2) ∧ F 62 0 [.ref 219] [] M2 = some (some (.int (iI L)), M3) ∧ Ke [219, 262, 263, 264, 265] M M3 ∧ Ag M0 M3 ∧
      rsp M0 (-1, day, hour, kn) by_ a b C L (A M2 264) ∧ (0 ≤ L ∧ L ≤ 80) ∧ (∀ i : Int, 0 ≤ i → i < L → A M3 265 i = A M2 264 i) ∧ A M3 219 72 = L ∧
      (bvl M0 (-1, day, hour, kn) by_ a b C = FARC → J M3 219 73 = -1 ∧ J M3 219 74 = -1) ∧
      (bvl M0 (-1, day, hour, kn) by_ a b C ≠ FARC → (0 ≤ J M3 219 73 ∧ J M3 219 73 ≤ 4000000) ∧ (0 ≤ J M3 219 74 ∧ J M3 219 74 ≤ 4000000) ∧ key by_ (J M3 219 73) (J M3 219 74) = bvl M0 (-1, day, hour, kn) by_ a b C) ∧
      ∀ z : Int, 75 ≤ z → A M3 219 z = A M 219 z := by
  have hn := h2.1
  have p1 := m_asReal (M := M) hF hg (d := day) (h := hour) (k := kn) (b := by_)
  have K1 : Ke [219] M (W_ (W_ (W_ (W_ (W_ M 219 56 (-1)) 219 57 day) 219 58 hour) 219 59 kn) 219 60 by_) := ((((Ke.refl.w (by simp)).w (by simp)).w (by simp)).w (by simp)).w (by simp)
  have A1 : Ag M0 (W_ (W_ (W_ (W_ (W_ M 219 56 (-1)) 219 57 day) 219 58 hour) 219 59 kn) 219 60 by_) := ((((hA.w rfl).w rfl).w rfl).w rfl).w rfl
  have hs : mset (-1, day, hour, kn) (W_ (W_ (W_ (W_ (W_ M 219 56 (-1)) 219 57 day) 219 58 hour) 219 59 kn) 219 60 by_) := by
    refine ⟨?_, fun _ => ⟨?_, ?_⟩, ?_⟩
    · rw [A_Wo (by omega) (by omega) (by omega), A_Wo (by omega) (by omega) (by omega), A_Wo (by omega) (by omega) (by omega), A_Wo (by omega) (by omega) (by omega), A_Ws (by omega) (by omega)]
    · rw [A_Wo (by omega) (by omega) (by omega), A_Wo (by omega) (by omega) (by omega), A_Wo (by omega) (by omega) (by omega), A_Ws (by omega) (by omega)]
    · rw [A_Wo (by omega) (by omega) (by omega), A_Ws (by omega) (by omega)]
    · rw [A_Wo (by omega) (by omega) (by omega), A_Wo (by omega) (by omega) (by omega), A_Ws (by omega) (by omega)]
  have hby : A (W_ (W_ (W_ (W_ (W_ M 219 56 (-1)) 219 57 day) 219 58 hour) 219 59 kn) 219 60 by_) 219 60 = by_ := A_Ws (by omega) (by omega)
  have fo : ∀ z : Int, 75 ≤ z → A (W_ (W_ (W_ (W_ (W_ M 219 56 (-1)) 219 57 day) 219 58 hour) 219 59 kn) 219 60 by_) 219 z = A M 219 z := fun z z0 => by
    rw [A_Wo (by omega) (by omega) (by omega), A_Wo (by omega) (by omega) (by omega), A_Wo (by omega) (by omega) (by omega), A_Wo (by omega) (by omega) (by omega), A_Wo (by omega) (by omega) (by omega)]
  have hmk : mok M0 (-1, day, hour, kn) := ⟨⟨Int.le_refl _, by show (-1 : Int) < _; omega, by show (-1 : Int) < 4; omega⟩, fun _ => ⟨⟨d0, d1⟩, k0, k1⟩, u0, u1⟩
  obtain ⟨M2, p2, k2, a2, r2, t2, v2, o2, -⟩ := m_search hF hg A1 h1 h2 h3 h4 h6 h7 h8 h9 hmk hb01 a0 a1 b0 b1 hC hs hby
  have hL := rsp_len hn r2
  obtain ⟨M3, p3, A3, k3, l3, e72, e73, e74, o3, -⟩ := m_tells hF hg a2 hL.1 hL.2 rfl
  refine ⟨_, M2, M3, A M2 219 64, p1, p2, p3, (K1.mono (by decide)).trans ((k2.mono (by decide)).trans (k3.mono (by decide))), A3, r2, hL, l3, e72, fun q => by rw [e73, e74]; exact t2 q, fun q => by rw [e73, e74]; exact v2 q, fun z z0 => by rw [o3 z (by omega) (by omega), o2 z (by omega) (by omega) (by omega), fo z z0]⟩
/-- what was last found and told -/
def Itd (M : am_M) : Prop := (0 ≤ A M 66 5 ∧ A M 66 5 ≤ 80) ∧ A M 219 72 = A M 66 5 ∧ (∀ i : Int, 0 ≤ i → i < A M 66 5 → A M 265 i = A M 67 i) ∧ J M 219 73 = A M 66 6 ∧ J M 219 74 = A M 66 7
/-- what both bests keep -/
def Kbs (M M' : am_M) : Prop := Ag M M' ∧ Imk M' ∧ Itd M' ∧ Ke [32, 33, 34, 35, 36, 37, 38, 39, 40, 41, 66, 67, 219, 262, 263, 264, 265] M M' ∧ ∀ z : Int, 75 ≤ z → A M' 219 z = A M 219 z
theorem b_real (hF : F = am_F T0 g) (hg : GG g) (h1 : I1 M) (h2 : I2 M) (h3 : I3 M) (h4 : I4 M) (h6 : I6 M) (h7 : I7 M) (h8 : I8 M) (h9 : I9 M) (hp : 0 ≤ A M 219 41) (hm : Imk M) {day hour kn by_ a b : Int} (hb01 : by_ = 0 ∨ by_ = 1) (d0 : 0 ≤ day) (d1 : day < 300) (u0 : 0 ≤ hour) (u1 : hour < 24) (k0 : 0 ≤ kn) (k1 : kn < 300) (a0 : 0 ≤ a) (a1 : a < nD M) (b0 : 0 ≤ b) (b1 : b < nD M) :
    ∃ (M1 M2 M3 M4 M5 : am_M) (L : Int), F 218 0 [.ref 32, .int (iI day), .int (iI hour), .int (iI kn)] [] M = some (none, M1) ∧ F 217 0 [.ref 32, .ref 66, .int (iI a), .int (iI b), .int (iI by_)] [] M1 = some (some (.int (iI L)), M2) ∧ Ag M M2 ∧
      F 43 0 [.ref 219, .int (iI day), .int (iI hour), .int (iI kn), .int (iI by_)] [] M2 = some (none, M3) ∧ F 260 0 [.ref 219, .int (iI a), .int (iI b)] [] M3 = some (none, M4) ∧ F 62 0 [.ref 219] [] M4 = some (some (.int (iI L)), M5) ∧ Kbs M M5 := by
  have hn := h2.1
  obtain ⟨M1, M2, L, C, p1, p2, k2, f1, f2, f3, f4, f5, f6, f7, -⟩ := c_real hF hg (Ag.refl M) h1 h2 h3 h4 h6 h7 hm hb01 d0 d1 u0 u1 k0 k1 a0 a1 b0 b1
  have A2 : Ag M M2 := k2.ag (by decide)
  obtain ⟨M3, M4, M5, L', q1, q2, q3, q4, q5, q6, q7, q8, q9, q10, q11, q12⟩ := m_real hF hg A2 h1 h2 h3 h4 h6 h7 h8 h9 hp hb01 d0 d1 u0 u1 k0 k1 a0 a1 b0 b1 f3
  obtain ⟨e1, e2⟩ := rsp_u f5 q6
  subst e1
  have x66 : ∀ z : Int, A M5 66 z = A M2 66 z := fun z => q4.a (by decide)
  have x67 : ∀ z : Int, A M5 67 z = A M2 67 z := fun z => q4.a (by decide)
  refine ⟨M1, M2, M3, M4, M5, L, p1, p2, A2, q1, q2, q3, q5, ?_, ⟨?_, ?_, ?_, ?_, ?_⟩, (k2.mono (by decide)).trans (q4.mono (by decide)), fun z z0 => by rw [q12 z z0, k2.a (by decide)]⟩
  · unfold Imk
    simp only [q4.a (a := 32) (by decide), q4.a (a := 35) (by decide), q4.a (a := 36) (by decide)]
    exact f2.1
  · rw [x66, f4]; exact q7
  · rw [x66, f4]; exact q9
  · intro i i0 i1
    rw [x66, f4] at i1
    rw [q8 i i0 i1, x67]
    exact (e2 i i0 i1).symm
  · rw [x66]
    by_cases q : bvl M (-1, day, hour, kn) by_ a b C = FARC
    · rw [(q10 q).1, (f6 q).1]
    · obtain ⟨r1, r2, r3⟩ := q11 q
      obtain ⟨s1, s2, s3⟩ := f7 q
      exact ((key_inj r1.1 r1.2 r2.1 r2.2 s1.1 s1.2 s2.1 s2.2).mp (r3.trans s3.symm)).1
  · rw [x66]
    by_cases q : bvl M (-1, day, hour, kn) by_ a b C = FARC
    · rw [(q10 q).2, (f6 q).2]
    · obtain ⟨r1, r2, r3⟩ := q11 q
      obtain ⟨s1, s2, s3⟩ := f7 q
      exact ((key_inj r1.1 r1.2 r2.1 r2.2 s1.1 s1.2 s2.1 s2.2).mp (r3.trans s3.symm)).2
end Bs
