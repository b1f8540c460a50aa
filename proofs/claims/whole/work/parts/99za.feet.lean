/-! LEAST FEET: the class's costs, by feet first, cut to feet, are what the model lets down -/
section Fl
variable {N : Nat} {may : Int → Int → Prop} {Gl : Int → Prop}
theorem Bel.fl {d p o c : Int → Int} (hp : ∀ f : Int, 0 ≤ f → f < N → 0 ≤ p f ∧ p f ≤ 10000) (hd : ∀ f : Int, 0 ≤ d f ∧ d f ≤ 10000) (ho : ∀ f : Int, 0 ≤ f → f < N → 0 ≤ o f ∧ o f ≤ 20000) (hb : ∀ e : Int, 0 ≤ e → e < N → c e ≠ FARC → c e ≤ 7000000000000000 ∧ c e % 4294967296 ≤ 1620000) (h : Bel N may Gl (fun f => d f * 4294967296 + 0) (fun f => p f * 4294967296 + o f) c) : Bel N may Gl (fun f => d f * 4294967296 + 0) (fun f => p f * 4294967296 + 0) (fun e => if c e = FARC then FARC else c e / 4294967296 * 4294967296) := by
  have eF : FARC = 9223372036854775807 := rfl
  obtain ⟨h1, h2, h3, h4⟩ := h
  refine ⟨fun e e0 e1 => ?_, fun e f e0 e1 f0 f1 hm hg => ?_, fun e f e0 e1 f0 f1 hm hf => ?_, fun e e0 e1 he => ?_⟩
  · dsimp only
    by_cases q : c e = FARC
    · exact Or.inl (if_pos q)
    · have a := hb e e0 e1 q
      have b := (h1 e e0 e1).resolve_left q
      rw [if_neg q]; right; omega
  · have a := h2 e f e0 e1 f0 f1 hm hg
    have b := hd f
    have r := h1 e e0 e1
    dsimp only at a ⊢
    have ne : c e ≠ FARC := by omega
    rw [if_neg ne]; omega
  · have q : c f ≠ FARC := fun q => hf (if_pos q)
    have a := h3 e f e0 e1 f0 f1 hm q
    have b := hb f f0 f1 q
    have x := hp f f0 f1
    have y := ho f f0 f1
    have r := h1 e e0 e1
    dsimp only at a ⊢
    have ne : c e ≠ FARC := by omega
    rw [if_neg ne, if_neg q]; omega
  · have ne : c e ≠ FARC := fun q => he (if_pos q)
    obtain ⟨f, f0, f1, hm, hq⟩ := h4 e e0 e1 ne
    refine ⟨f, f0, f1, hm, ?_⟩
    dsimp only at hq ⊢
    rw [if_neg ne]
    rcases hq with ⟨hg, e'⟩ | ⟨hf, e'⟩
    · exact Or.inl ⟨hg, by omega⟩
    · have b := hb f f0 f1 hf
      have x := hp f f0 f1
      have y := ho f f0 f1
      have r := (h1 f f0 f1).resolve_left hf
      rw [if_neg hf]
      exact Or.inr ⟨by omega, by omega⟩
end Fl
section Fe
variable {M0 M N : am_M} {g : am_G} {F : am_FT}
theorem feet_eq (h1 : I1 M0) (h2 : I2 M0) (h4 : I4 M0) {md : Int × Int × Int × Int} (u0 : 0 ≤ md.2.2.1) (u1 : md.2.2.1 < 24) {a b : Int} (a0 : 0 ≤ a) (a1 : a < nD M0) (b0 : 0 ≤ b) (b1 : b < nD M0) {c : Int → Int} (B1 : Bel (2 * nW M0).toNat (may M0 md) (gol M0 b) (gkk M0 1 b) (wkk M0 1 a b md.2.2.1) c) (hb : ∀ e : Int, 0 ≤ e → e < 2 * nW M0 → c e ≠ FARC → c e ≤ 7000000000000000 ∧ c e % 4294967296 ≤ 1620000) (hz : ∀ e : Int, ofv M0 N e = 0) (hc : cset N) (hL : MLab M0 md 1 b N) (B2 : Bel (2 * nW M0).toNat (may M0 md) (gol M0 b) (gkk M0 1 b) (fun f => key 1 (ofv M0 N f) (prc M0 (f / 2) md.2.2.1)) (mcl M0 1 N)) {e : Int} (e0 : 0 ≤ e) (e1 : e < 2 * nW M0) :
    (c e = FARC ∧ J N 262 e = 1000000000000) ∨ (c e ≠ FARC ∧ J N 262 e < 1000000000000 ∧ (0 ≤ c e / 4294967296 ∧ c e / 4294967296 ≤ 200000) ∧ J N 263 e = c e / 4294967296) := by
  have eF : FARC = 9223372036854775807 := rfl
  have hn := h2.1
  have eN : (((2 * nW M0).toNat : Nat) : Int) = 2 * nW M0 := by omega
  have eg : gkk M0 1 b = fun f => tdr M0 b f * 4294967296 + 0 := by
    funext f
    unfold gkk key
    rw [if_neg (by omega)]
  have ew : wkk M0 1 a b md.2.2.1 = fun f => prc M0 (f / 2) md.2.2.1 * 4294967296 + offs M0 a b f := by
    funext f
    unfold wkk key
    rw [if_neg (by omega)]
  have em : (fun f => key 1 (ofv M0 N f) (prc M0 (f / 2) md.2.2.1)) = fun f => prc M0 (f / 2) md.2.2.1 * 4294967296 + 0 := by
    funext f
    unfold key
    rw [if_neg (by omega), hz]
  rw [eg, ew] at B1
  rw [eg, em] at B2
  have F1 := Bel.fl (fun f f0 f1 => by
    have := prc_r h2 (w := f / 2) (by omega) (by omega) u0 u1
    omega) (fun f => by
    have := tdr_r h2 h4 (f := f) b0 b1
    omega) (fun f f0 f1 => by
    have he := en_r h2 (e := f) (by omega) (by omega)
    exact strg_r h1 h2 h4 a0 a1 b0 b1 he.1 he.2) (fun f f0 f1 => hb f f0 (by omega)) B1
  have hq := Bel.eq (fun f f0 f1 => by
    have := prc_r h2 (w := f / 2) (by omega) (by omega) u0 u1
    omega) F1 B2 e0 (by omega)
  have R := m_Lrg (md := md) h1 h2 h4 hc u0 u1 b0 b1
  have r := Lab.r R hL e0 (by omega)
  have rc := B1.1 e e0 (by omega)
  have hbe := hb e e0 e1
  have ez := hz e
  have em2 : mcl M0 1 N e = cl 1 (ofv M0 N) (J N 262) (J N 263) e := rfl
  rw [em2] at hq
  rcases r with ⟨r1, r2, r3⟩ | ⟨r1, r2, r3, r4⟩
  · left
    by_cases q : c e = FARC
    · exact ⟨q, r1⟩
    · have := hbe q
      rw [if_neg q, r3] at hq
      omega
  · right
    have ek : key 1 (J N 262 e - ofv M0 N e) (J N 263 e) = J N 263 e * 4294967296 + (J N 262 e - ofv M0 N e) := by
      unfold key
      rw [if_neg (by omega)]
    by_cases q : c e = FARC
    · rw [if_pos q] at hq
      omega
    · rw [if_neg q, r3, ek] at hq
      refine ⟨q, by omega, by omega, by omega⟩
theorem sar_ {x : Int64} (n : Nat) (hc : ((jI 32 &&& jI 63).toBitVec.smod 64).toNat = n) : (x >>> (jI 32 &&& jI 63)).toInt = x.toInt / ((2 ^ n : Nat) : Int) := by
  have e1 : (x >>> (jI 32 &&& jI 63)).toBitVec = x.toBitVec.sshiftRight n := by
    rw [← hc]; rfl
  show (x >>> (jI 32 &&& jI 63)).toBitVec.toInt = x.toBitVec.toInt / ((2 ^ n : Nat) : Int)
  rw [e1, BitVec.toInt_sshiftRight, Int.shiftRight_eq_div_pow]
theorem sar {z : Int} (z0 : 0 ≤ z) (z1 : z < 9223372036854775808) : jI z >>> (jI 32 &&& jI 63) = jI (z / 4294967296) := by
  apply Int64.toInt_inj.mp
  rw [sar_ 32 (by decide), jI_v (by omega) z1, jI_v (by omega) (by omega)]
  rfl
theorem ch_ag {W : List Nat} (h : Ch W [] M N) (hs : W.all stN = true) : Ag M N := fun a k hk => by
  have ha : a ∉ W := fun q => by
    have := stN_b (List.all_eq_true.mp hs a q) k
    rw [this] at hk
    cases hk
  have hj : jx a k = false := by
    unfold jx
    by_cases q : a = 219
    · by_cases q2 : 75 ≤ k
      · exfalso
        subst q
        have e : stb 219 k = false := by
          have e1 : Nat.blt k 56 = false := by
            cases hb : Nat.blt k 56 with
            | false => rfl
            | true => have := Nat.le_of_ble_eq_true hb; omega
          unfold stb
          rw [e1]; rfl
        rw [e] at hk
        cases hk
      · have e1 : Nat.ble 75 k = false := by
          cases hb : Nat.ble 75 k with
          | false => rfl
          | true => have := Nat.le_of_ble_eq_true hb; omega
        rw [e1, Bool.and_false]
    · have e1 : Nat.beq a 219 = false := by
        cases hb : Nat.beq a 219 with
        | false => rfl
        | true => have := Nat.eq_of_beq_eq_true hb; omega
      rw [e1]; rfl
  have c := h a k ha (fun q => by cases q)
  exact ⟨c.1, c.2 hj⟩
end Fe
