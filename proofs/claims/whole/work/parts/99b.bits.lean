/-! BITS of a set -/
theorem shr_ {x : Int32} {c : Int} (n : Nat) (hc : ((iI c &&& iI 31).toBitVec.smod 32).toNat = n) : (x >>> (iI c &&& iI 31)).toInt = x.toInt / ((2 ^ n : Nat) : Int) := by
  have e1 : (x >>> (iI c &&& iI 31)).toBitVec = x.toBitVec.sshiftRight n := by
    rw [← hc]; rfl
  show (x >>> (iI c &&& iI 31)).toBitVec.toInt = x.toBitVec.toInt / ((2 ^ n : Nat) : Int)
  rw [e1, BitVec.toInt_sshiftRight, Int.shiftRight_eq_div_pow]
def p2 (c : Int) : Int := ((2 ^ c.toNat : Nat) : Int)
theorem shr {s c : Int} (s1 : -2147483648 ≤ s) (s2 : s < 2147483648) (c0 : 0 ≤ c) (c1 : c ≤ 12) : (iI s >>> (iI c &&& iI 31)).toInt = s / p2 c := by
  have hc : c = 0 ∨ c = 1 ∨ c = 2 ∨ c = 3 ∨ c = 4 ∨ c = 5 ∨ c = 6 ∨ c = 7 ∨ c = 8 ∨ c = 9 ∨ c = 10 ∨ c = 11 ∨ c = 12 := by omega
  have e : ((iI c &&& iI 31).toBitVec.smod 32).toNat = c.toNat := by
    rcases hc with rfl | rfl | rfl | rfl | rfl | rfl | rfl | rfl | rfl | rfl | rfl | rfl | rfl <;> decide
  rw [shr_ c.toNat e, iI_v s1 s2]
  rfl
theorem p2_v {c : Int} (c0 : 0 ≤ c) (c1 : c ≤ 12) : 1 ≤ p2 c ∧ p2 c ≤ 4096 := by
  have hc : c = 0 ∨ c = 1 ∨ c = 2 ∨ c = 3 ∨ c = 4 ∨ c = 5 ∨ c = 6 ∨ c = 7 ∨ c = 8 ∨ c = 9 ∨ c = 10 ∨ c = 11 ∨ c = 12 := by omega
  rcases hc with rfl | rfl | rfl | rfl | rfl | rfl | rfl | rfl | rfl | rfl | rfl | rfl | rfl <;> decide
theorem shl {c : Int} (c0 : 0 ≤ c) (c1 : c ≤ 12) : ((iI 1) <<< (iI c &&& iI 31)) = iI (p2 c) := by
  have hc : c = 0 ∨ c = 1 ∨ c = 2 ∨ c = 3 ∨ c = 4 ∨ c = 5 ∨ c = 6 ∨ c = 7 ∨ c = 8 ∨ c = 9 ∨ c = 10 ∨ c = 11 ∨ c = 12 := by omega
  rcases hc with rfl | rfl | rfl | rfl | rfl | rfl | rfl | rfl | rfl | rfl | rfl | rfl | rfl <;> decide
theorem shr_0 {s c : Int} (s1 : -2147483648 ≤ s) (s2 : s < 2147483648) (c0 : 0 ≤ c) (c1 : c ≤ 12) : s / p2 c = 0 ↔ 0 ≤ s ∧ s < p2 c := by
  have h := p2_v c0 c1
  constructor
  · intro e
    have := Int.emod_add_mul_ediv s (p2 c)
    rw [e] at this
    have a := Int.emod_nonneg s (show p2 c ≠ 0 by omega)
    have b := Int.emod_lt_of_pos s (show 0 < p2 c by omega)
    omega
  · intro ⟨a, b⟩
    exact Int.ediv_eq_zero_of_lt a b
theorem bt_i {x i : Int} : ((iI x >>> (iI i &&& iI 31)) &&& iI 1) = iI (bt x i) := (iI_of _).symm
theorem bt_01 {x i : Int} : bt x i = 0 ∨ bt x i = 1 := by
  have h : ∀ y : Int32, (y &&& 1).toInt = 0 ∨ (y &&& 1).toInt = 1 := fun y => by
    have hm : (y.toBitVec &&& 1#32).toNat = y.toBitVec.toNat % 2 := by
      rw [BitVec.toNat_and]
      exact Nat.and_two_pow_sub_one_eq_mod _ 1
    have e : (y &&& 1).toInt = ((y.toBitVec &&& 1#32).toNat : Int) := by
      show (y.toBitVec &&& 1#32).toInt = _
      exact BitVec.toInt_eq_toNat_of_lt (by omega)
    omega
  exact h _
/-- how many of the first n bits are set -/
def pcs (s : Int) : Nat → Int
  | 0 => 0
  | n + 1 => pcs s n + bt s n
theorem pcs_r {s : Int} : ∀ n : Nat, 0 ≤ pcs s n ∧ pcs s n ≤ n
  | 0 => ⟨Int.le_refl _, Int.le_refl _⟩
  | n + 1 => by
    have h := pcs_r (s := s) n
    have b := bt_01 (x := s) (i := (n : Int))
    have e : pcs s (n + 1) = pcs s n + bt s n := rfl
    omega
theorem pcs_ex {s : Int} : ∀ n : Nat, 1 ≤ pcs s n → ∃ p : Int, 0 ≤ p ∧ p < (n : Int) ∧ bt s p = 1
  | 0, h => by
    have e : pcs s 0 = 0 := rfl
    omega
  | n + 1, h => by
    have e : pcs s (n + 1) = pcs s n + bt s n := rfl
    rcases bt_01 (x := s) (i := (n : Int)) with b | b
    · obtain ⟨p, p0, p1, p2⟩ := pcs_ex (s := s) n (by omega)
      exact ⟨p, p0, by omega, p2⟩
    · exact ⟨n, by omega, by omega, b⟩
theorem pcs_n : ∀ s : Nat, s < 1024 → ∀ n : Nat, n < 11 → s < 2 ^ n → pcs (s : Int) n = pcs (s : Int) 10 ∧ (0 < s → 1 ≤ pcs (s : Int) 10) := by decide +kernel
section Bc
variable {M : am_M} {g : am_G} {F : am_FT}
theorem c_bitCount_n (hF : F = am_F T0 g) (hg : GG g) (n : Nat) (h : n < 1024) : F 22 0 [.int (Int32.ofNat n)] [] M = some (some (.int (iI (pcs (n : Int) 10))), M) := by
  refine s_JInteger_bitCount hF hg ?_
  rw [rt_1]
  refine congrArg (fun x => some (some (Value.int x), M)) ?_
  clear hF hg
  revert n
  decide +kernel
theorem c_bitCount (hF : F = am_F T0 g) (hg : GG g) {s : Int} (s0 : 0 ≤ s) (s1 : s < 1024) : F 22 0 [.int (iI s)] [] M = some (some (.int (iI (pcs s 10))), M) := by
  have h := c_bitCount_n hF hg (M := M) s.toNat (by omega)
  rw [← iI_nat s0, Int.toNat_of_nonneg s0] at h
  exact h
theorem pcs_eq {s : Int} {n : Nat} (s0 : 0 ≤ s) (hn : n ≤ 10) (h : s < p2 n) : pcs s n = pcs s 10 ∧ (0 < s → 1 ≤ pcs s 10) := by
  have e : p2 (n : Int) = ((2 ^ n : Nat) : Int) := by unfold p2; rw [Int.toNat_natCast]
  have h2 := p2_v (c := (n : Int)) (by omega) (by omega)
  have hle : (2 : Nat) ^ n ≤ 2 ^ 10 := Nat.pow_le_pow_right (by omega) hn
  have e10 : (2 : Nat) ^ 10 = 1024 := rfl
  have k := pcs_n s.toNat (by omega) n (by omega) (by omega)
  rw [Int.toNat_of_nonneg s0] at k
  exact ⟨k.1, fun q => k.2 (by omega)⟩
end Bc
