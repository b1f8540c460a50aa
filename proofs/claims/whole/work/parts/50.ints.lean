/-! NORMAL FORMS: ints as integers; a memory's cells read as integers; what is written -/
def iI (z : Int) : Int32 := Int32.ofInt z
def jI (z : Int) : Int64 := Int64.ofInt z
def A (M : am_M) (a : Nat) (z : Int) : Int := (M.1 a z.toNat).toInt
def J (M : am_M) (a : Nat) (z : Int) : Int := (M.2 a z.toNat).toInt
def W_ (M : am_M) (a : Nat) (z v : Int) : am_M := wI M a z.toNat (iI v)
def X_ (M : am_M) (a : Nat) (z v : Int) : am_M := wJ M a z.toNat (jI v)
noncomputable def bI (P : Prop) : Int := @ite _ P (Classical.propDecidable P) 1 0
theorem bI_t {P : Prop} (h : P) : bI P = 1 := if_pos h
theorem bI_f {P : Prop} (h : ¬ P) : bI P = 0 := if_neg h
theorem bI_0 {P : Prop} : (bI P = 0) = ¬ P := by
  by_cases h : P
  · rw [bI_t h]; simp [h]
  · rw [bI_f h]; simp [h]
theorem bI_1 {P : Prop} : (bI P = 1) = P := by
  by_cases h : P
  · rw [bI_t h]; simp [h]
  · rw [bI_f h]; simp [h]
theorem bI_01 {P : Prop} : bI P = 0 ∨ bI P = 1 := by
  by_cases h : P
  · exact Or.inr (bI_t h)
  · exact Or.inl (bI_f h)
theorem bI_cg {P Q : Prop} (h : P ↔ Q) : bI P = bI Q := by rw [propext h]
theorem iI_of (x : Int32) : iI x.toInt = x := Int32.ofInt_toInt x
theorem jI_of (x : Int64) : jI x.toInt = x := Int64.ofInt_toInt x
theorem iI_v {z : Int} (h1 : -2147483648 ≤ z) (h2 : z < 2147483648) : (iI z).toInt = z := Int32.toInt_ofInt_of_le h1 h2
theorem jI_v {z : Int} (h1 : -9223372036854775808 ≤ z) (h2 : z < 9223372036854775808) : (jI z).toInt = z := Int64.toInt_ofInt_of_le h1 h2
theorem A_lo (M : am_M) (a : Nat) (z : Int) : -2147483648 ≤ A M a z := Int32.le_toInt _
theorem A_hi (M : am_M) (a : Nat) (z : Int) : A M a z < 2147483648 := Int32.toInt_lt _
theorem J_lo (M : am_M) (a : Nat) (z : Int) : -9223372036854775808 ≤ J M a z := Int64.le_toInt _
theorem J_hi (M : am_M) (a : Nat) (z : Int) : J M a z < 9223372036854775808 := Int64.toInt_lt _
theorem iI_A (M : am_M) (a : Nat) (z : Int) : (iI (A M a z)).toInt = A M a z := by unfold A; rw [iI_of]
theorem jI_J (M : am_M) (a : Nat) (z : Int) : (jI (J M a z)).toInt = J M a z := by unfold J; rw [jI_of]
theorem iI_b {P : Prop} : (iI (bI P)).toInt = bI P := by rcases bI_01 (P := P) with h | h <;> rw [h] <;> rfl
theorem iI_n {z : Int} (h1 : -2147483648 ≤ z) (h2 : z < 2147483648) : (iI z).toNatClampNeg = z.toNat := Int32.toNatClampNeg_ofInt_of_le h1 h2
theorem iI_add (a b : Int) : iI a + iI b = iI (a + b) := (Int32.ofInt_add a b).symm
theorem iI_sub (a b : Int) : iI a - iI b = iI (a - b) := (Int32.ofInt_sub a b).symm
theorem iI_mul (a b : Int) : iI a * iI b = iI (a * b) := (Int32.ofInt_mul a b).symm
theorem iI_neg (a : Int) : -iI a = iI (-a) := (Int32.ofInt_neg a).symm
theorem jI_add (a b : Int) : jI a + jI b = jI (a + b) := (Int64.ofInt_add a b).symm
theorem jI_sub (a b : Int) : jI a - jI b = jI (a - b) := (Int64.ofInt_sub a b).symm
theorem jI_mul (a b : Int) : jI a * jI b = jI (a * b) := (Int64.ofInt_mul a b).symm
theorem jI_neg (a : Int) : -jI a = jI (-a) := (Int64.ofInt_neg a).symm
theorem i_0 : (0 : Int32) = iI 0 := rfl
theorem i_1 : (1 : Int32) = iI 1 := rfl
theorem j_0 : (0 : Int64) = jI 0 := rfl
theorem j_1 : (1 : Int64) = jI 1 := rfl
theorem i_n (n : Nat) : Int32.ofNat n = iI (n : Int) := rfl
theorem i_lit (n : Nat) : (@OfNat.ofNat Int32 n Int32.instOfNat) = iI (@OfNat.ofNat Int n instOfNat) := rfl
theorem j_lit (n : Nat) : (@OfNat.ofNat Int64 n Int64.instOfNat) = jI (@OfNat.ofNat Int n instOfNat) := rfl
theorem i_lt (x y : Int32) : (x < y) = (x.toInt < y.toInt) := propext Int32.lt_iff_toInt_lt
theorem i_le (x y : Int32) : (x ≤ y) = (x.toInt ≤ y.toInt) := propext Int32.le_iff_toInt_le
theorem i_eq (x y : Int32) : (x = y) = (x.toInt = y.toInt) := propext Int32.toInt_inj.symm
theorem j_lt (x y : Int64) : (x < y) = (x.toInt < y.toInt) := propext Int64.lt_iff_toInt_lt
theorem j_le (x y : Int64) : (x ≤ y) = (x.toInt ≤ y.toInt) := propext Int64.le_iff_toInt_le
theorem j_eq (x y : Int64) : (x = y) = (x.toInt = y.toInt) := propext Int64.toInt_inj.symm
theorem i_64 {z : Int} (h1 : -2147483648 ≤ z) (h2 : z < 2147483648) : (iI z).toInt64 = jI z := by
  apply Int64.toInt_inj.mp
  rw [Int32.toInt_toInt64, iI_v h1 h2, jI_v (by omega) (by omega)]
theorem i_64A (M : am_M) (a : Nat) (z : Int) : (iI (A M a z)).toInt64 = jI (A M a z) := i_64 (A_lo _ _ _) (A_hi _ _ _)
theorem j_32 (z : Int) : (jI z).toInt32 = iI z := by
  apply Int32.toInt_inj.mp
  rw [Int64.toInt_toInt32]
  show ((Int64.ofInt z).toInt).bmod (2 ^ 32) = (Int32.ofInt z).toInt
  rw [Int64.toInt_ofInt, Int32.toInt_ofInt]
  exact Int.bmod_bmod_of_dvd (by decide)
theorem lg_ofs (x y : Int64) : lg_cmp x y = if y.toInt < x.toInt then 1 else if x.toInt = y.toInt then 0 else -1 := by
  unfold lg_cmp
  simp only [GT.gt, j_lt, j_eq]
theorem lg_ge (x y : Int64) : (0 ≤ lg_cmp x y) = (y.toInt ≤ x.toInt) := by
  rw [lg_ofs]; apply propext
  split
  · exact ⟨fun _ => by omega, fun _ => by decide⟩
  · split
    · exact ⟨fun _ => by omega, fun _ => by decide⟩
    · exact ⟨fun q => absurd q (by decide), fun _ => by omega⟩
theorem lg_lt (x y : Int64) : (lg_cmp x y < 0) = (x.toInt < y.toInt) := by
  rw [lg_ofs]; apply propext
  split
  · exact ⟨fun q => absurd q (by decide), fun _ => by omega⟩
  · split
    · exact ⟨fun q => absurd q (by decide), fun _ => by omega⟩
    · exact ⟨fun _ => by omega, fun _ => by decide⟩
theorem lg_le (x y : Int64) : (lg_cmp x y ≤ 0) = (x.toInt ≤ y.toInt) := by
  rw [lg_ofs]; apply propext
  split
  · exact ⟨fun q => absurd q (by decide), fun _ => by omega⟩
  · split
    · exact ⟨fun _ => by omega, fun _ => by decide⟩
    · exact ⟨fun _ => by omega, fun _ => by decide⟩
theorem lg_gt (x y : Int64) : (0 < lg_cmp x y) = (y.toInt < x.toInt) := by
  rw [lg_ofs]; apply propext
  split
  · exact ⟨fun _ => by omega, fun _ => by decide⟩
  · split
    · exact ⟨fun q => absurd q (by decide), fun _ => by omega⟩
    · exact ⟨fun q => absurd q (by decide), fun _ => by omega⟩
theorem lg_eq (x y : Int64) : (lg_cmp x y = 0) = (x.toInt = y.toInt) := by
  rw [lg_ofs]; apply propext
  split
  · exact ⟨fun q => absurd q (by decide), fun _ => by omega⟩
  · split
    · exact ⟨fun _ => by omega, fun _ => by decide⟩
    · exact ⟨fun q => absurd q (by decide), fun _ => by omega⟩
theorem lq_ge (x y : Int64) : (0 ≤ (lg_cmp x y).toInt) = (y.toInt ≤ x.toInt) := by have h := lg_ge x y; rw [i_le] at h; exact h
theorem lq_lt (x y : Int64) : ((lg_cmp x y).toInt < 0) = (x.toInt < y.toInt) := by have h := lg_lt x y; rw [i_lt] at h; exact h
theorem lq_le (x y : Int64) : ((lg_cmp x y).toInt ≤ 0) = (x.toInt ≤ y.toInt) := by have h := lg_le x y; rw [i_le] at h; exact h
theorem lq_gt (x y : Int64) : (0 < (lg_cmp x y).toInt) = (y.toInt < x.toInt) := by have h := lg_gt x y; rw [i_lt] at h; exact h
theorem lq_eq (x y : Int64) : ((lg_cmp x y).toInt = 0) = (x.toInt = y.toInt) := by have h := lg_eq x y; rw [i_eq] at h; exact h
section Ev
variable {β : Type} {M : am_M}
theorem ok_n {n : Nat} {z : Int} {B : Option β} (h0 : 0 ≤ z) (h1 : z < n) (h2 : z < 2147483648) : am_ok n (iI z) B = B := by
  unfold am_ok
  rw [iI_n (by omega) h2]
  refine if_neg fun h => ?_
  rcases h with h | h
  · rw [i_lt, iI_v (by omega) h2] at h
    have e : (0 : Int32).toInt = 0 := rfl
    omega
  · omega
theorem rd_i {a : Nat} {z : Int} (h1 : -2147483648 ≤ z) (h2 : z < 2147483648) : rI M a (iI z).toNatClampNeg = iI (A M a z) := by
  rw [iI_n h1 h2]; exact (iI_of _).symm
theorem rd_j {a : Nat} {z : Int} (h1 : -2147483648 ≤ z) (h2 : z < 2147483648) : rJ M a (iI z).toNatClampNeg = jI (J M a z) := by
  rw [iI_n h1 h2]; exact (jI_of _).symm
theorem fd_i {a : Nat} {k : Int} : fI M a k = iI (A M a k) := (iI_of _).symm
theorem fd_j {a : Nat} {k : Int} : fJ M a k = jI (J M a k) := (jI_of _).symm
theorem wr_i {a : Nat} {z v : Int} (h1 : -2147483648 ≤ z) (h2 : z < 2147483648) : wI M a (iI z).toNatClampNeg (iI v) = W_ M a z v := by
  rw [iI_n h1 h2]; rfl
theorem wr_j {a : Nat} {z v : Int} (h1 : -2147483648 ≤ z) (h2 : z < 2147483648) : wJ M a (iI z).toNatClampNeg (jI v) = X_ M a z v := by
  rw [iI_n h1 h2]; rfl
theorem fw_i {a : Nat} {k v : Int} : fW M a k (iI v) = W_ M a k v := rfl
theorem fw_j {a : Nat} {k v : Int} : fX M a k (jI v) = X_ M a k v := rfl
theorem ci_s {x : Int32} {κ : Int32 → am_M → Option β} : am_ci (some (some (.int x), M)) κ = κ x M := rfl
theorem cj_s {x : Int64} {κ : Int64 → am_M → Option β} : am_cj (some (some (.long x), M)) κ = κ x M := rfl
theorem cv_s {κ : am_M → Option β} : am_cv (some (none, M)) κ = κ M := rfl
theorem ltm_s {f : am_M → Option β} : am_lt M f = f M := rfl
theorem dv_n {z : Int} {B : Option β} (h1 : -2147483648 ≤ z) (h2 : z < 2147483648) (h : z ≠ 0) : am_dv (iI z) B = B := by
  refine if_neg fun q => h ?_
  rw [i_eq, iI_v h1 h2] at q
  exact q
theorem dw_n {z : Int} {B : Option β} (h1 : -9223372036854775808 ≤ z) (h2 : z < 9223372036854775808) (h : z ≠ 0) : am_dw (jI z) B = B := by
  refine if_neg fun q => h ?_
  rw [j_eq, jI_v h1 h2] at q
  exact q
theorem rt_1 {x : Int32} : am_rt 1 x M = some (some (.int x), M) := rfl
theorem rt_b {P : Prop} : am_rt 2 (iI (bI P)) M = some (some (.int (iI (bI P))), M) := by
  rcases bI_01 (P := P) with h | h <;> rw [h] <;> rfl
theorem rt_20 : am_rt 2 (iI 0) M = some (some (.int (iI 0)), M) := rfl
theorem rt_21 : am_rt 2 (iI 1) M = some (some (.int (iI 1)), M) := rfl
theorem okb_0 {B : Option β} : okb (iI 0) B = B := rfl
theorem okb_1 {B : Option β} : okb (iI 1) B = B := rfl
theorem okb_b {P : Prop} {B : Option β} : okb (iI (bI P)) B = B := by
  rcases bI_01 (P := P) with h | h <;> rw [h] <;> rfl
theorem nar_0 : vp_nar .boolean (iI 0) = iI 0 := rfl
theorem nar_1 : vp_nar .boolean (iI 1) = iI 1 := rfl
theorem nar_b {P : Prop} : vp_nar .boolean (iI (bI P)) = iI (bI P) := by
  rcases bI_01 (P := P) with h | h <;> rw [h] <;> rfl
end Ev
-- reads of what was written
section Rd
variable {M : am_M}
theorem A_Wn {a b : Nat} {y z v : Int} (h : b ≠ a) : A (W_ M a y v) b z = A M b z := by
  show ((if b = a ∧ _ then _ else M.1 b z.toNat) : Int32).toInt = _
  rw [if_neg fun q => h q.1]; rfl
theorem A_Wo {a : Nat} {y z v : Int} (hy : 0 ≤ y) (hz : 0 ≤ z) (h : z ≠ y) : A (W_ M a y v) a z = A M a z := by
  show ((if a = a ∧ z.toNat = y.toNat then _ else M.1 a z.toNat) : Int32).toInt = _
  rw [if_neg fun q => h (by omega)]; rfl
theorem A_Ws {a : Nat} {y v : Int} (h1 : -2147483648 ≤ v) (h2 : v < 2147483648) : A (W_ M a y v) a y = v := by
  show ((if a = a ∧ y.toNat = y.toNat then iI v else M.1 a y.toNat) : Int32).toInt = _
  rw [if_pos ⟨rfl, rfl⟩, iI_v h1 h2]
theorem A_WA {N : am_M} {a b : Nat} {x y : Int} : A (W_ M a y (A N b x)) a y = A N b x := A_Ws (A_lo _ _ _) (A_hi _ _ _)
theorem A_Wb {a : Nat} {y : Int} {P : Prop} : A (W_ M a y (bI P)) a y = bI P := A_Ws (by rcases bI_01 (P := P) with h | h <;> omega) (by rcases bI_01 (P := P) with h | h <;> omega)
theorem A_X {a b : Nat} {y z v : Int} : A (X_ M a y v) b z = A M b z := rfl
theorem J_W {a b : Nat} {y z v : Int} : J (W_ M a y v) b z = J M b z := rfl
theorem J_Xn {a b : Nat} {y z v : Int} (h : b ≠ a) : J (X_ M a y v) b z = J M b z := by
  show ((if b = a ∧ _ then _ else M.2 b z.toNat) : Int64).toInt = _
  rw [if_neg fun q => h q.1]; rfl
theorem J_Xo {a : Nat} {y z v : Int} (hy : 0 ≤ y) (hz : 0 ≤ z) (h : z ≠ y) : J (X_ M a y v) a z = J M a z := by
  show ((if a = a ∧ z.toNat = y.toNat then _ else M.2 a z.toNat) : Int64).toInt = _
  rw [if_neg fun q => h (by omega)]; rfl
theorem J_Xs {a : Nat} {y v : Int} (h1 : -9223372036854775808 ≤ v) (h2 : v < 9223372036854775808) : J (X_ M a y v) a y = v := by
  show ((if a = a ∧ y.toNat = y.toNat then jI v else M.2 a y.toNat) : Int64).toInt = _
  rw [if_pos ⟨rfl, rfl⟩, jI_v h1 h2]
theorem J_XJ {N : am_M} {a b : Nat} {x y : Int} : J (X_ M a y (J N b x)) a y = J N b x := J_Xs (J_lo _ _ _) (J_hi _ _ _)
end Rd
-- bits of legs
theorem iI_nat {z : Int} (h0 : 0 ≤ z) : iI z = Int32.ofNat z.toNat := by
  rw [i_n, Int.toNat_of_nonneg h0]
theorem bits_1 : ∀ n : Nat, n < 256 → (Int32.ofNat n >>> ((1 : Int32) &&& 31) = Int32.ofNat (n / 2)) ∧ (Int32.ofNat n &&& 1 = Int32.ofNat (n % 2)) ∧ (Int32.ofNat n ^^^ 1 = Int32.ofNat (n + 1 - 2 * (n % 2))) := by decide +kernel
theorem sh_1 {z : Int} (h0 : 0 ≤ z) (h1 : z < 256) : iI z >>> (iI 1 &&& iI 31) = iI (z / 2) := by
  have h := (bits_1 z.toNat (by omega)).1
  rw [iI_nat h0]
  refine h.trans ?_
  rw [i_n]; congr 1; omega
theorem an_1 {z : Int} (h0 : 0 ≤ z) (h1 : z < 256) : iI z &&& iI 1 = iI (z % 2) := by
  have h := (bits_1 z.toNat (by omega)).2.1
  rw [iI_nat h0]
  refine h.trans ?_
  rw [i_n]; congr 1; omega
theorem xo_1 {z : Int} (h0 : 0 ≤ z) (h1 : z < 256) : iI z ^^^ iI 1 = iI (z + 1 - 2 * (z % 2)) := by
  have h := (bits_1 z.toNat (by omega)).2.2
  rw [iI_nat h0]
  refine h.trans ?_
  rw [i_n]; congr 1; omega
theorem di_p {a b : Int} (h0 : 0 ≤ a) (h1 : a < 2147483648) (h2 : 0 < b) (h3 : b < 2147483648) : iI a / iI b = iI (a / b) := by
  apply Int32.toInt_inj.mp
  have hq : a / b ≤ a := Int.ediv_le_self _ h0
  have hq0 : 0 ≤ a / b := Int.ediv_nonneg h0 (by omega)
  rw [Int32.toInt_div_of_ne_right _ _ (by
    intro q
    have := congrArg Int32.toInt q
    rw [iI_v (by omega) h3] at this
    have e : (-1 : Int32).toInt = -1 := rfl
    omega), iI_v (by omega) h1, iI_v (by omega) h3, iI_v (by omega) (by omega), Int.tdiv_eq_ediv_of_nonneg h0]
theorem dj_p {a b : Int} (h0 : 0 ≤ a) (h1 : a < 9223372036854775808) (h2 : 0 < b) (h3 : b < 9223372036854775808) : jI a / jI b = jI (a / b) := by
  apply Int64.toInt_inj.mp
  have hq : a / b ≤ a := Int.ediv_le_self _ h0
  have hq0 : 0 ≤ a / b := Int.ediv_nonneg h0 (by omega)
  rw [Int64.toInt_div_of_ne_right _ _ (by
    intro q
    have := congrArg Int64.toInt q
    rw [jI_v (by omega) h3] at this
    have e : (-1 : Int64).toInt = -1 := rfl
    omega), jI_v (by omega) h1, jI_v (by omega) h3, jI_v (by omega) (by omega), Int.tdiv_eq_ediv_of_nonneg h0]
