/-! THE N-TH RUN of a set -/
theorem pcs_nth {s q : Int} (q0 : 0 ≤ q) : ∀ n : Nat, q < pcs s n → ∃ r : Int, 0 ≤ r ∧ r < (n : Int) ∧ bt s r = 1 ∧ pcs s r.toNat = q
  | 0, h => by
    have e : pcs s 0 = 0 := rfl
    omega
  | n + 1, h => by
    have e : pcs s (n + 1) = pcs s n + bt s n := rfl
    have b := bt_01 (x := s) (i := (n : Int))
    by_cases c : q < pcs s n
    · obtain ⟨r, r0, r1, r2, r3⟩ := pcs_nth q0 n c
      exact ⟨r, r0, by omega, r2, r3⟩
    · exact ⟨n, by omega, by omega, by omega, by rw [Int.toNat_natCast]; omega⟩
/-- what both keep of a set is the same -/
theorem nth_eq {s m q x y : Int} {n : Nat} {M N : am_M} (hm : pcs s n = m) (hn : n ≤ 10) (q0 : 0 ≤ q) (q1 : q < m) (m4 : m ≤ 4) (h58 : ∀ r : Int, 0 ≤ r → r < 10 → bt s r = 1 → A M 58 (pcs s r.toNat) = r) (h271 : ∀ r : Int, 0 ≤ r → r < (n : Int) → bt s r = 1 → pcs s r.toNat < 4 → A N 271 (pcs s r.toNat) = r) : A M 58 q = A N 271 q ∧ 0 ≤ A M 58 q ∧ A M 58 q < (n : Int) ∧ bt s (A M 58 q) = 1 ∧ pcs s (A M 58 q).toNat = q := by
  obtain ⟨r, r0, r1, r2, r3⟩ := pcs_nth (s := s) q0 n (by omega)
  have a := h58 r r0 (by omega) r2
  have b := h271 r r0 r1 r2 (by omega)
  rw [r3] at a b
  rw [a, b]
  exact ⟨rfl, r0, r1, r2, r3⟩
