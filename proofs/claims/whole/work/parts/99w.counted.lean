/-! A ROW'S COUNT, the same by both -/
section Ct
variable {M N M' : am_M}
theorem row_eq (h2 : I2 M) (h9 : I9 M) (h13 : I13 M) (h14 : I14 M) (h15 : I15 M) {p day first n : Int} {d : Int → Int} (p0 : 0 ≤ p) (p4 : p < 4) (n0 : 0 ≤ n) (hd : ∀ j : Int, 0 ≤ j → j < n → 0 ≤ d j ∧ d j < A M 219 37)
    (e250 : A N 250 p = A M 250 p) (eN : ∀ t : Int, 0 ≤ t → t < 6400 → A N 251 (6400 * p + t) = min6 (A M 251 (6400 * p + t) + cn (fun j => inR M (d j) t) n.toNat) ∧ A N 252 (6400 * p + t) = lsd (fun j => inR M (d j) t) (A M 252 (6400 * p + t)) first n.toNat) :
    cn (fun l => 0 < A M (72 + 5 * p.toNat + 1) l + cn (fun j => ∃ x : Int, 0 ≤ x ∧ x < A M 57 (d j) ∧ A M (47 + 1 * (d j).toNat) x = l) n.toNat ∧ lsd (fun j => ∃ x : Int, 0 ≤ x ∧ x < A M 57 (d j) ∧ A M (47 + 1 * (d j).toNat) x = l) (A M (72 + 5 * p.toNat + 2) l) first n.toNat ≤ day ∧ day ≤ lsd (fun j => ∃ x : Int, 0 ≤ x ∧ x < A M 57 (d j) ∧ A M (47 + 1 * (d j).toNat) x = l) (A M (72 + 5 * p.toNat + 2) l) first n.toNat + sl (A M 250 p) (min6 (A M (72 + 5 * p.toNat + 1) l + cn (fun j => ∃ x : Int, 0 ≤ x ∧ x < A M 57 (d j) ∧ A M (47 + 1 * (d j).toNat) x = l) n.toNat) - 1)) (A M 42 2).toNat = cn (fun t => hl N p t day) 6400 := by
  obtain ⟨c1, c2, c3, c4⟩ := id h14
  have en : ((n.toNat : Nat) : Int) = n := by omega
  have step : ∀ l : Int, 0 ≤ l → l < A M 42 2 → ((0 < A M (72 + 5 * p.toNat + 1) l + cn (fun j => ∃ x : Int, 0 ≤ x ∧ x < A M 57 (d j) ∧ A M (47 + 1 * (d j).toNat) x = l) n.toNat ∧ lsd (fun j => ∃ x : Int, 0 ≤ x ∧ x < A M 57 (d j) ∧ A M (47 + 1 * (d j).toNat) x = l) (A M (72 + 5 * p.toNat + 2) l) first n.toNat ≤ day ∧ day ≤ lsd (fun j => ∃ x : Int, 0 ≤ x ∧ x < A M 57 (d j) ∧ A M (47 + 1 * (d j).toNat) x = l) (A M (72 + 5 * p.toNat + 2) l) first n.toNat + sl (A M 250 p) (min6 (A M (72 + 5 * p.toNat + 1) l + cn (fun j => ∃ x : Int, 0 ≤ x ∧ x < A M 57 (d j) ∧ A M (47 + 1 * (d j).toNat) x = l) n.toNat) - 1)) ↔ hl N p (lkt M l) day) := fun l l0 l1 => by
    obtain ⟨x0, x1, x2⟩ := lkt_r c3 l0 l1
    have b := ((h15.2.2.2 p p0 p4).2 (lkt M l) x0 x1).2 (by omega)
    rw [x2, show l + 1 - 1 = l by omega] at b
    have iff : ∀ j : Int, 0 ≤ j → j < (n.toNat : Int) → ((∃ x : Int, 0 ≤ x ∧ x < A M 57 (d j) ∧ A M (47 + 1 * (d j).toNat) x = l) ↔ inR M (d j) (lkt M l)) := fun j j0 j1 => by
      have hj := hd j j0 (by omega)
      have h := inR_iff h2 h13 h14 hj.1 hj.2 x0 x1 (by omega)
      rw [x2, show l + 1 - 1 = l by omega] at h
      exact h.symm
    rw [cn_cg iff, lsd_cg iff, b.1, b.2]
    have e := eN (lkt M l) x0 x1
    unfold hl
    rw [e.1, e.2, e250]
    have t9 := (h9.2 (6400 * p + lkt M l) (by omega) (by omega)).1
    have cb := cn_b (C := fun j => inR M (d j) (lkt M l)) n.toNat
    refine and_congr ?_ Iff.rfl
    unfold min6
    split <;> omega
  have hn : ((A M 42 2).toNat : Int) = A M 42 2 := by omega
  rw [cn_cg (D := fun l => hl N p (lkt M l) day) (fun l l0 l1 => step l l0 (by omega))]
  rw [cn_bij (P := fun t => hl N p t day) (o := lkt M) (N := 6400) (A M 42 2).toNat (fun l l0 l1 => by
    have := lkt_r c3 l0 (by omega)
    omega) (fun i j i0 ij j1 e => by
    have a := lkt_r c3 i0 (by omega)
    have b := lkt_r c3 (l := j) (by omega) (by omega)
    rw [e] at a
    omega)]
  refine cn_cg fun t t0 t1 => ⟨fun h => h.2, fun h => ⟨?_, h⟩⟩
  have b := (h15.2.2.2 p p0 p4).2 t t0 (by omega)
  have h0 : ¬ A M 45 t = 0 := fun e => by
    have z := (b.1 e).1
    have ez : cn (fun j => inR M (d j) t) n.toNat = 0 := by
      rw [cn_no (m := 0) (Nat.zero_le _) (fun j j0 j1 => inR_no h2 h13 h14 (hd j (by omega) (by omega)).1 (hd j (by omega) (by omega)).2 e)]
      rfl
    have en2 := (eN t t0 (by omega)).1
    rw [z, ez] at en2
    have em : min6 (0 + 0) = 0 := by decide
    rw [em] at en2
    unfold hl at h
    omega
  obtain ⟨x1, x2, x3⟩ := lkt_i c3 t0 (by omega) h0
  exact ⟨A M 45 t - 1, x1, by omega, x3⟩
end Ct
