/-! THE PATH along the least (no machine) -/
section Pa
variable {N : Nat} {may : Int → Int → Prop} {Gl : Int → Prop} {gk wk : Int → Int} {C : Int → Int}
def nx (may : Int → Int → Prop) (Gl : Int → Prop) (gk wk C : Int → Int) (e f : Int) : Prop := may e f ∧ (Gl f ∧ C e = gk f ∨ C f ≠ FARC ∧ C e = C f + wk f)
noncomputable def nf (N : Nat) (may : Int → Int → Prop) (Gl : Int → Prop) (gk wk C : Int → Int) (e : Int) : Int := @dite Int (∃ f : Nat, (f < N ∧ nx may Gl gk wk C e f) ∧ ∀ g : Nat, g < f → ¬ nx may Gl gk wk C e g) (Classical.propDecidable _) (fun h => (h.choose : Int)) (fun _ => -1)
noncomputable def pt (N : Nat) (may : Int → Int → Prop) (Gl : Int → Prop) (gk wk C : Int → Int) : Nat → Int → Int
  | 0, e => e
  | i + 1, e => pt N may Gl gk wk C i (nf N may Gl gk wk C e)
theorem least_ {P : Nat → Prop} : ∀ n : Nat, P n → ∃ m : Nat, m ≤ n ∧ P m ∧ ∀ g : Nat, g < m → ¬ P g := by
  intro n
  induction n using Nat.strongRecOn with
  | _ n ih =>
    intro hp
    by_cases q : ∃ k : Nat, k < n ∧ P k
    · obtain ⟨k, k1, k2⟩ := q
      obtain ⟨m, m1, m2, m3⟩ := ih k k1 k2
      exact ⟨m, by omega, m2, m3⟩
    · exact ⟨n, Nat.le_refl _, hp, fun g g1 g2 => q ⟨g, g1, g2⟩⟩
theorem nf_eq {e f : Int} (f0 : 0 ≤ f) (f1 : f < N) (h : nx may Gl gk wk C e f) (hm : ∀ g : Int, 0 ≤ g → g < f → ¬ nx may Gl gk wk C e g) : nf N may Gl gk wk C e = f := by
  have ef : ((f.toNat : Nat) : Int) = f := by omega
  have hx : ∃ f : Nat, (f < N ∧ nx may Gl gk wk C e f) ∧ ∀ g : Nat, g < f → ¬ nx may Gl gk wk C e g := ⟨f.toNat, ⟨by omega, by rw [ef]; exact h⟩, fun g g1 => hm g (by omega) (by omega)⟩
  unfold nf
  rw [dif_pos hx]
  have hs := hx.choose_spec
  have h1 : ¬ ((hx.choose : Nat) : Int) < f := fun q => hm _ (by omega) q hs.1.2
  have h2 : ¬ f.toNat < hx.choose := fun q => hs.2 f.toNat q (by rw [ef]; exact h)
  omega
theorem nf_ok (hB : Bel N may Gl gk wk C) {e : Int} (e0 : 0 ≤ e) (e1 : e < N) (he : C e ≠ FARC) : (0 ≤ nf N may Gl gk wk C e ∧ nf N may Gl gk wk C e < N) ∧ nx may Gl gk wk C e (nf N may Gl gk wk C e) ∧ ∀ g : Int, 0 ≤ g → g < nf N may Gl gk wk C e → ¬ nx may Gl gk wk C e g := by
  obtain ⟨f, f0, f1, hm, hq⟩ := hB.2.2.2 e e0 e1 he
  have ef : ((f.toNat : Nat) : Int) = f := by omega
  obtain ⟨m, m1, m2, m3⟩ := least_ (P := fun k : Nat => nx may Gl gk wk C e k) f.toNat (by rw [ef]; exact ⟨hm, hq⟩)
  have h3 : ∀ g : Int, 0 ≤ g → g < (m : Int) → ¬ nx may Gl gk wk C e g := fun g g0 g1 => by
    have eg : ((g.toNat : Nat) : Int) = g := by omega
    have := m3 g.toNat (by omega)
    rw [eg] at this; exact this
  rw [nf_eq (f := m) (by omega) (by omega) m2 h3]
  exact ⟨by omega, m2, h3⟩
/-- where it ends -/
def Pth (N : Nat) (may : Int → Int → Prop) (Gl : Int → Prop) (gk wk C : Int → Int) (m : Nat) (e : Int) : Prop :=
  (∀ i : Nat, i ≤ m → (0 ≤ pt N may Gl gk wk C i e ∧ pt N may Gl gk wk C i e < N) ∧ C (pt N may Gl gk wk C i e) ≠ FARC) ∧
  (∀ i : Nat, i < m → ¬ (Gl (pt N may Gl gk wk C (i + 1) e) ∧ C (pt N may Gl gk wk C i e) = gk (pt N may Gl gk wk C (i + 1) e))) ∧
  (Gl (pt N may Gl gk wk C (m + 1) e) ∧ C (pt N may Gl gk wk C m e) = gk (pt N may Gl gk wk C (m + 1) e)) ∧
  (∀ i : Nat, i < m → C (pt N may Gl gk wk C (i + 1) e) < C (pt N may Gl gk wk C i e))
theorem pth_ex (hB : Bel N may Gl gk wk C) (hw : ∀ f : Int, 0 ≤ f → f < N → 0 < wk f) : ∀ (n : Nat) (e : Int), 0 ≤ e → e < N → C e ≠ FARC → C e < n → ∃ m : Nat, Pth N may Gl gk wk C m e := by
  intro n
  induction n with
  | zero =>
    intro e e0 e1 he h
    rcases hB.1 e e0 e1 with q | q
    · exact absurd q he
    · omega
  | succ n ih =>
    intro e e0 e1 he h
    obtain ⟨⟨f0, f1⟩, hx, -⟩ := nf_ok hB e0 e1 he
    by_cases q : Gl (nf N may Gl gk wk C e) ∧ C e = gk (nf N may Gl gk wk C e)
    · refine ⟨0, fun i hi => ?_, fun i hi => by omega, q, fun i hi => by omega⟩
      have : i = 0 := by omega
      subst this
      exact ⟨⟨e0, e1⟩, he⟩
    · have h2 := hx.2.resolve_left q
      have hp := hw _ f0 f1
      obtain ⟨m, p1, p2, p3, p4⟩ := ih (nf N may Gl gk wk C e) f0 f1 h2.1 (by omega)
      refine ⟨m + 1, fun i hi => ?_, fun i hi => ?_, p3, fun i hi => ?_⟩
      · cases i with
        | zero => exact ⟨⟨e0, e1⟩, he⟩
        | succ i => exact p1 i (by omega)
      · cases i with
        | zero => exact q
        | succ i => exact p2 i (by omega)
      · cases i with
        | zero => show C (nf N may Gl gk wk C e) < C e; omega
        | succ i => exact p4 i (by omega)
theorem pt_s {i : Nat} : ∀ {e : Int}, pt N may Gl gk wk C (i + 1) e = nf N may Gl gk wk C (pt N may Gl gk wk C i e) := by
  induction i with
  | zero => intro e; rfl
  | succ i ih => intro e; exact ih (e := nf N may Gl gk wk C e)
theorem pth_lt {m : Nat} {e : Int} (h : Pth N may Gl gk wk C m e) : ∀ (j i : Nat), i < j → j ≤ m → C (pt N may Gl gk wk C j e) < C (pt N may Gl gk wk C i e) := by
  intro j
  induction j with
  | zero => intro i h1; omega
  | succ j ih =>
    intro i h1 h2
    have a := h.2.2.2 j (by omega)
    by_cases q : i = j
    · rw [q]; exact a
    · have := ih i (by omega) (by omega); omega
/-- it is no longer than there are legs -/
theorem pth_le (hB : Bel N may Gl gk wk C) (hgw : ∀ f : Int, 0 ≤ f → f < N → Gl f → gk f < wk f) (hg2 : cn (fun f => ¬ Gl f) N + 2 ≤ N) {m : Nat} {e : Int} (h : Pth N may Gl gk wk C m e) : m + 2 ≤ N := by
  have hng : ∀ i : Nat, i < m → ¬ Gl (pt N may Gl gk wk C (i + 1) e) := fun i hi hg => by
    obtain ⟨⟨a0, a1⟩, a2⟩ := h.1 i (by omega)
    obtain ⟨⟨b0, b1⟩, b2⟩ := h.1 (i + 1) (by omega)
    have ok := nf_ok hB a0 a1 a2
    rw [← pt_s] at ok
    have h2 := ok.2.1.2.resolve_left (h.2.1 i hi)
    have := hgw _ b0 b1 hg
    have := hB.2.1 _ _ a0 a1 b0 b1 ok.2.1.1 hg
    have hc : 0 ≤ C (pt N may Gl gk wk C (i + 1) e) := by
      rcases hB.1 _ b0 b1 with q | q
      · exact absurd q b2
      · exact q.1
    omega
  have hj := (cn_inj (o := fun i => pt N may Gl gk wk C (i.toNat + 1) e) (C := fun f => ¬ Gl f) (n := N) m (fun i i0 i1 => ⟨(h.1 (i.toNat + 1) (by omega)).1, hng i.toNat (by omega)⟩) (fun i j i0 i1 i2 he => by
    have := pth_lt h (j.toNat + 1) (i.toNat + 1) (by omega) (by omega)
    rw [he] at this
    omega)).2
  omega
end Pa
