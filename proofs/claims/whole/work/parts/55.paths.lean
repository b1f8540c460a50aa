/-! THE LEAST that is to come: what fixes it, and a way to find it (no machine) -/
def FARC : Int := 9223372036854775807
section Be
variable {N : Nat} {may : Int → Int → Prop} {Gl : Int → Prop} {gk wk : Int → Int}
/-- just the least costs to go -/
def Bel (N : Nat) (may : Int → Int → Prop) (Gl : Int → Prop) (gk wk : Int → Int) (c : Int → Int) : Prop :=
  (∀ e : Int, 0 ≤ e → e < N → c e = FARC ∨ 0 ≤ c e ∧ c e < FARC) ∧
  (∀ e f : Int, 0 ≤ e → e < N → 0 ≤ f → f < N → may e f → Gl f → c e ≤ gk f) ∧
  (∀ e f : Int, 0 ≤ e → e < N → 0 ≤ f → f < N → may e f → c f ≠ FARC → c e ≤ c f + wk f) ∧
  ∀ e : Int, 0 ≤ e → e < N → c e ≠ FARC → ∃ f : Int, 0 ≤ f ∧ f < N ∧ may e f ∧ (Gl f ∧ c e = gk f ∨ c f ≠ FARC ∧ c e = c f + wk f)
theorem Bel.le {c d : Int → Int} (hw : ∀ f : Int, 0 ≤ f → f < N → 0 < wk f) (hc : Bel N may Gl gk wk c) (hd : Bel N may Gl gk wk d) : ∀ (m : Nat) (e : Int), 0 ≤ e → e < N → c e ≠ FARC → c e < m → d e ≤ c e ∧ d e ≠ FARC := by
  intro m
  induction m with
  | zero =>
    intro e e0 e1 hf hm
    rcases hc.1 e e0 e1 with q | q
    · exact absurd q hf
    · omega
  | succ m ih =>
    intro e e0 e1 hf hm
    obtain ⟨f, f0, f1, hmay, hq⟩ := hc.2.2.2 e e0 e1 hf
    have hlt : c e < FARC := by rcases hc.1 e e0 e1 with q | q; exact absurd q hf; exact q.2
    have key : d e ≤ c e := by
      rcases hq with ⟨hg, he⟩ | ⟨hcf, he⟩
      · rw [he]; exact hd.2.1 e f e0 e1 f0 f1 hmay hg
      · have hp := hw f f0 f1
        obtain ⟨i1, i2⟩ := ih f f0 f1 hcf (by omega)
        have := hd.2.2.1 e f e0 e1 f0 f1 hmay i2
        omega
    refine ⟨key, fun q => ?_⟩
    omega
/-- there is but one -/
theorem Bel.eq {c d : Int → Int} (hw : ∀ f : Int, 0 ≤ f → f < N → 0 < wk f) (hc : Bel N may Gl gk wk c) (hd : Bel N may Gl gk wk d) {e : Int} (e0 : 0 ≤ e) (e1 : e < N) : c e = d e := by
  by_cases q : c e = FARC
  · by_cases q2 : d e = FARC
    · rw [q, q2]
    · have h0 : d e < (d e + 1).toNat := by omega
      exact absurd q (Bel.le hw hd hc (d e + 1).toNat e e0 e1 q2 h0).2
  · have h0 : c e < (c e + 1).toNat := by omega
    have h1 := Bel.le hw hc hd (c e + 1).toNat e e0 e1 q h0
    have h2 : d e < (d e + 1).toNat := by omega
    have h3 := Bel.le hw hd hc (d e + 1).toNat e e0 e1 h1.2 h2
    omega
/-- under way: S the legs that are settled -/
def Dij (N : Nat) (may : Int → Int → Prop) (Gl : Int → Prop) (gk wk : Int → Int) (S : Int → Prop) (c : Int → Int) : Prop :=
  (∀ e : Int, 0 ≤ e → e < N → c e = FARC ∨ 0 ≤ c e ∧ c e < FARC) ∧
  (∀ e f : Int, 0 ≤ e → e < N → 0 ≤ f → f < N → may e f → Gl f → c e ≤ gk f) ∧
  (∀ e f : Int, 0 ≤ e → e < N → 0 ≤ f → f < N → may e f → S f → c e ≤ c f + wk f) ∧
  (∀ e : Int, 0 ≤ e → e < N → c e ≠ FARC → ∃ f : Int, 0 ≤ f ∧ f < N ∧ may e f ∧ (Gl f ∧ c e = gk f ∨ S f ∧ c e = c f + wk f)) ∧
  ∀ e : Int, 0 ≤ e → e < N → S e → c e ≠ FARC ∧ ∀ u : Int, 0 ≤ u → u < N → ¬ S u → c e ≤ c u
theorem Dij.done {S : Int → Prop} {c : Int → Int} (h : Dij N may Gl gk wk S c) (hs : ∀ e : Int, 0 ≤ e → e < N → c e ≠ FARC → S e) : Bel N may Gl gk wk c := by
  obtain ⟨h1, h2, h3, h4, h5⟩ := h
  refine ⟨h1, h2, fun e f e0 e1 f0 f1 hm hf => h3 e f e0 e1 f0 f1 hm (hs f f0 f1 hf), fun e e0 e1 he => ?_⟩
  obtain ⟨f, f0, f1, hm, hq⟩ := h4 e e0 e1 he
  refine ⟨f, f0, f1, hm, hq.imp id fun q => ⟨(h5 f f0 f1 q.1).1, q.2⟩⟩
theorem Dij.step {S : Int → Prop} {c c' : Int → Int} (hw : ∀ f : Int, 0 ≤ f → f < N → 0 < wk f) (h : Dij N may Gl gk wk S c) {f : Int} (f0 : 0 ≤ f) (f1 : f < N) (hf : ¬ S f) (hfc : c f ≠ FARC) (hb : c f + wk f < FARC) (hmin : ∀ u : Int, 0 ≤ u → u < N → ¬ S u → c f ≤ c u)
    (hc : ∀ e : Int, 0 ≤ e → e < N → (may e f ∧ c f + wk f < c e → c' e = c f + wk f) ∧ (¬ (may e f ∧ c f + wk f < c e) → c' e = c e)) : Dij N may Gl gk wk (fun e => S e ∨ e = f) c' := by
  obtain ⟨h1, h2, h3, h4, h5⟩ := h
  have hp := hw f f0 f1
  have hf0 : 0 ≤ c f := by rcases h1 f f0 f1 with q | q; exact absurd q hfc; exact q.1
  have hle : ∀ e : Int, 0 ≤ e → e < N → c' e ≤ c e := fun e e0 e1 => by
    obtain ⟨a, b⟩ := hc e e0 e1
    by_cases q : may e f ∧ c f + wk f < c e
    · rw [a q]; omega
    · rw [b q]; omega
  have hS : ∀ e : Int, 0 ≤ e → e < N → (S e ∨ e = f) → c' e = c e := fun e e0 e1 hs => by
    refine (hc e e0 e1).2 fun q => ?_
    rcases hs with hs | rfl
    · have := (h5 e e0 e1 hs).2 f f0 f1 hf; omega
    · omega
  have hff := hS f f0 f1 (Or.inr rfl)
  refine ⟨fun e e0 e1 => ?_, fun e g e0 e1 g0 g1 hm hg => Int.le_trans (hle e e0 e1) (h2 e g e0 e1 g0 g1 hm hg), fun e g e0 e1 g0 g1 hm hs => ?_, fun e e0 e1 he => ?_, fun e e0 e1 hs => ⟨?_, fun u u0 u1 hu => ?_⟩⟩
  · obtain ⟨a, b⟩ := hc e e0 e1
    by_cases q : may e f ∧ c f + wk f < c e
    · rw [a q]; right; omega
    · rw [b q]; exact h1 e e0 e1
  · rw [hS g g0 g1 hs]
    rcases hs with hs | rfl
    · exact Int.le_trans (hle e e0 e1) (h3 e g e0 e1 g0 g1 hm hs)
    · obtain ⟨a, b⟩ := hc e e0 e1
      by_cases q : may e g ∧ c g + wk g < c e
      · rw [a q]; omega
      · rw [b q]
        have q2 : ¬ (c g + wk g < c e) := fun x => q ⟨hm, x⟩
        omega
  · obtain ⟨a, b⟩ := hc e e0 e1
    by_cases q : may e f ∧ c f + wk f < c e
    · exact ⟨f, f0, f1, q.1, Or.inr ⟨Or.inr rfl, by rw [a q, hff]⟩⟩
    · rw [b q] at he ⊢
      obtain ⟨g, g0, g1, hm, hq⟩ := h4 e e0 e1 he
      refine ⟨g, g0, g1, hm, hq.imp id fun ⟨x, y⟩ => ⟨Or.inl x, by rw [hS g g0 g1 (Or.inl x)]; exact y⟩⟩
  · rw [hS e e0 e1 hs]
    rcases hs with hs | rfl
    · exact (h5 e e0 e1 hs).1
    · exact hfc
  · rw [hS e e0 e1 hs]
    have hu1 : ¬ S u := fun q => hu (Or.inl q)
    have e1' : c e ≤ c f := by
      rcases hs with hs | rfl
      · exact (h5 e e0 e1 hs).2 f f0 f1 hf
      · omega
    obtain ⟨a, b⟩ := hc u u0 u1
    have := hmin u u0 u1 hu1
    by_cases q : may u f ∧ c f + wk f < c u
    · rw [a q]; omega
    · rw [b q]; omega
end Be
-- counting
theorem cn_le {C D : Int → Prop} : ∀ {n : Nat}, (∀ k : Int, 0 ≤ k → k < (n : Int) → C k → D k) → cn C n ≤ cn D n
  | 0, _ => Int.le_refl _
  | n + 1, h => by
    have ih := cn_le (n := n) fun k h0 h1 => h k h0 (by omega)
    have hn := h n (by omega) (by omega)
    show cn C n + bI (C n) ≤ cn D n + bI (D n)
    by_cases q : C n
    · rw [bI_t q, bI_t (hn q)]; omega
    · rw [bI_f q]
      rcases bI_01 (P := D n) with e | e <;> rw [e] <;> omega
theorem cn_add {C : Int → Prop} {x : Int} (hx : ¬ C x) : ∀ {n : Nat}, 0 ≤ x → x < (n : Int) → cn (fun k => C k ∨ k = x) n = cn C n + 1
  | 0, h0, h1 => by omega
  | n + 1, h0, h1 => by
    show cn (fun k => C k ∨ k = x) n + bI (C n ∨ (n : Int) = x) = cn C n + bI (C n) + 1
    by_cases q : (n : Int) = x
    · have e : cn (fun k => C k ∨ k = x) n = cn C n := cn_cg fun k k0 k1 => ⟨fun h => h.resolve_right (by omega), Or.inl⟩
      rw [e, bI_t (Or.inr q), bI_f (by rw [q]; exact hx)]
      omega
    · rw [cn_add hx (n := n) h0 (by omega), bI_cg (show (C n ∨ (n : Int) = x) ↔ C n from ⟨fun h => h.resolve_right q, Or.inl⟩)]
      omega
theorem cn_full {C : Int → Prop} : ∀ {n : Nat}, cn C n = n → ∀ k : Int, 0 ≤ k → k < (n : Int) → C k
  | 0, _, k, h0, h1 => by omega
  | n + 1, h, k, h0, h1 => by
    have hb := cn_b (C := C) n
    have h : cn C n + bI (C n) = ((n + 1 : Nat) : Int) := h
    have hc : C n := by
      by_cases q : C n
      · exact q
      · rw [bI_f q] at h; omega
    rw [bI_t hc] at h
    by_cases e : k = n
    · rw [e]; exact hc
    · exact cn_full (n := n) (by omega) k h0 (by omega)
/-- a row without repeats is no longer than what it is out of -/
theorem cn_inj {o : Int → Int} {C : Int → Prop} {n : Nat} : ∀ (m : Nat), (∀ i : Int, 0 ≤ i → i < (m : Int) → (0 ≤ o i ∧ o i < (n : Int)) ∧ C (o i)) → (∀ i j : Int, 0 ≤ i → i < j → j < (m : Int) → o i ≠ o j) → cn (fun g => ∃ i : Int, 0 ≤ i ∧ i < (m : Int) ∧ o i = g) n = m ∧ (m : Int) ≤ cn C n
  | 0, _, _ => by
    have e : cn (fun g => ∃ i : Int, 0 ≤ i ∧ i < ((0 : Nat) : Int) ∧ o i = g) n = cn (fun _ => False) n := cn_cg fun k _ _ => ⟨fun ⟨i, h0, h1, _⟩ => by omega, False.elim⟩
    have e2 : cn (fun _ => False) n = 0 := cn_no (C := fun _ => False) (m := 0) (Nat.zero_le _) (fun _ _ _ h => h)
    exact ⟨e.trans e2, (cn_b n).1⟩
  | m + 1, h, hi => by
    obtain ⟨ih1, -⟩ := cn_inj (o := o) (C := C) (n := n) m (fun i i0 i1 => h i i0 (by omega)) (fun i j i0 i1 i2 => hi i j i0 i1 (by omega))
    have hm := h m (by omega) (by omega)
    have hx : ¬ ∃ i : Int, 0 ≤ i ∧ i < (m : Int) ∧ o i = o m := fun ⟨i, i0, i1, e⟩ => hi i m i0 i1 (by omega) e
    have a := cn_add (C := fun g => ∃ i : Int, 0 ≤ i ∧ i < (m : Int) ∧ o i = g) hx (n := n) hm.1.1 hm.1.2
    have e : cn (fun g => ∃ i : Int, 0 ≤ i ∧ i < ((m + 1 : Nat) : Int) ∧ o i = g) n = ((m + 1 : Nat) : Int) := by
      rw [cn_cg (D := fun k => (∃ i : Int, 0 ≤ i ∧ i < (m : Int) ∧ o i = k) ∨ k = o m) (fun k _ _ => ⟨fun ⟨i, i0, i1, q⟩ => by
        by_cases ei : i = m
        · exact Or.inr (by rw [← q, ei])
        · exact Or.inl ⟨i, i0, by omega, q⟩, fun q => by
        rcases q with ⟨i, i0, i1, q⟩ | q
        · exact ⟨i, i0, by omega, q⟩
        · exact ⟨m, by omega, by omega, q.symm⟩⟩), a, ih1]
      omega
    refine ⟨e, ?_⟩
    rw [← e]
    refine cn_le fun k _ _ ⟨i, i0, i1, q⟩ => ?_
    rw [← q]; exact (h i i0 i1).2
