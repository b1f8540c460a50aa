/-! LABELS let down: the model's way to the least to come (no machine) -/
def sm (c : Int → Int) : Nat → Int
  | 0 => 0
  | n + 1 => sm c n + c n
theorem sm_cg {c d : Int → Int} : ∀ {n : Nat}, (∀ k : Int, 0 ≤ k → k < (n : Int) → c k = d k) → sm c n = sm d n
  | 0, _ => rfl
  | n + 1, h => by
    show sm c n + c n = sm d n + d n
    rw [sm_cg (n := n) fun k h0 h1 => h k h0 (by omega), h n (by omega) (by omega)]
theorem sm_lt {c d : Int → Int} {x : Int} (hx : d x < c x) : ∀ {n : Nat}, 0 ≤ x → x < (n : Int) → (∀ k : Int, 0 ≤ k → k < (n : Int) → k ≠ x → d k = c k) → sm d n < sm c n
  | 0, h0, h1, _ => by omega
  | n + 1, h0, h1, h => by
    show sm d n + d n < sm c n + c n
    by_cases q : (n : Int) = x
    · rw [sm_cg (n := n) (fun k k0 k1 => h k k0 (by omega) (by omega)), q]; omega
    · have := sm_lt hx (n := n) h0 (by omega) (fun k k0 k1 kx => h k k0 (by omega) kx)
      rw [h n (by omega) (by omega) q]; omega
theorem sm_0 {c : Int → Int} : ∀ {n : Nat}, (∀ k : Int, 0 ≤ k → k < (n : Int) → 0 ≤ c k) → 0 ≤ sm c n
  | 0, _ => Int.le_refl _
  | n + 1, h => by
    have := sm_0 (n := n) fun k h0 h1 => h k h0 (by omega)
    have := h n (by omega) (by omega)
    show 0 ≤ sm c n + c n
    omega
/-- what a label says is to come -/
def cl (by_ : Int) (O T N : Int → Int) (e : Int) : Int := if T e = 1000000000000 then FARC else key by_ (T e - O e) (N e)
section La
variable {n : Nat} {may : Int → Int → Prop} {Gl : Int → Prop} {by_ : Int} {O p d T N : Int → Int}
def Lab (n : Nat) (may : Int → Int → Prop) (Gl : Int → Prop) (by_ : Int) (O p d T N : Int → Int) : Prop :=
  (∀ e : Int, 0 ≤ e → e < n → T e = 1000000000000 ∧ N e = 1000000000000 ∨ (0 ≤ T e - O e ∧ T e - O e ≤ 20000 * cn (fun g => cl by_ O T N g ≤ cl by_ O T N e) n) ∧ 0 ≤ N e ∧ N e ≤ 2400 * cn (fun g => cl by_ O T N g ≤ cl by_ O T N e) n) ∧
  ∀ e : Int, 0 ≤ e → e < n → cl by_ O T N e ≠ FARC → ∃ f : Int, 0 ≤ f ∧ f < n ∧ may e f ∧ (Gl f ∧ cl by_ O T N e = key by_ 0 (d f) ∨ cl by_ O T N f ≠ FARC ∧ cl by_ O T N f + key by_ (O f) (p f) ≤ cl by_ O T N e)
/-- the ranges -/
def Lrg (n : Nat) (O p d : Int → Int) : Prop := n ≤ 80 ∧ ∀ e : Int, 0 ≤ e → e < n → (0 ≤ O e ∧ O e ≤ 20000) ∧ (2 ≤ p e ∧ p e ≤ 2400) ∧ 1 ≤ d e ∧ d e ≤ 999
theorem key_b {b t m : Int} (t0 : 0 ≤ t) (t1 : t ≤ 4000000) (m0 : 0 ≤ m) (m1 : m ≤ 4000000) : 0 ≤ key b t m ∧ key b t m < 20000000000000000 := by
  unfold key; split <;> omega
theorem key_lt {b t m u o : Int} (t0 : 0 ≤ t) (t1 : t ≤ 4000000) (m0 : 0 ≤ m) (m1 : m ≤ 4000000) (u0 : 0 ≤ u) (u1 : u ≤ 4000000) (o0 : 0 ≤ o) (o1 : o ≤ 4000000) : key b t m < key b u o ↔ (b = 0 ∧ (t < u ∨ t = u ∧ m < o) ∨ ¬ b = 0 ∧ (m < o ∨ m = o ∧ t < u)) := by
  unfold key; split <;> omega
theorem key_inj {b t m u o : Int} (t0 : 0 ≤ t) (t1 : t ≤ 4000000) (m0 : 0 ≤ m) (m1 : m ≤ 4000000) (u0 : 0 ≤ u) (u1 : u ≤ 4000000) (o0 : 0 ≤ o) (o1 : o ≤ 4000000) : key b t m = key b u o ↔ t = u ∧ m = o := by
  unfold key; split <;> omega
theorem Lab.r (hR : Lrg n O p d) (h : Lab n may Gl by_ O p d T N) {e : Int} (e0 : 0 ≤ e) (e1 : e < n) : (T e = 1000000000000 ∧ N e = 1000000000000 ∧ cl by_ O T N e = FARC) ∨ ((0 ≤ T e - O e ∧ T e - O e ≤ 1600000) ∧ (0 ≤ N e ∧ N e ≤ 192000) ∧ (cl by_ O T N e = key by_ (T e - O e) (N e) ∧ 0 ≤ cl by_ O T N e ∧ cl by_ O T N e < 20000000000000000)) := by
  have hb := cn_b (C := fun g => cl by_ O T N g ≤ cl by_ O T N e) n
  have hn := hR.1
  have ho := (hR.2 e e0 e1).1
  rcases h.1 e e0 e1 with ⟨q1, q2⟩ | ⟨⟨q1, q2⟩, q3, q4⟩
  · exact Or.inl ⟨q1, q2, if_pos q1⟩
  · have hk := key_b (b := by_) (t := T e - O e) (m := N e) q1 (by omega) q3 (by omega)
    have hc : cl by_ O T N e = key by_ (T e - O e) (N e) := if_neg (by omega)
    exact Or.inr ⟨by omega, by omega, hc, by omega, by omega⟩
theorem Lab.step (hR : Lrg n O p d) (h : Lab n may Gl by_ O p d T N) {e f t m : Int} (e0 : 0 ≤ e) (e1 : e < n) (f0 : 0 ≤ f) (f1 : f < n) (hm : may e f) (hfe : f ≠ e) (hc : Gl f ∧ t = 0 ∧ m = d f ∨ cl by_ O T N f ≠ FARC ∧ t = T f ∧ m = N f + p f) (hl : key by_ t m < cl by_ O T N e)
    {T' N' : Int → Int} (hT : T' e = t + O e) (hN : N' e = m) (hT2 : ∀ g : Int, 0 ≤ g → g < n → g ≠ e → T' g = T g) (hN2 : ∀ g : Int, 0 ≤ g → g < n → g ≠ e → N' g = N g) :
    Lab n may Gl by_ O p d T' N' ∧ sm (cl by_ O T' N') n < sm (cl by_ O T N) n := by
  have eF : FARC = 9223372036854775807 := rfl
  have hn := hR.1
  have oe := hR.2 e e0 e1
  have of := hR.2 f f0 f1
  have rf := h.r hR f0 f1
  have re := h.r hR e0 e1
  -- the candidate
  have ht : (0 ≤ t ∧ t ≤ 1620000) ∧ 0 ≤ m ∧ m ≤ 194400 := by
    rcases hc with ⟨-, rfl, rfl⟩ | ⟨q, rfl, rfl⟩
    · omega
    · rcases rf with ⟨-, -, x⟩ | x
      · exact absurd x q
      · omega
  have hk := key_b (b := by_) (t := t) (m := m) ht.1.1 (by omega) ht.2.1 (by omega)
  have ce : cl by_ O T' N' e = key by_ t m := by
    unfold cl
    rw [hT, hN, if_neg (by omega)]
    congr 1; omega
  have co : ∀ g : Int, 0 ≤ g → g < n → g ≠ e → cl by_ O T' N' g = cl by_ O T N g := fun g g0 g1 gx => by
    unfold cl
    rw [hT2 g g0 g1 gx, hN2 g g0 g1 gx]
  have cle : ∀ g : Int, 0 ≤ g → g < n → cl by_ O T' N' g ≤ cl by_ O T N g := fun g g0 g1 => by
    by_cases gx : g = e
    · rw [gx, ce]; omega
    · rw [co g g0 g1 gx]; exact Int.le_refl _
  have hlt : cl by_ O T' N' e < cl by_ O T N e := by rw [ce]; exact hl
  refine ⟨⟨fun g g0 g1 => ?_, fun g g0 g1 hg => ?_⟩, sm_lt hlt e0 e1 fun k k0 k1 kx => co k k0 k1 kx⟩
  · by_cases gx : g = e
    · right
      rw [gx, hT, hN]
      have h1 : 1 ≤ cn (fun g => cl by_ O T' N' g ≤ cl by_ O T' N' e) n := by
        have a := cn_add (C := fun _ => False) (x := e) (fun q => q) (n := n) e0 e1
        have b := cn_b (C := fun _ => False) n
        have := cn_le (C := fun k => False ∨ k = e) (D := fun g => cl by_ O T' N' g ≤ cl by_ O T' N' e) (n := n) (fun k k0 k1 q => by
          rcases q with q | q
          · exact q.elim
          · rw [q]; exact Int.le_refl _)
        omega
      rcases hc with ⟨-, rfl, rfl⟩ | ⟨q, rfl, rfl⟩
      · omega
      · rcases rf with ⟨-, -, x⟩ | x
        · exact absurd x q
        · have e2 : key by_ (T f) (N f + p f) = cl by_ O T N f + key by_ (O f) (p f) := by
            rw [x.2.2.1, key_add]
            congr 1
            omega
          have kp := (key_r (by_ := by_) (t := O f) (n := p f) (by omega) (by omega) (by omega) (by omega)).2.2 (by omega)
          have a := cn_add (C := fun g => cl by_ O T N g ≤ cl by_ O T N f) (x := e) (by show ¬ _ ≤ _; omega) (n := n) e0 e1
          have := cn_le (C := fun g => cl by_ O T N g ≤ cl by_ O T N f ∨ g = e) (D := fun g => cl by_ O T' N' g ≤ cl by_ O T' N' e) (n := n) (fun k k0 k1 q => by
            rcases q with q | q
            · have := cle k k0 k1
              show _ ≤ _
              rw [ce, e2]; omega
            · rw [q]; exact Int.le_refl _)
          have o2 := h.1 f f0 f1
          omega
    · rw [hT2 g g0 g1 gx, hN2 g g0 g1 gx]
      rcases h.1 g g0 g1 with q | q
      · exact Or.inl q
      · right
        have := cn_le (C := fun k => cl by_ O T N k ≤ cl by_ O T N g) (D := fun k => cl by_ O T' N' k ≤ cl by_ O T' N' g) (n := n) (fun k k0 k1 q => by
          have := cle k k0 k1
          have := co g g0 g1 gx
          show _ ≤ _
          omega)
        omega
  · by_cases gx : g = e
    · subst gx
      refine ⟨f, f0, f1, hm, ?_⟩
      rw [ce, co f f0 f1 hfe]
      rcases hc with ⟨q, rfl, rfl⟩ | ⟨q, rfl, rfl⟩
      · exact Or.inl ⟨q, rfl⟩
      · rcases rf with ⟨-, -, x⟩ | x
        · exact absurd x q
        · refine Or.inr ⟨q, ?_⟩
          rw [x.2.2.1, key_add]
          have : T f - O f + O f = T f := by omega
          rw [this]; exact Int.le_refl _
    · rw [co g g0 g1 gx] at hg ⊢
      obtain ⟨k, k0, k1, km, hk⟩ := h.2 g g0 g1 hg
      refine ⟨k, k0, k1, km, hk.imp id fun q => ?_⟩
      have := cle k k0 k1
      have hkF : cl by_ O T N k < FARC := by
        rcases h.r hR k0 k1 with x | x
        · exact absurd x.2.2 q.1
        · omega
      exact ⟨by omega, by omega⟩
theorem Lab.done (hR : Lrg n O p d) (h : Lab n may Gl by_ O p d T N) (hg : ∀ e f : Int, 0 ≤ e → e < n → 0 ≤ f → f < n → may e f → Gl f → cl by_ O T N e ≤ key by_ 0 (d f)) (hs : ∀ e f : Int, 0 ≤ e → e < n → 0 ≤ f → f < n → may e f → cl by_ O T N f ≠ FARC → cl by_ O T N e ≤ cl by_ O T N f + key by_ (O f) (p f)) :
    Bel n may Gl (fun f => key by_ 0 (d f)) (fun f => key by_ (O f) (p f)) (cl by_ O T N) := by
  have eF : FARC = 9223372036854775807 := rfl
  refine ⟨fun e e0 e1 => ?_, hg, hs, fun e e0 e1 he => ?_⟩
  · rcases h.r hR e0 e1 with q | q
    · exact Or.inl q.2.2
    · right; omega
  · obtain ⟨f, f0, f1, hm, hq⟩ := h.2 e e0 e1 he
    refine ⟨f, f0, f1, hm, hq.imp id fun ⟨x, y⟩ => ⟨x, ?_⟩⟩
    have := hs e f e0 e1 f0 f1 hm x
    show _ = _ + key by_ (O f) (p f)
    omega
theorem Lab.init (hR : Lrg n O p d) (hT : ∀ e : Int, 0 ≤ e → e < n → T e = 1000000000000 ∧ N e = 1000000000000) : Lab n may Gl by_ O p d T N :=
  ⟨fun e e0 e1 => Or.inl (hT e e0 e1), fun e e0 e1 he => absurd (if_pos (hT e e0 e1).1) he⟩
end La
