/-! what a step of the abstract machine does, read backwards -/
section Inv
variable {β : Type} {r : β}
theorem iv_1i {st : List Value} {f : Int32 → List Value → Option β} (h : am_1i st f = some r) : ∃ x st', st = .int x :: st' ∧ f x st' = some r := by
  unfold am_1i at h; split at h <;> first | exact ⟨_, _, rfl, h⟩ | cases h
theorem iv_2i {st : List Value} {f : Int32 → Int32 → List Value → Option β} (h : am_2i st f = some r) : ∃ x y st', st = .int y :: .int x :: st' ∧ f x y st' = some r := by
  unfold am_2i at h; split at h <;> first | exact ⟨_, _, _, rfl, h⟩ | cases h
theorem iv_1l {st : List Value} {f : Int64 → List Value → Option β} (h : am_1l st f = some r) : ∃ x st', st = .long x :: st' ∧ f x st' = some r := by
  unfold am_1l at h; split at h <;> first | exact ⟨_, _, rfl, h⟩ | cases h
theorem iv_2l {st : List Value} {f : Int64 → Int64 → List Value → Option β} (h : am_2l st f = some r) : ∃ x y st', st = .long y :: .long x :: st' ∧ f x y st' = some r := by
  unfold am_2l at h; split at h <;> first | exact ⟨_, _, _, rfl, h⟩ | cases h
theorem iv_il {st : List Value} {f : Int64 → Int32 → List Value → Option β} (h : am_il st f = some r) : ∃ x y st', st = .int y :: .long x :: st' ∧ f x y st' = some r := by
  unfold am_il at h; split at h <;> first | exact ⟨_, _, _, rfl, h⟩ | cases h
theorem iv_1r {st : List Value} {f : Nat → List Value → Option β} (h : am_1r st f = some r) : ∃ x st', st = .ref x :: st' ∧ f x st' = some r := by
  unfold am_1r at h; split at h <;> first | exact ⟨_, _, rfl, h⟩ | cases h
theorem iv_ri {st : List Value} {f : Nat → Int32 → List Value → Option β} (h : am_ri st f = some r) : ∃ a i st', st = .int i :: .ref a :: st' ∧ f a i st' = some r := by
  unfold am_ri at h; split at h <;> first | exact ⟨_, _, _, rfl, h⟩ | cases h
theorem iv_rj {st : List Value} {f : Nat → Int64 → List Value → Option β} (h : am_rj st f = some r) : ∃ a i st', st = .long i :: .ref a :: st' ∧ f a i st' = some r := by
  unfold am_rj at h; split at h <;> first | exact ⟨_, _, _, rfl, h⟩ | cases h
theorem iv_rii {st : List Value} {f : Nat → Int32 → Int32 → List Value → Option β} (h : am_rii st f = some r) : ∃ a i x st', st = .int x :: .int i :: .ref a :: st' ∧ f a i x st' = some r := by
  unfold am_rii at h; split at h <;> first | exact ⟨_, _, _, _, rfl, h⟩ | cases h
theorem iv_rij {st : List Value} {f : Nat → Int32 → Int64 → List Value → Option β} (h : am_rij st f = some r) : ∃ a i x st', st = .long x :: .int i :: .ref a :: st' ∧ f a i x st' = some r := by
  unfold am_rij at h; split at h <;> first | exact ⟨_, _, _, _, rfl, h⟩ | cases h
theorem iv_vI {v : Option Value} {f : Int32 → Option β} (h : am_vI v f = some r) : ∃ x, v = some (.int x) ∧ f x = some r := by
  unfold am_vI at h; split at h <;> first | exact ⟨_, rfl, h⟩ | cases h
theorem iv_vJ {v : Option Value} {f : Int64 → Option β} (h : am_vJ v f = some r) : ∃ x, v = some (.long x) ∧ f x = some r := by
  unfold am_vJ at h; split at h <;> first | exact ⟨_, rfl, h⟩ | cases h
theorem iv_vR {v : Option Value} {f : Nat → Option β} (h : am_vR v f = some r) : ∃ x, v = some (.ref x) ∧ f x = some r := by
  unfold am_vR at h; split at h <;> first | exact ⟨_, rfl, h⟩ | cases h
theorem iv_dv {y : Int32} {A : Option β} (h : am_dv y A = some r) : ¬ y = 0 ∧ A = some r := by
  unfold am_dv at h; split at h <;> first | exact ⟨by assumption, h⟩ | cases h
theorem iv_dw {y : Int64} {A : Option β} (h : am_dw y A = some r) : ¬ y = 0 ∧ A = some r := by
  unfold am_dw at h; split at h <;> first | exact ⟨by assumption, h⟩ | cases h
theorem cl_dv {y : Int32} {A : Option β} (h : ¬ y = 0) : am_dv y A = A := if_neg h
theorem cl_dw {y : Int64} {A : Option β} (h : ¬ y = 0) : am_dw y A = A := if_neg h
theorem iv_so {o : Option am_L} {κ : am_L → Option β} (h : am_so o κ = some r) : ∃ l, o = some l ∧ κ l = some r := by
  unfold am_so at h; split at h <;> first | exact ⟨_, rfl, h⟩ | cases h
theorem iv_fe {a st : List Value} {ks : List Nat} {A : Option β} (h : am_fe a st ks A = some r) : st.length ≤ 4 ∧ am_wds a ≤ ks.headD 0 ∧ A = some r ∧ ∀ {γ : Type} (A' : Option γ), am_fe a st ks A' = A' := by
  unfold am_fe at h ⊢
  cases hb : (Nat.ble st.length 4 && Nat.ble (am_wds a) (ks.headD 0)) with
  | true =>
    rw [hb] at h
    rw [Bool.and_eq_true] at hb
    exact ⟨Nat.le_of_ble_eq_true hb.1, Nat.le_of_ble_eq_true hb.2, h, fun A' => rfl⟩
  | false => rw [hb] at h; cases h
abbrev am_oob (i : Int32) (n : Nat) : Prop := i < 0 ∨ n ≤ i.toNatClampNeg
theorem iv_ia {g : am_G} {M : am_M} {a : Nat} {i : Int32} {κ : Int32 → Option β} (h : am_ia g M a i κ = some r) : ∃ n, ¬ am_oob i n ∧ ((gK g a = (1, n) ∧ κ (rI M a i.toNatClampNeg) = some r) ∨ (gK g a = (51, n) ∧ κ (gO g a i.toNatClampNeg) = some r)) := by
  unfold am_ia at h
  split at h
  · rename_i n hk
    split at h
    · cases h
    · exact ⟨n, by assumption, Or.inl ⟨hk, h⟩⟩
  · rename_i n hk
    split at h
    · cases h
    · exact ⟨n, by assumption, Or.inr ⟨hk, h⟩⟩
  · cases h
theorem cl_ia {g : am_G} {M : am_M} {a n : Nat} {i : Int32} {κ : Int32 → Option β} (hk : gK g a = (1, n)) (hi : ¬ am_oob i n) : am_ia g M a i κ = κ (rI M a i.toNatClampNeg) := by
  unfold am_ia; rw [hk]; exact if_neg hi
theorem cl_ia51 {g : am_G} {M : am_M} {a n : Nat} {i : Int32} {κ : Int32 → Option β} (hk : gK g a = (51, n)) (hi : ¬ am_oob i n) : am_ia g M a i κ = κ (gO g a i.toNatClampNeg) := by
  unfold am_ia; rw [hk]; exact if_neg hi
theorem iv_za {g : am_G} {M : am_M} {a : Nat} {i : Int32} {κ : Int32 → Option β} (h : am_za g M a i κ = some r) : ∃ n, ¬ am_oob i n ∧ ((gK g a = (2, n) ∧ κ (rI M a i.toNatClampNeg) = some r) ∨ (gK g a = (52, n) ∧ κ (gO g a i.toNatClampNeg) = some r)) := by
  unfold am_za at h
  split at h
  · rename_i n hk
    split at h
    · cases h
    · exact ⟨n, by assumption, Or.inl ⟨hk, h⟩⟩
  · rename_i n hk
    split at h
    · cases h
    · exact ⟨n, by assumption, Or.inr ⟨hk, h⟩⟩
  · cases h
theorem cl_za {g : am_G} {M : am_M} {a n : Nat} {i : Int32} {κ : Int32 → Option β} (hk : gK g a = (2, n)) (hi : ¬ am_oob i n) : am_za g M a i κ = κ (rI M a i.toNatClampNeg) := by
  unfold am_za; rw [hk]; exact if_neg hi
theorem cl_za52 {g : am_G} {M : am_M} {a n : Nat} {i : Int32} {κ : Int32 → Option β} (hk : gK g a = (52, n)) (hi : ¬ am_oob i n) : am_za g M a i κ = κ (gO g a i.toNatClampNeg) := by
  unfold am_za; rw [hk]; exact if_neg hi
theorem iv_la {g : am_G} {M : am_M} {a : Nat} {i : Int32} {κ : Int64 → Option β} (h : am_la g M a i κ = some r) : ∃ n, ¬ am_oob i n ∧ gK g a = (3, n) ∧ κ (rJ M a i.toNatClampNeg) = some r := by
  unfold am_la at h
  split at h
  · rename_i n hk
    split at h
    · cases h
    · exact ⟨n, by assumption, hk, h⟩
  · cases h
theorem cl_la {g : am_G} {M : am_M} {a n : Nat} {i : Int32} {κ : Int64 → Option β} (hk : gK g a = (3, n)) (hi : ¬ am_oob i n) : am_la g M a i κ = κ (rJ M a i.toNatClampNeg) := by
  unfold am_la; rw [hk]; exact if_neg hi
theorem iv_qa {g : am_G} {a : Nat} {i : Int32} {κ : Nat → Option β} (h : am_qa g a i κ = some r) : ∃ t n q, 4 ≤ t ∧ t < 50 ∧ ¬ am_oob i n ∧ gK g a = (t, n) ∧ gR g a i.toNatClampNeg = some q ∧ κ q = some r := by
  unfold am_qa at h
  split at h
  · rename_i hk
    split at h
    · cases h
    · obtain ⟨q, hq, h⟩ := Option.bind_eq_some_iff.mp h
      exact ⟨_, _, q, hk.1, hk.2, by assumption, rfl, hq, h⟩
  · cases h
theorem cl_qa {g : am_G} {a t n q : Nat} {i : Int32} {κ : Nat → Option β} (hk : gK g a = (t, n)) (h1 : 4 ≤ t) (h2 : t < 50) (hi : ¬ am_oob i n) (hq : gR g a i.toNatClampNeg = some q) : am_qa g a i κ = κ q := by
  unfold am_qa; rw [hk, if_pos ⟨h1, h2⟩, if_neg hi, hq]; rfl
theorem iv_is {g : am_G} {M : am_M} {a : Nat} {i x : Int32} {κ : am_M → Option β} (h : am_is g M a i x κ = some r) : ∃ n, ¬ am_oob i n ∧ gK g a = (1, n) ∧ κ (wI M a i.toNatClampNeg x) = some r := by
  unfold am_is at h
  split at h
  · rename_i n hk
    split at h
    · cases h
    · exact ⟨n, by assumption, hk, h⟩
  · cases h
theorem cl_is {g : am_G} {M : am_M} {a n : Nat} {i x : Int32} {κ : am_M → Option β} (hk : gK g a = (1, n)) (hi : ¬ am_oob i n) : am_is g M a i x κ = κ (wI M a i.toNatClampNeg x) := by
  unfold am_is; rw [hk]; exact if_neg hi
theorem iv_zs {g : am_G} {M : am_M} {a : Nat} {i x : Int32} {κ : am_M → Option β} (h : am_zs g M a i x κ = some r) : ∃ n, ¬ am_oob i n ∧ gK g a = (2, n) ∧ κ (wI M a i.toNatClampNeg (vp_nar .boolean x)) = some r := by
  unfold am_zs at h
  split at h
  · rename_i n hk
    split at h
    · cases h
    · exact ⟨n, by assumption, hk, h⟩
  · cases h
theorem cl_zs {g : am_G} {M : am_M} {a n : Nat} {i x : Int32} {κ : am_M → Option β} (hk : gK g a = (2, n)) (hi : ¬ am_oob i n) : am_zs g M a i x κ = κ (wI M a i.toNatClampNeg (vp_nar .boolean x)) := by
  unfold am_zs; rw [hk]; exact if_neg hi
theorem iv_ls {g : am_G} {M : am_M} {a : Nat} {i : Int32} {x : Int64} {κ : am_M → Option β} (h : am_ls g M a i x κ = some r) : ∃ n, ¬ am_oob i n ∧ gK g a = (3, n) ∧ κ (wJ M a i.toNatClampNeg x) = some r := by
  unfold am_ls at h
  split at h
  · rename_i n hk
    split at h
    · cases h
    · exact ⟨n, by assumption, hk, h⟩
  · cases h
theorem cl_ls {g : am_G} {M : am_M} {a n : Nat} {i : Int32} {x : Int64} {κ : am_M → Option β} (hk : gK g a = (3, n)) (hi : ¬ am_oob i n) : am_ls g M a i x κ = κ (wJ M a i.toNatClampNeg x) := by
  unfold am_ls; rw [hk]; exact if_neg hi
theorem iv_if {c : Prop} [Decidable c] {A : Option β} (h : (if c then A else none) = some r) : c ∧ A = some r := by
  split at h
  · exact ⟨by assumption, h⟩
  · cases h
theorem iv_ib {c : Prop} [Decidable c] {o : Option Nat} {κ : Nat → Option β} (h : (if c then o.bind κ else none) = some r) : c ∧ ∃ q, o = some q ∧ κ q = some r := by
  obtain ⟨h1, h2⟩ := iv_if h
  obtain ⟨q, hq, h3⟩ := Option.bind_eq_some_iff.mp h2
  exact ⟨h1, q, hq, h3⟩
theorem cl_ib {c : Prop} [Decidable c] {o : Option Nat} {κ : Nat → Option β} {q : Nat} (h : c) (hq : o = some q) : (if c then o.bind κ else none) = κ q := by rw [if_pos h, hq]; rfl
theorem iv_ci {q : Option am_R} {κ : Int32 → am_M → Option β} (h : am_ci q κ = some r) : ∃ x M, q = some (some (.int x), M) ∧ κ x M = some r := by
  unfold am_ci at h; split at h <;> first | exact ⟨_, _, rfl, h⟩ | cases h
theorem iv_cj {q : Option am_R} {κ : Int64 → am_M → Option β} (h : am_cj q κ = some r) : ∃ x M, q = some (some (.long x), M) ∧ κ x M = some r := by
  unfold am_cj at h; split at h <;> first | exact ⟨_, _, rfl, h⟩ | cases h
theorem iv_cr {q : Option am_R} {κ : Nat → am_M → Option β} (h : am_cr q κ = some r) : ∃ x M, q = some (some (.ref x), M) ∧ κ x M = some r := by
  unfold am_cr at h; split at h <;> first | exact ⟨_, _, rfl, h⟩ | cases h
theorem iv_cv {q : Option am_R} {κ : am_M → Option β} (h : am_cv q κ = some r) : ∃ M, q = some (none, M) ∧ κ M = some r := by
  unfold am_cv at h; split at h <;> first | exact ⟨_, rfl, h⟩ | cases h
theorem iv_sw {sw : List (Int32 × Nat)} {d : Nat} {x : Int32} {κ : Nat → Option β} (h : am_sw sw d x κ = some r) : ∃ t, κ t = some r ∧ (∀ {γ : Type} (κ' : Nat → Option γ), am_sw sw d x κ' = κ' t) := by
  induction sw with
  | nil => exact ⟨d, h, fun κ' => rfl⟩
  | cons p l ih =>
    obtain ⟨c, t⟩ := p
    by_cases hx : x = c
    · exact ⟨t, by rw [am_sw, if_pos hx] at h; exact h, fun κ' => by rw [am_sw, if_pos hx]⟩
    · rw [am_sw, if_neg hx] at h
      obtain ⟨t', h1, h2⟩ := ih h
      exact ⟨t', h1, fun κ' => by rw [am_sw, if_neg hx]; exact h2 κ'⟩
end Inv
theorem iv_kr {k : Nat} {q : Option am_R} {st : List Value} {κ : List Value → am_M → Option am_R} {r : am_R} (h : am_kr k q st κ = some r) : ∃ (v : Option Value) (M : am_M), q = some (v, M) ∧ κ (v.toList ++ st) M = some r ∧ ∀ (κ' : List Value → am_M → Option am_R), am_kr k q st κ' = κ' (v.toList ++ st) M := by
  unfold am_kr at h
  split at h
  · obtain ⟨M, rfl, h⟩ := iv_cv h; exact ⟨none, M, rfl, h, fun κ' => rfl⟩
  · obtain ⟨x, M, rfl, h⟩ := iv_ci h; exact ⟨some (.int x), M, rfl, h, fun κ' => rfl⟩
  · obtain ⟨x, M, rfl, h⟩ := iv_cj h; exact ⟨some (.long x), M, rfl, h, fun κ' => rfl⟩
  · obtain ⟨x, M, rfl, h⟩ := iv_cr h; exact ⟨some (.ref x), M, rfl, h, fun κ' => rfl⟩
  · cases h
/-- the ends: a return, a next place, a call and then a next place -/
def am_IV (Γ : Nat → List Value → am_M → Option am_R) (g : am_G) (rz : Nat) (e : am_E) (ls : am_L) (st : List Value) (M : am_M) (κ : Nat → am_L → List Value → am_M → Option am_R) (r : am_R) : Prop :=
  (∀ Γ' κ', am_step Γ' g rz e ls st M κ' = some r) ∨
  (∃ pc' ls' st' M', κ pc' ls' st' M' = some r ∧ ∀ Γ' κ' r', κ' pc' ls' st' M' = some r' → am_step Γ' g rz e ls st M κ' = some r') ∨
  (∃ z a q pc' ls' st' M', Γ z a M = some q ∧ κ pc' ls' st' M' = some r ∧ ∀ Γ' κ' r', Γ' z a M = some q → κ' pc' ls' st' M' = some r' → am_step Γ' g rz e ls st M κ' = some r')
section IvStep
variable {Γ : Nat → List Value → am_M → Option am_R} {g : am_G} {rz : Nat} {e : am_E} {ls : am_L} {st : List Value} {M : am_M} {κ : Nat → am_L → List Value → am_M → Option am_R} {r : am_R}
theorem am_IV.go {pc' : Nat} {ls' : am_L} {st' : List Value} {M' : am_M} (h : κ pc' ls' st' M' = some r) (k : ∀ Γ' κ', am_step Γ' g rz e ls st M κ' = κ' pc' ls' st' M') : am_IV Γ g rz e ls st M κ r := Or.inr (Or.inl ⟨pc', ls', st', M', h, fun Γ' κ' r' hk => (k Γ' κ').trans hk⟩)
set_option maxHeartbeats 4000000 in
theorem am_step_iv (h : am_step Γ g rz e ls st M κ = some r) : am_IV Γ g rz e ls st M κ r := by
  obtain ⟨w0, ins, nx, x1, x2, w1, v, sw, ks⟩ := e
  cases ins
  case iconst => exact .go h fun _ _ => rfl
  case bipush => exact .go h fun _ _ => rfl
  case sipush => exact .go h fun _ _ => rfl
  case lconst => exact .go h fun _ _ => rfl
  case ldc => exact .go h fun _ _ => rfl
  case ldc_w => exact .go h fun _ _ => rfl
  case ldc2_w => exact .go h fun _ _ => rfl
  case getstatic => exact .go h fun _ _ => rfl
  case goto => exact .go h fun _ _ => rfl
  case iload_n => obtain ⟨x, h1, h⟩ := iv_vI h; exact .go h fun _ _ => by simp only [am_step, h1, am_vI]
  case iload => obtain ⟨x, h1, h⟩ := iv_vI h; exact .go h fun _ _ => by simp only [am_step, h1, am_vI]
  case lload_n => obtain ⟨x, h1, h⟩ := iv_vJ h; exact .go h fun _ _ => by simp only [am_step, h1, am_vJ]
  case lload => obtain ⟨x, h1, h⟩ := iv_vJ h; exact .go h fun _ _ => by simp only [am_step, h1, am_vJ]
  case aload_n => obtain ⟨x, h1, h⟩ := iv_vR h; exact .go h fun _ _ => by simp only [am_step, h1, am_vR]
  case aload => obtain ⟨x, h1, h⟩ := iv_vR h; exact .go h fun _ _ => by simp only [am_step, h1, am_vR]
  case istore_n => obtain ⟨x, st', rfl, h0⟩ := iv_1i h; obtain ⟨l, h1, h0⟩ := iv_so h0; exact .go h0 fun _ _ => by simp only [am_step, am_1i, h1, am_so]
  case istore => obtain ⟨x, st', rfl, h0⟩ := iv_1i h; obtain ⟨l, h1, h0⟩ := iv_so h0; exact .go h0 fun _ _ => by simp only [am_step, am_1i, h1, am_so]
  case lstore_n => obtain ⟨x, st', rfl, h0⟩ := iv_1l h; obtain ⟨l, h1, h0⟩ := iv_so h0; exact .go h0 fun _ _ => by simp only [am_step, am_1l, h1, am_so]
  case lstore => obtain ⟨x, st', rfl, h0⟩ := iv_1l h; obtain ⟨l, h1, h0⟩ := iv_so h0; exact .go h0 fun _ _ => by simp only [am_step, am_1l, h1, am_so]
  case astore_n => obtain ⟨x, st', rfl, h0⟩ := iv_1r h; obtain ⟨l, h1, h0⟩ := iv_so h0; exact .go h0 fun _ _ => by simp only [am_step, am_1r, h1, am_so]
  case astore => obtain ⟨x, st', rfl, h0⟩ := iv_1r h; obtain ⟨l, h1, h0⟩ := iv_so h0; exact .go h0 fun _ _ => by simp only [am_step, am_1r, h1, am_so]
  case iinc =>
    obtain ⟨x, h1, h⟩ := iv_vI h
    obtain ⟨c, h2, h⟩ := iv_vI h
    obtain ⟨l, h3, h⟩ := iv_so h
    exact .go h fun _ _ => by simp only [am_step, h1, h2, h3, am_vI, am_so]
  case iadd => obtain ⟨x, y, st', rfl, h0⟩ := iv_2i h; exact .go h0 fun _ _ => rfl
  case isub => obtain ⟨x, y, st', rfl, h0⟩ := iv_2i h; exact .go h0 fun _ _ => rfl
  case imul => obtain ⟨x, y, st', rfl, h0⟩ := iv_2i h; exact .go h0 fun _ _ => rfl
  case iand => obtain ⟨x, y, st', rfl, h0⟩ := iv_2i h; exact .go h0 fun _ _ => rfl
  case ior => obtain ⟨x, y, st', rfl, h0⟩ := iv_2i h; exact .go h0 fun _ _ => rfl
  case ixor => obtain ⟨x, y, st', rfl, h0⟩ := iv_2i h; exact .go h0 fun _ _ => rfl
  case ishl => obtain ⟨x, y, st', rfl, h0⟩ := iv_2i h; exact .go h0 fun _ _ => rfl
  case ishr => obtain ⟨x, y, st', rfl, h0⟩ := iv_2i h; exact .go h0 fun _ _ => rfl
  case iushr => obtain ⟨x, y, st', rfl, h0⟩ := iv_2i h; exact .go h0 fun _ _ => rfl
  case idiv => obtain ⟨x, y, st', rfl, h0⟩ := iv_2i h; obtain ⟨h1, h0⟩ := iv_dv h0; exact .go h0 fun _ _ => cl_dv h1
  case irem => obtain ⟨x, y, st', rfl, h0⟩ := iv_2i h; obtain ⟨h1, h0⟩ := iv_dv h0; exact .go h0 fun _ _ => cl_dv h1
  case ineg => obtain ⟨x, st', rfl, h0⟩ := iv_1i h; exact .go h0 fun _ _ => rfl
  case ladd => obtain ⟨x, y, st', rfl, h0⟩ := iv_2l h; exact .go h0 fun _ _ => rfl
  case lsub => obtain ⟨x, y, st', rfl, h0⟩ := iv_2l h; exact .go h0 fun _ _ => rfl
  case lmul => obtain ⟨x, y, st', rfl, h0⟩ := iv_2l h; exact .go h0 fun _ _ => rfl
  case ldiv => obtain ⟨x, y, st', rfl, h0⟩ := iv_2l h; obtain ⟨h1, h0⟩ := iv_dw h0; exact .go h0 fun _ _ => cl_dw h1
  case land => obtain ⟨x, y, st', rfl, h0⟩ := iv_2l h; exact .go h0 fun _ _ => rfl
  case lor => obtain ⟨x, y, st', rfl, h0⟩ := iv_2l h; exact .go h0 fun _ _ => rfl
  case lcmp => obtain ⟨x, y, st', rfl, h0⟩ := iv_2l h; exact .go h0 fun _ _ => rfl
  case lshl => obtain ⟨x, y, st', rfl, h0⟩ := iv_il h; exact .go h0 fun _ _ => rfl
  case lshr => obtain ⟨x, y, st', rfl, h0⟩ := iv_il h; exact .go h0 fun _ _ => rfl
  case lushr => obtain ⟨x, y, st', rfl, h0⟩ := iv_il h; exact .go h0 fun _ _ => rfl
  case i2l => obtain ⟨x, st', rfl, h0⟩ := iv_1i h; exact .go h0 fun _ _ => rfl
  case l2i => obtain ⟨x, st', rfl, h0⟩ := iv_1l h; exact .go h0 fun _ _ => rfl
  case i2b => obtain ⟨x, st', rfl, h0⟩ := iv_1i h; exact .go h0 fun _ _ => rfl
  case i2s => obtain ⟨x, st', rfl, h0⟩ := iv_1i h; exact .go h0 fun _ _ => rfl
  case i2c => obtain ⟨x, st', rfl, h0⟩ := iv_1i h; exact .go h0 fun _ _ => rfl
  case dup => obtain ⟨x, st', rfl, h0⟩ := iv_1r h; exact .go h0 fun _ _ => rfl
  case dup2 => obtain ⟨x, y, st', rfl, h0⟩ := iv_ri h; exact .go h0 fun _ _ => rfl
  case pop => obtain ⟨x, st', rfl, h0⟩ := iv_1i h; exact .go h0 fun _ _ => rfl
  case ifCond c off =>
    obtain ⟨x, st', rfl, h0⟩ := iv_1i h
    cases c <;> (try dsimp only at h0) <;> split at h0 <;> exact .go h0 fun _ _ => by simp only [am_step, am_1i, *, if_true, if_false, not_true_eq_false, not_false_eq_true]
  case if_icmp c off =>
    obtain ⟨x, y, st', rfl, h0⟩ := iv_2i h
    cases c <;> (try dsimp only at h0) <;> split at h0 <;> exact .go h0 fun _ _ => by simp only [am_step, am_2i, *, if_true, if_false, not_true_eq_false, not_false_eq_true]
  case tableswitch =>
    obtain ⟨x, st', rfl, h0⟩ := iv_1i h
    obtain ⟨t, h0, h1⟩ := iv_sw h0
    exact .go h0 fun _ _ => h1 _
  case lookupswitch =>
    obtain ⟨x, st', rfl, h0⟩ := iv_1i h
    obtain ⟨t, h0, h1⟩ := iv_sw h0
    exact .go h0 fun _ _ => h1 _
  case getfield =>
    obtain ⟨a, st', rfl, h0⟩ := iv_1r h
    try dsimp only at h0
    split at h0
    · rename_i e2; obtain ⟨h1, h0⟩ := iv_if h0; exact .go h0 fun _ _ => by simp only [am_step, am_1r, e2, am_gI, if_pos h1]
    · rename_i e2; obtain ⟨h1, h0⟩ := iv_if h0; exact .go h0 fun _ _ => by simp only [am_step, am_1r, e2, am_gJ, if_pos h1]
    · rename_i e2; obtain ⟨h1, q, h2, h0⟩ := iv_ib h0; exact .go h0 fun _ _ => by simp only [am_step, am_1r, e2, am_gR, if_pos h1, h2, Option.bind_some]
    · rename_i e2; obtain ⟨h1, h0⟩ := iv_if h0; exact .go h0 fun _ _ => by simp only [am_step, am_1r, e2, am_gO, if_pos h1]
    · rename_i e2; obtain ⟨h1, q, h2, h0⟩ := iv_ib h0; exact .go h0 fun _ _ => by simp only [am_step, am_1r, e2, am_gS, if_pos h1, h2, Option.bind_some]
    · cases h0
  case putfield =>
    dsimp only [am_step] at h
    split at h
    · rename_i e2; obtain ⟨a, x, st', rfl, h0⟩ := iv_ri h; obtain ⟨h1, h0⟩ := iv_if h0; exact .go h0 fun _ _ => by simp only [am_step, e2, am_ri, am_pI, if_pos h1]
    · rename_i e2; obtain ⟨a, x, st', rfl, h0⟩ := iv_ri h; obtain ⟨h1, h0⟩ := iv_if h0; exact .go h0 fun _ _ => by simp only [am_step, e2, am_ri, am_pZ, if_pos h1]
    · rename_i e2; obtain ⟨a, x, st', rfl, h0⟩ := iv_rj h; obtain ⟨h1, h0⟩ := iv_if h0; exact .go h0 fun _ _ => by simp only [am_step, e2, am_rj, am_pJ, if_pos h1]
    · cases h
  case iaload =>
    obtain ⟨a, i, st', rfl, h0⟩ := iv_ri h
    obtain ⟨n, h1, ⟨h2, h0⟩ | ⟨h2, h0⟩⟩ := iv_ia h0
    · exact .go h0 fun _ _ => by simp only [am_step, am_ri, cl_ia h2 h1]
    · exact .go h0 fun _ _ => by simp only [am_step, am_ri, cl_ia51 h2 h1]
  case baload =>
    obtain ⟨a, i, st', rfl, h0⟩ := iv_ri h
    obtain ⟨n, h1, ⟨h2, h0⟩ | ⟨h2, h0⟩⟩ := iv_za h0
    · exact .go h0 fun _ _ => by simp only [am_step, am_ri, cl_za h2 h1]
    · exact .go h0 fun _ _ => by simp only [am_step, am_ri, cl_za52 h2 h1]
  case laload =>
    obtain ⟨a, i, st', rfl, h0⟩ := iv_ri h
    obtain ⟨n, h1, h2, h0⟩ := iv_la h0
    exact .go h0 fun _ _ => by simp only [am_step, am_ri, cl_la h2 h1]
  case aaload =>
    obtain ⟨a, i, st', rfl, h0⟩ := iv_ri h
    obtain ⟨t, n, q, h1, h2, h3, h4, h5, h0⟩ := iv_qa h0
    exact .go h0 fun _ _ => cl_qa h4 h1 h2 h3 h5
  case iastore =>
    obtain ⟨a, i, x, st', rfl, h0⟩ := iv_rii h
    obtain ⟨n, h1, h2, h0⟩ := iv_is h0
    exact .go h0 fun _ _ => cl_is h2 h1
  case bastore =>
    obtain ⟨a, i, x, st', rfl, h0⟩ := iv_rii h
    obtain ⟨n, h1, h2, h0⟩ := iv_zs h0
    exact .go h0 fun _ _ => cl_zs h2 h1
  case lastore =>
    obtain ⟨a, i, x, st', rfl, h0⟩ := iv_rij h
    obtain ⟨n, h1, h2, h0⟩ := iv_ls h0
    exact .go h0 fun _ _ => cl_ls h2 h1
  case arraylength =>
    obtain ⟨a, st', rfl, h0⟩ := iv_1r h
    obtain ⟨h1, h0⟩ := iv_if h0
    exact .go h0 fun _ _ => if_pos h1
  case invokestatic =>
    dsimp only [am_step] at h
    split at h
    · split at h
      · obtain ⟨h1, h⟩ := iv_if h
        exact .go h fun _ _ => if_pos h1
      · cases h
    · rename_i e2
      split at h
      · rename_i q e3
        obtain ⟨hf1, -, h, hf2⟩ := iv_fe h
        obtain ⟨v', M', h1, h, h2⟩ := iv_kr h
        refine Or.inr (Or.inr ⟨x1, q.1, _, nx, ls, _, M', h1, h, fun Γ' κ' r' hg hk => ?_⟩)
        dsimp only [am_step]
        split
        · exact absurd rfl e2
        · rw [e3]
          exact (hf2 _).trans (by rw [hg, ← h1, h2]; exact hk)
      · cases h
  case invokevirtual =>
    dsimp only [am_step] at h
    split at h
    · rename_i a As st' e3
      split at h
      · rename_i c
        obtain ⟨hf1, -, h, hf2⟩ := iv_fe h
        obtain ⟨h0, h⟩ := iv_if h
        obtain ⟨v', M', h1, h, h2⟩ := iv_kr h
        refine Or.inr (Or.inr ⟨x1, .ref a :: As, _, nx, ls, _, M', h1, h, fun Γ' κ' r' hg hk => ?_⟩)
        dsimp only [am_step]
        rw [e3]
        refine (hf2 _).trans ?_
        dsimp only [am_rc]
        rw [if_pos h0, hg, ← h1, h2]
        exact hk
      · cases h
    · cases h
  case ireturn =>
    dsimp only [am_step] at h
    split at h
    · exact Or.inl fun _ _ => h
    · cases h
  case lreturn =>
    dsimp only [am_step] at h
    split at h
    · exact Or.inl fun _ _ => h
    · cases h
  case areturn =>
    dsimp only [am_step] at h
    split at h
    · exact Or.inl fun _ _ => h
    · cases h
  case return_ =>
    dsimp only [am_step] at h
    split at h
    · exact Or.inl fun _ _ => h
    · cases h
  all_goals exact absurd h (by intro q; cases q)
end IvStep
