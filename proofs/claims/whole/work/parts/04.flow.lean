/-! runs through a method's cuts; what a call answers: the limit over all lengths -/
abbrev am_T : Type := Nat → Nat × List (Nat × List am_E) × List (Nat × List Nat)
def am_ent (cuts : List (Nat × List Nat)) (pc : Nat) (vs : List Value) : am_L := bif Nat.beq pc 0 then lv_args 0 vs else match am_cut cuts pc with
  | some k => k.zip vs
  | none => []
def am_fl (T : am_T) (g : am_G) : Nat → Nat → Nat → List Value → List Value → am_M → Option am_R
  | 0, _, _, _, _, _ => none
  | N + 1, y, pc, vs, st, M => am_run (fun z a M' => am_fl T g N z 0 a [] M') g (T y).1 (T y).2.1 (T y).2.2 (fun pc' vs' st' M' => am_fl T g N y pc' vs' st' M') 400 pc (am_ent (T y).2.2 pc vs) st M
section Run
variable {Γ Γ' : Nat → List Value → am_M → Option am_R} {g : am_G} {rz : Nat} {code : List (Nat × List am_E)} {cuts : List (Nat × List Nat)} {κ κ' : Nat → List Value → List Value → am_M → Option am_R}
/-- one place of a run, read backwards -/
theorem am_run_iv {n pc : Nat} {ls : am_L} {st : List Value} {M : am_M} {r : am_R} (h : am_run Γ g rz code cuts κ (n + 1) pc ls st M = some r) : ∃ e, am_at code pc = some e ∧ am_step Γ g rz e ls st M (fun pc' ls' st' M' => match am_cut cuts pc' with
      | some keep => (match am_pick ls' keep with
        | some vs => κ pc' vs st' M'
        | none => none)
      | none => am_run Γ g rz code cuts κ n pc' ls' st' M') = some r := by
  unfold am_run at h
  split at h
  · cases h
  · exact ⟨_, by assumption, h⟩
theorem am_run_to {n pc : Nat} {ls : am_L} {st : List Value} {M : am_M} {r : am_R} {e : am_E} (he : am_at code pc = some e) (h : am_step Γ g rz e ls st M (fun pc' ls' st' M' => match am_cut cuts pc' with
      | some keep => (match am_pick ls' keep with
        | some vs => κ pc' vs st' M'
        | none => none)
      | none => am_run Γ g rz code cuts κ n pc' ls' st' M') = some r) : am_run Γ g rz code cuts κ (n + 1) pc ls st M = some r := by
  unfold am_run
  rw [he]
  exact h
theorem am_run_mono (hΓ : ∀ z a M r, Γ z a M = some r → Γ' z a M = some r) (hκ : ∀ pc vs st M r, κ pc vs st M = some r → κ' pc vs st M = some r) :
    ∀ (n pc : Nat) (ls : am_L) (st : List Value) (M : am_M) (r : am_R), am_run Γ g rz code cuts κ n pc ls st M = some r → am_run Γ' g rz code cuts κ' n pc ls st M = some r
  | 0, _, _, _, _, _, h => by cases h
  | n + 1, pc, ls, st, M, r, h => by
    obtain ⟨e, he, h⟩ := am_run_iv h
    refine am_run_to he ?_
    have key : ∀ pc' ls' st' M' r', (match am_cut cuts pc' with
        | some keep => (match am_pick ls' keep with
          | some vs => κ pc' vs st' M'
          | none => none)
        | none => am_run Γ g rz code cuts κ n pc' ls' st' M') = some r' → (match am_cut cuts pc' with
        | some keep => (match am_pick ls' keep with
          | some vs => κ' pc' vs st' M'
          | none => none)
        | none => am_run Γ' g rz code cuts κ' n pc' ls' st' M') = some r' := by
      intro pc' ls' st' M' r' h
      split at h
      · split at h
        · exact hκ _ _ _ _ _ h
        · cases h
      · exact am_run_mono hΓ hκ n _ _ _ _ _ h
    rcases am_step_iv h with h1 | ⟨pc', ls', st', M', h1, h2⟩ | ⟨z, a, q, pc', ls', st', M', h0, h1, h2⟩
    · exact h1 _ _
    · exact h2 _ _ _ (key _ _ _ _ _ h1)
    · exact h2 _ _ _ (hΓ _ _ _ _ h0) (key _ _ _ _ _ h1)
end Run
section Lim
variable {T : am_T} {g : am_G}
theorem am_fl_succ : ∀ (N y pc : Nat) (vs st : List Value) (M : am_M) (r : am_R), am_fl T g N y pc vs st M = some r → am_fl T g (N + 1) y pc vs st M = some r
  | 0, _, _, _, _, _, _, h => by cases h
  | N + 1, y, pc, vs, st, M, r, h => by
    unfold am_fl at h ⊢
    exact am_run_mono (fun z a M r h => am_fl_succ N z 0 a [] M r h) (fun pc vs st M r h => am_fl_succ N y pc vs st M r h) _ _ _ _ _ _ h
theorem am_fl_mono {N N' : Nat} (hN : N ≤ N') {y pc : Nat} {vs st : List Value} {M : am_M} {r : am_R} (h : am_fl T g N y pc vs st M = some r) : am_fl T g N' y pc vs st M = some r := by
  induction hN with
  | refl => exact h
  | step _ ih => exact am_fl_succ _ _ _ _ _ _ _ ih
noncomputable def am_F (T : am_T) (g : am_G) (y pc : Nat) (vs st : List Value) (M : am_M) : Option am_R :=
  @dite _ (∃ N, ∃ r, am_fl T g N y pc vs st M = some r) (Classical.propDecidable _) (fun h => am_fl T g (Classical.choose h) y pc vs st M) (fun _ => none)
theorem am_F_iff {y pc : Nat} {vs st : List Value} {M : am_M} {r : am_R} : am_F T g y pc vs st M = some r ↔ ∃ N, am_fl T g N y pc vs st M = some r := by
  constructor
  · intro h
    unfold am_F at h
    split at h
    · exact ⟨_, h⟩
    · cases h
  · intro ⟨N, h⟩
    have hx : ∃ N, ∃ r, am_fl T g N y pc vs st M = some r := ⟨N, r, h⟩
    unfold am_F
    rw [dif_pos hx]
    obtain ⟨r', h'⟩ := Classical.choose_spec hx
    have e1 := am_fl_mono (Nat.le_max_left (Classical.choose hx) N) h'
    have e2 := am_fl_mono (Nat.le_max_right (Classical.choose hx) N) h
    rw [h', ← e1, e2]
theorem am_run_fin {rz : Nat} {code : List (Nat × List am_E)} {cuts : List (Nat × List Nat)} {y : Nat} : ∀ (n pc : Nat) (ls : am_L) (st : List Value) (M : am_M) (r : am_R),
    am_run (fun z a M' => am_F T g z 0 a [] M') g rz code cuts (am_F T g y) n pc ls st M = some r → ∃ N, am_run (fun z a M' => am_fl T g N z 0 a [] M') g rz code cuts (fun pc' vs' st' M' => am_fl T g N y pc' vs' st' M') n pc ls st M = some r
  | 0, _, _, _, _, _, h => by cases h
  | n + 1, pc, ls, st, M, r, h => by
    obtain ⟨e, he, h⟩ := am_run_iv h
    have key : ∀ pc' ls' st' M' r', (match am_cut cuts pc' with
        | some keep => (match am_pick ls' keep with
          | some vs => am_F T g y pc' vs st' M'
          | none => none)
        | none => am_run (fun z a M' => am_F T g z 0 a [] M') g rz code cuts (am_F T g y) n pc' ls' st' M') = some r' → ∃ N, ∀ N', N ≤ N' → (match am_cut cuts pc' with
        | some keep => (match am_pick ls' keep with
          | some vs => am_fl T g N' y pc' vs st' M'
          | none => none)
        | none => am_run (fun z a M' => am_fl T g N' z 0 a [] M') g rz code cuts (fun pc' vs' st' M' => am_fl T g N' y pc' vs' st' M') n pc' ls' st' M') = some r' := by
      intro pc' ls' st' M' r' h
      split at h
      · split at h
        · obtain ⟨N, hN⟩ := am_F_iff.mp h
          exact ⟨N, fun N' hle => am_fl_mono hle hN⟩
        · cases h
      · obtain ⟨N, hN⟩ := am_run_fin n _ _ _ _ _ h
        exact ⟨N, fun N' hle => am_run_mono (fun z a M r h => am_fl_mono hle h) (fun pc vs st M r h => am_fl_mono hle h) _ _ _ _ _ _ hN⟩
    rcases am_step_iv h with h1 | ⟨pc', ls', st', M', h1, h2⟩ | ⟨z, a, q, pc', ls', st', M', h0, h1, h2⟩
    · exact ⟨0, am_run_to he (h1 _ _)⟩
    · obtain ⟨N, hN⟩ := key _ _ _ _ _ h1
      exact ⟨N, am_run_to he (h2 _ _ _ (hN N (Nat.le_refl N)))⟩
    · obtain ⟨N, hN⟩ := key _ _ _ _ _ h1
      obtain ⟨N2, hN2⟩ := am_F_iff.mp h0
      refine ⟨max N N2, am_run_to he (h2 _ _ _ (am_fl_mono (Nat.le_max_right N N2) hN2) (hN _ (Nat.le_max_left N N2)))⟩
/-- the rule by which every row of a method is used: its run out of a cut, with what calls answer and later cuts give -/
theorem am_in {y pc rz : Nat} {code : List (Nat × List am_E)} {cuts : List (Nat × List Nat)} {vs st : List Value} {M : am_M} {r : am_R} (hT : T y = (rz, code, cuts))
    (h : am_run (fun z a M' => am_F T g z 0 a [] M') g rz code cuts (am_F T g y) 400 pc (am_ent cuts pc vs) st M = some r) : am_F T g y pc vs st M = some r := by
  obtain ⟨N, hN⟩ := am_run_fin 400 _ _ _ _ _ h
  refine am_F_iff.mpr ⟨N + 1, ?_⟩
  unfold am_fl
  rw [hT]
  exact hN
/-- the same, the limit being named -/
abbrev am_FT : Type := Nat → Nat → List Value → List Value → am_M → Option am_R
theorem am_inF {F : am_FT} (hF : F = am_F T g) {y pc rz : Nat} {code : List (Nat × List am_E)} {cuts : List (Nat × List Nat)} {vs st : List Value} {M : am_M} {r : am_R} (hT : T y = (rz, code, cuts))
    (h : am_run (fun z a M' => F z 0 a [] M') g rz code cuts (F y) 400 pc (am_ent cuts pc vs) st M = some r) : F y pc vs st M = some r := by
  subst hF
  exact am_in hT h
end Lim
