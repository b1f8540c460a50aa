/-! THE LAW: its rows are as the bytes say; its head makes the objects; its loop is the abstract machine -/
noncomputable def lck (i : Nat) : Bool := match k_Law_law[i]? with
  | some b => b.2.all fun e => am_ck 18 code 10 4 2 (some .boolean) e
  | none => true
set_option maxRecDepth 200000 in
set_option maxHeartbeats 8000000 in
theorem lck_0 : ((List.range' 0 8).all lck) = true := by decide +kernel
set_option maxRecDepth 200000 in
set_option maxHeartbeats 8000000 in
theorem lck_8 : ((List.range' 8 8).all lck) = true := by decide +kernel
set_option maxRecDepth 200000 in
set_option maxHeartbeats 8000000 in
theorem lck_16 : ((List.range' 16 8).all lck) = true := by decide +kernel
set_option maxRecDepth 200000 in
set_option maxHeartbeats 8000000 in
theorem lck_24 : ((List.range' 24 8).all lck) = true := by decide +kernel
set_option maxRecDepth 200000 in
set_option maxHeartbeats 8000000 in
theorem lck_32 : ((List.range' 32 8).all lck) = true := by decide +kernel
set_option maxRecDepth 200000 in
set_option maxHeartbeats 8000000 in
theorem lck_40 : ((List.range' 40 8).all lck) = true := by decide +kernel
set_option maxRecDepth 200000 in
set_option maxHeartbeats 8000000 in
theorem lck_48 : ((List.range' 48 8).all lck) = true := by decide +kernel
set_option maxRecDepth 200000 in
set_option maxHeartbeats 8000000 in
theorem lck_56 : ((List.range' 56 8).all lck) = true := by decide +kernel
set_option maxRecDepth 200000 in
set_option maxHeartbeats 8000000 in
theorem lck_64 : ((List.range' 64 8).all lck) = true := by decide +kernel
set_option maxRecDepth 200000 in
set_option maxHeartbeats 8000000 in
theorem lck_72 : ((List.range' 72 8).all lck) = true := by decide +kernel
set_option maxRecDepth 200000 in
set_option maxHeartbeats 8000000 in
theorem lck_80 : ((List.range' 80 8).all lck) = true := by decide +kernel
set_option maxRecDepth 200000 in
set_option maxHeartbeats 8000000 in
theorem lck_88 : ((List.range' 88 7).all lck) = true := by decide +kernel
theorem lck_all : ∀ i : Nat, lck i = true := by
  intro i
  have key : ∀ a n : Nat, ((List.range' a n).all lck) = true → a ≤ i → i < a + n → lck i = true := fun a n h h1 h2 => List.all_eq_true.mp h i (List.mem_range'_1.mpr ⟨h1, h2⟩)
  by_cases h0 : i < 8
  · exact key 0 8 lck_0 (by omega) (by omega)
  by_cases h8 : i < 16
  · exact key 8 8 lck_8 (by omega) (by omega)
  by_cases h16 : i < 24
  · exact key 16 8 lck_16 (by omega) (by omega)
  by_cases h24 : i < 32
  · exact key 24 8 lck_24 (by omega) (by omega)
  by_cases h32 : i < 40
  · exact key 32 8 lck_32 (by omega) (by omega)
  by_cases h40 : i < 48
  · exact key 40 8 lck_40 (by omega) (by omega)
  by_cases h48 : i < 56
  · exact key 48 8 lck_48 (by omega) (by omega)
  by_cases h56 : i < 64
  · exact key 56 8 lck_56 (by omega) (by omega)
  by_cases h64 : i < 72
  · exact key 64 8 lck_64 (by omega) (by omega)
  by_cases h72 : i < 80
  · exact key 72 8 lck_72 (by omega) (by omega)
  by_cases h80 : i < 88
  · exact key 80 8 lck_80 (by omega) (by omega)
  by_cases h88 : i < 95
  · exact key 88 7 lck_88 (by omega) (by omega)
  have hl : k_Law_law.length = 95 := by decide +kernel
  unfold lck
  rw [List.getElem?_eq_none_iff.mpr (by rw [hl]; omega)]
theorem law_cks : am_cks 275 = true := by
  have h0 : am_c0 275 = true := by decide +kernel
  unfold am_cks
  rw [h0, Bool.true_and]
  refine List.all_eq_true.mpr fun b hb => ?_
  obtain ⟨i, hi⟩ := List.getElem?_of_mem hb
  have h := lck_all i
  unfold lck at h
  have hi' : k_Law_law[i]? = some b := hi
  rw [hi'] at h
  exact h
set_option maxRecDepth 200000 in
set_option maxHeartbeats 8000000 in
theorem al_hck : ∀ z : Nat, z < 13 → al_cks z = true
  | 0, _ => by decide +kernel
  | 1, _ => by decide +kernel
  | 2, _ => by decide +kernel
  | 3, _ => by decide +kernel
  | 4, _ => by decide +kernel
  | 5, _ => by decide +kernel
  | 6, _ => by decide +kernel
  | 7, _ => by decide +kernel
  | 8, _ => by decide +kernel
  | 9, _ => by decide +kernel
  | 10, _ => by decide +kernel
  | 11, _ => by decide +kernel
  | 12, _ => by decide +kernel
  | z + 13, h => absurd h (by omega)
set_option maxRecDepth 200000 in
theorem al_hck13 : ((al_T 13).all fun b => b.2.all fun e => al_ck 18 code 11 4 e) = true := by decide +kernel
