/-! what the second machine's states say of the heap -/
def al_isr (ty : FieldType) : Bool := match ty with
  | .object _ => true
  | .array _ => true
  | _ => false
theorem al_fYok : ∀ c : Nat, c < 13 → ∀ k : Nat, k < am_nf c → am_ft c k = 3 → al_isr (am_fY c k) = true := by decide +kernel
theorem al_isr_v {ty : FieldType} (h : al_isr ty = true) (a : Nat) : narrow ty (.ref a) = .ref a ∧ fits ty (.ref a) = true ∧ defaultValue ty = .null := by
  cases ty <;> first | exact ⟨rfl, rfl, rfl⟩ | cases h
theorem am_ce_congr {adr : Nat → Nat} {cA : Nat → ClassId} {g g' : am_G} {M M' : am_M} {a : Nat} (hk : gK g' a = gK g a) (hr : ∀ k : Nat, gR g' a k = gR g a k) (h1 : ∀ i : Nat, M'.1 a i = M.1 a i) (h2 : ∀ i : Nat, M'.2 a i = M.2 a i) : am_ce adr cA g' M' a = am_ce adr cA g M a := by
  have e1 : M'.1 a = M.1 a := funext h1
  have e2 : M'.2 a = M.2 a := funext h2
  unfold am_ce am_fs rI rJ
  rw [hk, e1, e2]
  simp only [hr]
section AlH
variable {adr : Nat → Nat} {fv : Value} {B : Nat} {H0 : Heap} {D : va_G} {cA : Nat → ClassId} {g0 : am_G} {S : al_S} {H H1 : Heap}
theorem al_K_add {k : Nat × Nat} {sl : Nat} (a : Nat) : gK (al_g g0 (al_add S k sl)) a = if a = S.1 then k else gK (al_g g0 S) a := by
  show al_K g0 ((S.1, k) :: S.2.2.1) a = _
  unfold al_K al_kl
  cases hb : Nat.beq S.1 a with
  | true => rw [if_pos (Nat.eq_of_beq_eq_true hb).symm]; rfl
  | false =>
    have hne : ¬ a = S.1 := fun q => by rw [q, Nat.beq_refl] at hb; cases hb
    rw [if_neg hne]; rfl
theorem al_R_ref {a k q : Nat} (b j : Nat) : gR (al_g g0 (al_ref S a k q)) b j = if b = a ∧ j = k then some q else gR (al_g g0 S) b j := by
  show al_R g0 ((a, k, q) :: S.2.2.2.1) b j = _
  unfold al_R al_rl
  cases hb : (Nat.beq a b && Nat.beq k j) with
  | true =>
    rw [Bool.and_eq_true] at hb
    rw [if_pos ⟨(Nat.eq_of_beq_eq_true hb.1).symm, (Nat.eq_of_beq_eq_true hb.2).symm⟩]; rfl
  | false =>
    have hne : ¬ (b = a ∧ j = k) := fun q => by rw [q.1, q.2, Nat.beq_refl, Nat.beq_refl] at hb; cases hb
    rw [if_neg hne]; rfl
theorem al_R_new (hB : al_B g0) (hJ : al_J S) {a : Nat} (h : S.1 ≤ a) (h2 : a < 1000000) (k : Nat) : gR (al_g g0 S) a k = none := by
  show al_R g0 S.2.2.2.1 a k = none
  unfold al_R
  split
  · rename_i q hq
    exact absurd (hJ.2.1 _ (al_rl_mem hq)).1 (Nat.not_lt.mpr h)
  · exact (hB.1 a h2).2 k
theorem al_lt (hB : al_B g0) (hJ : al_J S) {a : Nat} (h : (gK (al_g g0 S) a).1 < 50) : a < S.1 := (hJ.1 _ (al_Kof hB h)).1
theorem al_J_add (hJ : al_J S) {k : Nat × Nat} {sl : Nat} (hn : S.1 + 1 ≤ 1000000) (hk : k.1 < 50) (ht : 4 ≤ k.1 → ∃ ty, am_ty k.1 = some ty ∧ ty.isReference = true) : al_J (al_add S k sl) := by
  refine ⟨fun q hq => ?_, fun q hq => ?_, fun q hq => ?_, hn⟩
  · rcases List.mem_cons.mp hq with rfl | hq
    · exact ⟨Nat.lt_succ_self _, hk, ht⟩
    · obtain ⟨h1, h2⟩ := hJ.1 q hq
      exact ⟨Nat.lt_succ_of_lt h1, h2⟩
  · obtain ⟨h1, h2⟩ := hJ.2.1 q hq
    exact ⟨Nat.lt_succ_of_lt h1, Nat.lt_succ_of_lt h2⟩
  · exact Nat.lt_succ_of_lt (hJ.2.2.1 q hq)
theorem al_J_ref (hJ : al_J S) {a k q : Nat} (ha : a < S.1) (hq : q < S.1) : al_J (al_ref S a k q) := by
  refine ⟨hJ.1, fun x hx => ?_, hJ.2.2⟩
  rcases List.mem_cons.mp hx with rfl | hx
  · exact ⟨ha, hq⟩
  · exact hJ.2.1 x hx
theorem al_J_int (hJ : al_J S) {a i : Nat} {x : Int32} (ha : a < S.1) : al_J (al_int S a i x) := by
  refine ⟨hJ.1, hJ.2.1, fun q hq => ?_, hJ.2.2.2⟩
  rcases List.mem_cons.mp hq with rfl | hq
  · exact ha
  · exact hJ.2.2.1 q hq
theorem al_H_add (hadr : ∀ a : Nat, a < 1000000 → adr a = B + a) (hB : al_B g0) (hJ : al_J S) {k : Nat × Nat} {sl : Nat} (hn : S.1 + 1 ≤ 1000000) (h : am_H adr B H0 D cA (al_g g0 S) (al_m S.2.2.2.2) H) (z : H1.size = H.size + 1) (o : ∀ q : Nat, q < H.size → H1[q]? = H[q]?)
    (he : va_at D am_cls (H.size, am_ce adr cA (al_g g0 (al_add S k sl)) (al_m S.2.2.2.2) S.1) H1) : am_H adr B H0 D cA (al_g g0 (al_add S k sl)) (al_m (al_add S k sl).2.2.2.2) H1 := by
  obtain ⟨h1, h2, h3⟩ := h
  replace h1 : H.size = B + S.1 := h1
  refine ⟨by show H1.size = B + (S.1 + 1); omega, fun q hq => ?_, fun a ha => ?_⟩
  · rw [o q (by omega)]; exact h2 q hq
  · by_cases e : a = S.1
    · subst e
      rw [show adr S.1 = H.size by rw [hadr _ (by omega), h1]]
      exact he
    · rw [al_K_add, if_neg e] at ha
      have hl := al_lt hB hJ ha
      have e2 : am_ce adr cA (al_g g0 (al_add S k sl)) (al_m (al_add S k sl).2.2.2.2) a = am_ce adr cA (al_g g0 S) (al_m S.2.2.2.2) a := am_ce_congr (by rw [al_K_add, if_neg e]) (fun _ => rfl) (fun _ => rfl) (fun _ => rfl)
      rw [e2]
      exact (h3 a ha).kept (o _ (by show adr a < H.size; rw [hadr a (by have := hJ.2.2.2; omega)]; omega))
theorem al_H_ref (hadr : ∀ a : Nat, a < 1000000 → adr a = B + a) (hB : al_B g0) (hJ : al_J S) {a k q : Nat} (h : am_H adr B H0 D cA (al_g g0 S) (al_m S.2.2.2.2) H) (ha : (gK (al_g g0 S) a).1 < 50) (z : H1.size = H.size) (o : ∀ q : Nat, q ≠ adr a → H1[q]? = H[q]?)
    (he : va_at D am_cls (adr a, am_ce adr cA (al_g g0 (al_ref S a k q)) (al_m S.2.2.2.2) a) H1) : am_H adr B H0 D cA (al_g g0 (al_ref S a k q)) (al_m (al_ref S a k q).2.2.2.2) H1 := by
  obtain ⟨h1, h2, h3⟩ := h
  have hm := hJ.2.2.2
  have hla := al_lt hB hJ ha
  have ea := hadr a (by omega)
  refine ⟨by rw [z]; exact h1, fun x hx => ?_, fun b hb => ?_⟩
  · rw [o x (by omega)]; exact h2 x hx
  · by_cases e : b = a
    · subst e; exact he
    · have hb' : (gK (al_g g0 S) b).1 < 50 := hb
      have hlb := al_lt hB hJ hb'
      have eb := hadr b (by omega)
      have e2 : am_ce adr cA (al_g g0 (al_ref S a k q)) (al_m (al_ref S a k q).2.2.2.2) b = am_ce adr cA (al_g g0 S) (al_m S.2.2.2.2) b := am_ce_congr rfl (fun j => by rw [al_R_ref, if_neg (fun x => e x.1)]) (fun _ => rfl) (fun _ => rfl)
      rw [e2]
      exact (h3 b hb').kept (o _ (by show adr b ≠ adr a; omega))
theorem al_fs_ref {a c k q : Nat} {M : am_M} (hk : k < am_nf c) (ht : am_ft c k = 3) : am_fs adr (al_g g0 (al_ref S a k q)) M a c = (am_fs adr (al_g g0 S) M a c).set k (.ref (adr q)) := by
  apply List.ext_getElem?
  intro j
  rw [List.getElem?_set]
  by_cases hj : j < am_nf c
  · rw [am_fs_at hj]
    by_cases hkj : k = j
    · subst hkj
      rw [if_pos rfl, if_pos (by rw [am_fs_len]; exact hk), ht, al_R_ref, if_pos ⟨rfl, rfl⟩]
      rfl
    · rw [if_neg hkj, am_fs_at hj, al_R_ref, if_neg (fun x => hkj x.2.symm)]
  · have h1 : (am_fs adr (al_g g0 (al_ref S a k q)) M a c)[j]? = none := by rw [List.getElem?_eq_none_iff, am_fs_len]; omega
    have h2 : (am_fs adr (al_g g0 S) M a c)[j]? = none := by rw [List.getElem?_eq_none_iff, am_fs_len]; omega
    rw [h1, if_neg (by omega), h2]
/-- a born object's fields -/
theorem al_fs_new {M : am_M} {g : am_G} {a c : Nat} (hc : c < 13) (hr : ∀ k : Nat, gR g a k = none) (h1 : ∀ i : Nat, M.1 a i = 0) (h2 : ∀ i : Nat, M.2 a i = 0) (j : Nat) (hj : j < am_nf c) : defaultValue (am_fY c j) = vp_V (am_fs adr g M a c) j := by
  unfold vp_V
  rw [List.getD_eq_getElem?_getD, am_fs_at hj]
  have hok := al_fYok c hc j hj
  unfold am_ft at hok ⊢
  unfold rI rJ
  rw [h1, h2, hr]
  split at hok <;> first | (rename_i e; rw [e]; rfl) | skip
  rename_i n1 n2 n3
  have h3 := (al_isr_v (hok rfl) 0).2.2
  rw [h3]
  split <;> first | contradiction | rfl
end AlH
