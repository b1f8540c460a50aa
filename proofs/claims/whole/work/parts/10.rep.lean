/-! how the abstract machine's memory stands in the heap -/
def am_v (adr : Nat → Nat) (fv : Value) : Value → Value
  | .ref a => if a = am_fid then fv else .ref (adr a)
  | v => v
def am_l (adr : Nat → Nat) (fv : Value) (l : am_L) : List (Nat × Value) := l.map fun q => (q.1, am_v adr fv q.2)
def am_fs (adr : Nat → Nat) (g : am_G) (M : am_M) (a c : Nat) : List Value := (List.range (am_nf c)).map fun k => match am_ft c k with
  | 0 => .int (rI M a k)
  | 1 => .int (rI M a k)
  | 2 => .long (rJ M a k)
  | _ => va_rf ((gR g a k).map adr)
def am_ce (adr : Nat → Nat) (cA : Nat → ClassId) (g : am_G) (M : am_M) (a : Nat) : va_E := match gK g a with
  | (0, c) => .inr (c, am_fs adr g M a c)
  | (1, n) => .inl (cA 1, n, .inl (M.1 a))
  | (2, n) => .inl (cA 2, n, .inl (M.1 a))
  | (3, n) => .inl (cA 3, n, .inr (.inl (M.2 a)))
  | (t, n) => .inl (cA t, n, .inr (.inr (.inr (.inr fun j => (gR g a j).map adr))))
def am_ty (t : Nat) : Option FieldType := match t with
  | 1 => some .int
  | 2 => some .boolean
  | 3 => some .long
  | 5 => some (.object "RunSayer$Exam")
  | 9 => some (.object "RunSayer$Pupil")
  | 10 => some (.object "RunSayer$Route")
  | 11 => some (.object "RunSayer$Rule")
  | 12 => some (.object "RunSayer$Sheet")
  | 40 => some (.array .int)
  | _ => none
def am_H (adr : Nat → Nat) (B : Nat) (H0 : Heap) (D : va_G) (cA : Nat → ClassId) (g : am_G) (M : am_M) (H : Heap) : Prop :=
  H.size = B + g.1 ∧ (∀ q : Nat, q < B → H[q]? = H0[q]?) ∧ ∀ a : Nat, (gK g a).1 < 50 → va_at D am_cls (adr a, am_ce adr cA g M a) H
def am_Gk (adr : Nat → Nat) (B : Nat) (g : am_G) : Prop :=
  (∀ a : Nat, (gK g a).1 < 50 → adr a = B + a) ∧ (∀ a : Nat, (gK g a).1 ≠ 99 → a ≠ am_fid) ∧ (∀ a k q : Nat, gR g a k = some q → q ≠ am_fid) ∧ (∀ a t n : Nat, gK g a = (t, n) → 4 ≤ t → t < 50 → ∃ ty, am_ty t = some ty ∧ ty.isReference = true)
def am_KN (adr : Nat → Nat) (fv : Value) (B : Nat) (D : va_G) (cA : Nat → ClassId) (g : am_G) (U : State) (H : Heap) : Prop :=
  (∀ (c : Nat) (q : vw_C), am_cls[c]? = some q → u_Kn U q.1 q.2.1 q.2.2 (D.1 c) (D.2 c)) ∧
  (∀ (t : Nat) (ty : FieldType), am_ty t = some ty → ArrOfT U (cA t) ty ∧ va_RA U (cA t) ty) ∧
  (∀ a n : Nat, gK g a = (51, n) → va_T .int (adr a) n (fun j => .int (gO g a j)) (fun q : Nat => B ≤ q) U H) ∧
  (∀ a n : Nat, gK g a = (52, n) → va_T .byte (adr a) n (fun j => .int (gO g a j)) (fun q : Nat => B ≤ q) U H) ∧
  (∀ a : Nat, gK g a = (60, 13) → va_O "java/lang/String" (adr a) (fun q : Nat => B ≤ q) U H ∧ va_OF "java/lang/String" "coder" "B" (.int (gO g a 1)) (adr a) (fun q : Nat => B ≤ q) U H ∧ ∀ q : Nat, gR g a 0 = some q → va_OF "java/lang/String" "value" "[B" (.ref (adr q)) (adr a) (fun q : Nat => B ≤ q) U H) ∧
  va_Z "RunSayer$City" "BROADER" "[I" (.ref (adr am_bid)) (fun q : Nat => B ≤ q) U H ∧
  va_Z "java/lang/String" "COMPACT_STRINGS" "Z" (.int 1) (fun q : Nat => B ≤ q) U H ∧
  va_Z "jdk/internal/util/Preconditions" "SIOOBE_FORMATTER" "Ljava/util/function/BiFunction;" fv (fun q : Nat => B ≤ q) U H ∧
  (∀ (k o idx : Nat) (tx : String), am_strs[k]? = some (o, idx, tx) → vk_R (mO o) idx tx (adr (am_sid k)) U)
section Rep
variable {adr : Nat → Nat} {fv : Value} {B : Nat} {H0 : Heap} {D : va_G} {cA : Nat → ClassId} {g : am_G} {M : am_M} {H : Heap}
theorem am_KN.moved {u U : State} (hvm : u.vm.Alike U.vm) (hk : ∀ (own tx : String) (k a : Nat), vk_R own k tx a u → vk_R own k tx a U) (h : am_KN adr fv B D cA g u H) : am_KN adr fv B D cA g U H := by
  obtain ⟨h1, h2, h3, h4, h5, h6, h7, h8, h9⟩ := h
  exact ⟨fun c q hq => u_Kn_moved hvm (h1 c q hq), fun t ty ht => ⟨arrOfT_moved hvm (h2 t ty ht).1, (h2 t ty ht).2.moved hvm⟩, fun a n ha => (h3 a n ha).moved hvm, fun a n ha => (h4 a n ha).moved hvm,
    fun a ha => ⟨(h5 a ha).1.moved hvm, (h5 a ha).2.1.moved hvm, fun q hq => ((h5 a ha).2.2 q hq).moved hvm⟩, h6.moved hvm, h7.moved hvm, h8.moved hvm, fun k o idx tx hk' => hk _ _ _ _ (h9 k o idx tx hk')⟩
theorem am_KN.warm {s U : State} (hW : s.WarmedH U.vm) (h : am_KN adr fv B D cA g s H) : am_KN adr fv B D cA g U H := h.moved hW.alike (fun _ _ _ _ => vk_R.warm hW)
theorem am_KN.same {s U : State} (hv : U.vm = s.vm) (h : am_KN adr fv B D cA g s H) : am_KN adr fv B D cA g U H := h.moved (by rw [hv]; exact Vm.Alike.refl _) (fun _ _ _ _ => vk_R.same hv)
theorem am_KN.heap {U : State} {H' : Heap} (h : am_KN adr fv B D cA g U H) (hq : ∀ q : Nat, q < B → H'[q]? = H[q]?) : am_KN adr fv B D cA g U H' := by
  obtain ⟨h1, h2, h3, h4, h5, h6, h7, h8, h9⟩ := h
  have k : ∀ a : Nat, a < H.size → ¬ (fun q : Nat => B ≤ q) a → H'[a]? = H[a]? := fun a _ ha => hq a (Nat.lt_of_not_le ha)
  exact ⟨h1, h2, fun a n ha => (h3 a n ha).kept k, fun a n ha => (h4 a n ha).kept k, fun a ha => ⟨(h5 a ha).1.kept k, (h5 a ha).2.1.kept k, fun q hq => ((h5 a ha).2.2 q hq).kept k⟩, h6.kept k, h7.kept k, h8.kept k, h9⟩
theorem am_v_cat (fv0 : fv = .null ∨ ∃ t, fv = .ref t) (v : Value) : (am_v adr fv v).category = v.category := by
  cases v <;> try rfl
  show (if _ then _ else _ : Value).category = _
  split
  · rcases fv0 with rfl | ⟨t, rfl⟩ <;> rfl
  · rfl
/-- a cell written: all else as it was -/
theorem am_H.set {a : Nat} {M' : am_M} {H1 : Heap} (hG : am_Gk adr B g) (h : am_H adr B H0 D cA g M H) (ha : (gK g a).1 < 50) (z : H1.size = H.size) (oq : ∀ q : Nat, q ≠ adr a → H1[q]? = H[q]?)
    (he : va_at D am_cls (adr a, am_ce adr cA g M' a) H1) (hM : ∀ b : Nat, b ≠ a → am_ce adr cA g M' b = am_ce adr cA g M b) : am_H adr B H0 D cA g M' H1 := by
  obtain ⟨h1, h2, h3⟩ := h
  have ea := hG.1 a ha
  refine ⟨z.trans h1, fun q hq => ?_, fun b hb => ?_⟩
  · rw [oq q (by omega)]; exact h2 q hq
  · by_cases hba : b = a
    · subst hba; exact he
    · rw [hM b hba]
      exact (h3 b hb).kept (oq _ (by show adr b ≠ adr a; rw [hG.1 b hb, ea]; omega))
theorem am_ce_wI (a i : Nat) (x : Int32) (b : Nat) (hb : b ≠ a) : am_ce adr cA g (wI M a i x) b = am_ce adr cA g M b := by
  have e : (wI M a i x).1 b = M.1 b := by funext j; show (if b = a ∧ j = i then x else M.1 b j) = _; rw [if_neg (fun q => hb q.1)]
  unfold am_ce am_fs rI rJ
  rw [e]
  rfl
theorem am_ce_wJ (a i : Nat) (x : Int64) (b : Nat) (hb : b ≠ a) : am_ce adr cA g (wJ M a i x) b = am_ce adr cA g M b := by
  have e : (wJ M a i x).2 b = M.2 b := by funext j; show (if b = a ∧ j = i then x else M.2 b j) = _; rw [if_neg (fun q => hb q.1)]
  unfold am_ce am_fs rI rJ
  rw [e]
  rfl
theorem am_ce_wA (a : Nat) (f : Nat → Int32) (b : Nat) (hb : b ≠ a) : am_ce adr cA g (wA M a f) b = am_ce adr cA g M b := by
  have e : (wA M a f).1 b = M.1 b := by funext j; show (if b = a then f j else M.1 b j) = _; rw [if_neg hb]
  unfold am_ce am_fs rI rJ
  rw [e]
  rfl
theorem am_fs_len (a c : Nat) : (am_fs adr g M a c).length = am_nf c := by simp [am_fs]
theorem am_fs_at {a c k : Nat} (hk : k < am_nf c) : (am_fs adr g M a c)[k]? = some (match am_ft c k with
  | 0 => .int (rI M a k)
  | 1 => .int (rI M a k)
  | 2 => .long (rJ M a k)
  | _ => va_rf ((gR g a k).map adr)) := by
  simp [am_fs, hk]
theorem am_fs_setI {a c k : Nat} {x : Int32} (hk : k < am_nf c) (ht : am_ft c k = 0 ∨ am_ft c k = 1) : am_fs adr g (wI M a k x) a c = (am_fs adr g M a c).set k (.int x) := by
  apply List.ext_getElem?
  intro j
  rw [List.getElem?_set]
  by_cases hj : j < am_nf c
  · rw [am_fs_at hj]
    by_cases hkj : k = j
    · subst hkj
      rw [if_pos rfl, if_pos (by rw [am_fs_len]; exact hk)]
      have e : rI (wI M a k x) a k = x := by show (if a = a ∧ k = k then x else _) = x; rw [if_pos ⟨rfl, rfl⟩]
      rcases ht with ht | ht <;> rw [ht] <;> simp only [e]
    · rw [if_neg hkj, am_fs_at hj]
      have e : rI (wI M a k x) a j = rI M a j := by show (if a = a ∧ j = k then x else _) = _; rw [if_neg (fun q => hkj q.2.symm)]; rfl
      rw [e]; rfl
  · have h1 : (am_fs adr g (wI M a k x) a c)[j]? = none := by rw [List.getElem?_eq_none_iff, am_fs_len]; omega
    have h2 : (am_fs adr g M a c)[j]? = none := by rw [List.getElem?_eq_none_iff, am_fs_len]; omega
    rw [h1, if_neg (by omega), h2]
theorem am_fs_setJ {a c k : Nat} {x : Int64} (hk : k < am_nf c) (ht : am_ft c k = 2) : am_fs adr g (wJ M a k x) a c = (am_fs adr g M a c).set k (.long x) := by
  apply List.ext_getElem?
  intro j
  rw [List.getElem?_set]
  by_cases hj : j < am_nf c
  · rw [am_fs_at hj]
    by_cases hkj : k = j
    · subst hkj
      rw [if_pos rfl, if_pos (by rw [am_fs_len]; exact hk)]
      have e : rJ (wJ M a k x) a k = x := by show (if a = a ∧ k = k then x else _) = x; rw [if_pos ⟨rfl, rfl⟩]
      rw [ht]; simp only [e]
    · rw [if_neg hkj, am_fs_at hj]
      have e : rJ (wJ M a k x) a j = rJ M a j := by show (if a = a ∧ j = k then x else _) = _; rw [if_neg (fun q => hkj q.2.symm)]; rfl
      rw [e]; rfl
  · have h1 : (am_fs adr g (wJ M a k x) a c)[j]? = none := by rw [List.getElem?_eq_none_iff, am_fs_len]; omega
    have h2 : (am_fs adr g M a c)[j]? = none := by rw [List.getElem?_eq_none_iff, am_fs_len]; omega
    rw [h1, if_neg (by omega), h2]
theorem am_wI1 (a i : Nat) (x : Int32) : (wI M a i x).1 a = upd (M.1 a) i x := by
  funext j; show (if a = a ∧ j = i then x else M.1 a j) = if j = i then x else M.1 a j
  by_cases h : j = i <;> simp [h]
theorem am_wJ1 (a i : Nat) (x : Int64) : (wJ M a i x).2 a = vp_updL (M.2 a) i x := by
  funext j; show (if a = a ∧ j = i then x else M.2 a j) = if j = i then x else M.2 a j
  by_cases h : j = i <;> simp [h]
theorem am_wA1 (a : Nat) (f : Nat → Int32) : (wA M a f).1 a = f := by
  funext j; show (if a = a then f j else M.1 a j) = f j; rw [if_pos rfl]
-- locals
theorem am_lk_mem : ∀ {l : am_L} {i : Nat} {v : Value}, am_lk l i = some v → (i, v) ∈ l
  | [], _, _, h => by cases h
  | (j, w) :: t, i, v, h => by
    unfold am_lk at h
    cases hb : Nat.beq j i with
    | true =>
      rw [hb] at h
      have hj : j = i := Nat.eq_of_beq_eq_true hb
      cases h
      rw [hj]; exact List.mem_cons_self
    | false =>
      rw [hb] at h
      exact List.mem_cons_of_mem _ (am_lk_mem h)
theorem am_has_at {ls : Array Slot} {nL : Nat} {l : am_L} (h : lv_has ls nL (am_l adr fv l)) {i : Nat} {v : Value} (hk : am_lk l i = some v) : ls[i]? = some (.val (am_v adr fv v)) :=
  h.2.2 (i, am_v adr fv v) (List.mem_map.mpr ⟨(i, v), am_lk_mem hk, rfl⟩)
theorem am_sub_mem {l : am_L} {x y : Nat} : ∀ {ks : List Nat} {r : am_L}, am_sub l x y ks = some r → ∀ q ∈ r, q ∈ l ∧ q.1 ≠ x ∧ q.1 ≠ y ∧ ¬ (q.1 + 1 = x ∧ am_wide q.2 = true)
  | [], r, h => by cases h; intro q hq; cases hq
  | k :: t, r, h => by
    unfold am_sub at h
    split at h
    · rename_i v hv
      cases hb : (Nat.beq k x || (Nat.beq k y || (Nat.beq (k + 1) x && am_wide v))) with
      | true => rw [hb] at h; cases h
      | false =>
        rw [hb] at h
        dsimp only [cond_false] at h
        split at h
        · rename_i r' hr'
          cases h
          intro q hq
          rcases List.mem_cons.mp hq with rfl | hq
          · simp only [Bool.or_eq_false_iff, Bool.and_eq_false_iff] at hb
            refine ⟨am_lk_mem hv, fun e => ?_, fun e => ?_, fun e => ?_⟩
            · rw [show k = x from e, Nat.beq_refl] at hb; exact absurd hb.1 (by decide)
            · rw [show k = y from e, Nat.beq_refl] at hb; exact absurd hb.2.1 (by decide)
            · rcases hb.2.2 with h1 | h1
              · rw [show k + 1 = x from e.1, Nat.beq_refl] at h1; exact absurd h1 (by decide)
              · rw [e.2] at h1; exact absurd h1 (by decide)
          · exact am_sub_mem hr' q hq
        · cases h
    · cases h
theorem am_wide_cat {v : Value} : v.category = 2 ↔ am_wide v = true := by cases v <;> simp [Value.category, am_wide]
theorem am_has_more {ls : Array Slot} {nL : Nat} {l l' : List (Nat × Value)} (h : lv_has ls nL l) (hl : ∀ q ∈ l', q ∈ l) : lv_has ls nL l' := ⟨h.1, h.2.1, fun q hq => h.2.2 q (hl q hq)⟩
/-- a store of one slot, seen from the abstract locals -/
theorem am_store1 (fv0 : fv = .null ∨ ∃ t, fv = .ref t) {l l' : am_L} {x : Nat} {v : Value} {ks : List Nat} (h : am_sub l x x ks = some l') : ∀ q ∈ am_l adr fv ((x, v) :: l'), q ∈ (x, am_v adr fv v) :: (am_l adr fv l).filter (fun q => !(q.1 == x) && !(q.1 + 1 == x && q.2.category == 2)) := by
  intro q hq
  obtain ⟨q0, hq0, rfl⟩ := List.mem_map.mp hq
  rcases List.mem_cons.mp hq0 with rfl | hq0
  · exact List.mem_cons_self
  · obtain ⟨h1, h2, h3, h4⟩ := am_sub_mem h q0 hq0
    refine List.mem_cons_of_mem _ (List.mem_filter.mpr ⟨List.mem_map.mpr ⟨q0, h1, rfl⟩, ?_⟩)
    have hc := am_v_cat (adr := adr) fv0 q0.2
    by_cases hx : q0.1 + 1 = x
    · have : ¬ q0.2.category = 2 := fun e => h4 ⟨hx, am_wide_cat.mp e⟩
      simp [h2, hc, this]
    · simp [h2, hx]
theorem am_store2 (fv0 : fv = .null ∨ ∃ t, fv = .ref t) {l l' : am_L} {x : Nat} {v : Value} {ks : List Nat} (h : am_sub l x (x + 1) ks = some l') : ∀ q ∈ am_l adr fv ((x, v) :: l'), q ∈ (x, am_v adr fv v) :: (am_l adr fv l).filter (fun q => !(q.1 == x) && (!(q.1 == x + 1) && !(q.1 + 1 == x && q.2.category == 2))) := by
  intro q hq
  obtain ⟨q0, hq0, rfl⟩ := List.mem_map.mp hq
  rcases List.mem_cons.mp hq0 with rfl | hq0
  · exact List.mem_cons_self
  · obtain ⟨h1, h2, h3, h4⟩ := am_sub_mem h q0 hq0
    refine List.mem_cons_of_mem _ (List.mem_filter.mpr ⟨List.mem_map.mpr ⟨q0, h1, rfl⟩, ?_⟩)
    have hc := am_v_cat (adr := adr) fv0 q0.2
    by_cases hx : q0.1 + 1 = x
    · have : ¬ q0.2.category = 2 := fun e => h4 ⟨hx, am_wide_cat.mp e⟩
      simp [h2, h3, hc, this]
    · simp [h2, h3, hx]
theorem am_pick_mem {l : am_L} : ∀ {ks : List Nat} {vs : List Value}, am_pick l ks = some vs → ∀ q ∈ ks.zip vs, q ∈ l
  | [], vs, h => by cases h; intro q hq; cases hq
  | k :: t, vs, h => by
    unfold am_pick at h
    split at h
    · rename_i v hv
      split at h
      · rename_i r hr
        cases h
        intro q hq
        rcases List.mem_cons.mp hq with rfl | hq
        · exact am_lk_mem hv
        · exact am_pick_mem hr q hq
      · cases h
    · cases h
end Rep
