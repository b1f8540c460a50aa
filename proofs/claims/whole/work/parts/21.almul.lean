/-! rows of ints made at once -/
theorem al_kl_cons (a b : Nat) (k : Nat × Nat) (t : List (Nat × Nat × Nat)) : al_kl ((a, k) :: t) b = bif Nat.beq a b then some k else al_kl t b := rfl
theorem al_rl_cons (a b k j q : Nat) (t : List (Nat × Nat × Nat)) : al_rl ((a, k, q) :: t) b j = bif Nat.beq a b && Nat.beq k j then some q else al_rl t b j := rfl
theorem al_kl_map {o k : Nat} {t : List (Nat × Nat × Nat)} : ∀ (l : List Nat) (a : Nat), ((∃ j ∈ l, o + 1 + j = a) → al_kl (l.map (fun j => (o + 1 + j, 1, k)) ++ t) a = some (1, k)) ∧ ((∀ j ∈ l, o + 1 + j ≠ a) → al_kl (l.map (fun j => (o + 1 + j, 1, k)) ++ t) a = al_kl t a)
  | [], a => ⟨fun ⟨j, hj, _⟩ => absurd hj List.not_mem_nil, fun _ => rfl⟩
  | j :: l, a => by
    obtain ⟨h1, h2⟩ := al_kl_map (o := o) (k := k) (t := t) l a
    rw [List.map_cons, List.cons_append, al_kl_cons]
    cases hb : Nat.beq (o + 1 + j) a with
    | true =>
      have e := Nat.eq_of_beq_eq_true hb
      exact ⟨fun _ => rfl, fun h => absurd e (h j List.mem_cons_self)⟩
    | false =>
      have e : o + 1 + j ≠ a := fun q => by rw [q, Nat.beq_refl] at hb; cases hb
      refine ⟨fun ⟨i, hi, q⟩ => ?_, fun h => h2 fun i hi => h i (List.mem_cons_of_mem _ hi)⟩
      rcases List.mem_cons.mp hi with rfl | hi
      · exact absurd q e
      · exact h1 ⟨i, hi, q⟩
theorem al_rl_map {o : Nat} {t : List (Nat × Nat × Nat)} : ∀ (l : List Nat) (b i : Nat), ((b = o ∧ i ∈ l) → al_rl (l.map (fun j => (o, j, o + 1 + j)) ++ t) b i = some (o + 1 + i)) ∧ (¬ (b = o ∧ i ∈ l) → al_rl (l.map (fun j => (o, j, o + 1 + j)) ++ t) b i = al_rl t b i)
  | [], b, i => ⟨fun h => absurd h.2 List.not_mem_nil, fun _ => rfl⟩
  | j :: l, b, i => by
    obtain ⟨h1, h2⟩ := al_rl_map (o := o) (t := t) l b i
    rw [List.map_cons, List.cons_append, al_rl_cons]
    cases hb : (Nat.beq o b && Nat.beq j i) with
    | true =>
      rw [Bool.and_eq_true] at hb
      have e1 := Nat.eq_of_beq_eq_true hb.1
      have e2 := Nat.eq_of_beq_eq_true hb.2
      subst e1; subst e2
      exact ⟨fun _ => rfl, fun h => absurd ⟨rfl, List.mem_cons_self⟩ h⟩
    | false =>
      have e : ¬ (b = o ∧ j = i) := fun q => by rw [q.1, q.2, Nat.beq_refl, Nat.beq_refl] at hb; cases hb
      refine ⟨fun ⟨h, hi⟩ => ?_, fun h => h2 fun ⟨q1, q2⟩ => h ⟨q1, List.mem_cons_of_mem _ q2⟩⟩
      rcases List.mem_cons.mp hi with q | hi
      · exact absurd ⟨h, q.symm⟩ e
      · exact h1 ⟨h, hi⟩
section AlM
variable {adr : Nat → Nat} {fv : Value} {B : Nat} {H0 : Heap} {D : va_G} {cA : Nat → ClassId} {g0 : am_G} {S : al_S} {H H1 : Heap}
theorem al_K_mul {n k : Nat} (a : Nat) : gK (al_g g0 (al_mul S n k)) a = if S.1 + 1 ≤ a ∧ a < S.1 + 1 + n then (1, k) else if a = S.1 then (40, n) else gK (al_g g0 S) a := by
  show al_K g0 ((List.range n).map (fun j => (S.1 + 1 + j, 1, k)) ++ (S.1, 40, n) :: S.2.2.1) a = _
  obtain ⟨h1, h2⟩ := al_kl_map (o := S.1) (k := k) (t := (S.1, 40, n) :: S.2.2.1) (List.range n) a
  unfold al_K
  by_cases h : S.1 + 1 ≤ a ∧ a < S.1 + 1 + n
  · rw [if_pos h, h1 ⟨a - (S.1 + 1), List.mem_range.mpr (by omega), by omega⟩]
  · rw [if_neg h, h2 fun j hj e => h ⟨by omega, by have := List.mem_range.mp hj; omega⟩]
    unfold al_kl
    cases hb : Nat.beq S.1 a with
    | true => rw [if_pos (Nat.eq_of_beq_eq_true hb).symm]; rfl
    | false =>
      have hne : ¬ a = S.1 := fun q => by rw [q, Nat.beq_refl] at hb; cases hb
      rw [if_neg hne]; rfl
theorem al_R_mul {n k : Nat} (b i : Nat) : gR (al_g g0 (al_mul S n k)) b i = if b = S.1 ∧ i < n then some (S.1 + 1 + i) else gR (al_g g0 S) b i := by
  show al_R g0 ((List.range n).map (fun j => (S.1, j, S.1 + 1 + j)) ++ S.2.2.2.1) b i = _
  obtain ⟨h1, h2⟩ := al_rl_map (o := S.1) (t := S.2.2.2.1) (List.range n) b i
  unfold al_R
  by_cases h : b = S.1 ∧ i < n
  · rw [if_pos h, h1 ⟨h.1, List.mem_range.mpr h.2⟩]
  · rw [if_neg h, h2 fun q => h ⟨q.1, List.mem_range.mp q.2⟩]
    rfl
theorem al_J_mul (hJ : al_J S) {n k : Nat} (hn : S.1 + 1 + n ≤ 1000000) : al_J (al_mul S n k) := by
  refine ⟨fun q hq => ?_, fun q hq => ?_, fun q hq => ?_, hn⟩
  · show q.1 < S.1 + 1 + n ∧ _
    rcases List.mem_append.mp hq with hq | hq
    · obtain ⟨j, hj, rfl⟩ := List.mem_map.mp hq
      have := List.mem_range.mp hj
      exact ⟨by show S.1 + 1 + j < _; omega, by show 1 < 50; decide, fun h => absurd h (by show ¬ 4 ≤ 1; decide)⟩
    · rcases List.mem_cons.mp hq with rfl | hq
      · exact ⟨by show S.1 < _; omega, by show 40 < 50; decide, fun _ => ⟨_, rfl, rfl⟩⟩
      · obtain ⟨h1, h2⟩ := hJ.1 q hq
        exact ⟨by omega, h2⟩
  · show q.1 < S.1 + 1 + n ∧ q.2.2 < S.1 + 1 + n
    rcases List.mem_append.mp hq with hq | hq
    · obtain ⟨j, hj, rfl⟩ := List.mem_map.mp hq
      have := List.mem_range.mp hj
      exact ⟨by show S.1 < _; omega, by show S.1 + 1 + j < _; omega⟩
    · obtain ⟨h1, h2⟩ := hJ.2.1 q hq
      exact ⟨by omega, by omega⟩
  · show q.1 < S.1 + 1 + n
    have := hJ.2.2.1 q hq
    omega
theorem al_H_mul (hadr : ∀ a : Nat, a < 1000000 → adr a = B + a) (hB : al_B g0) (hJ : al_J S) {n k : Nat} (hn : S.1 + 1 + n ≤ 1000000) (h : am_H adr B H0 D cA (al_g g0 S) (al_m S.2.2.2.2) H) (z : H1.size = H.size + 1 + n) (o : ∀ q : Nat, q < H.size → H1[q]? = H[q]?)
    (ho : H1[H.size]? = some (vp_cell (cA 40) (n, .inr (.inr (.inr (.inr fun j => if j < n then some (H.size + 1 + j) else none)))))) (hr : ∀ j : Nat, j < n → H1[H.size + 1 + j]? = some (vp_cell (cA 1) (k, .inl fun _ => 0))) :
    am_H adr B H0 D cA (al_g g0 (al_mul S n k)) (al_m (al_mul S n k).2.2.2.2) H1 := by
  obtain ⟨h1, h2, h3⟩ := h
  replace h1 : H.size = B + S.1 := h1
  refine ⟨by show H1.size = B + (S.1 + 1 + n); omega, fun q hq => ?_, fun a ha => ?_⟩
  · rw [o q (by omega)]; exact h2 q hq
  · have hM : al_m (al_mul S n k).2.2.2.2 = al_m S.2.2.2.2 := rfl
    rw [hM]
    by_cases e1 : S.1 + 1 ≤ a ∧ a < S.1 + 1 + n
    · have ek : gK (al_g g0 (al_mul S n k)) a = (1, k) := by rw [al_K_mul, if_pos e1]
      rw [am_ce_1 ek, show adr a = H.size + 1 + (a - (S.1 + 1)) by rw [hadr _ (by omega), h1]; omega]
      have hz : (al_m S.2.2.2.2).1 a = fun _ => 0 := funext (al_m_lt hJ.2.2.1 (by omega)).1
      rw [hz]
      exact hr _ (by omega)
    · by_cases e2 : a = S.1
      · have ek : gK (al_g g0 (al_mul S n k)) a = (40, n) := by rw [al_K_mul, if_neg e1, if_pos e2]
        rw [am_ce_q ek (by decide)]
        have hf : (fun j => (gR (al_g g0 (al_mul S n k)) a j).map adr) = fun j => if j < n then some (H.size + 1 + j) else none := by
          funext j
          rw [al_R_mul]
          by_cases hj : j < n
          · rw [if_pos ⟨e2, hj⟩, if_pos hj]
            show some (adr _) = _
            rw [hadr _ (by omega), h1]
            congr 1
            omega
          · rw [if_neg (fun q => hj q.2), if_neg hj, e2, al_R_new hB hJ (Nat.le_refl _) (by omega)]
            rfl
        rw [hf, show adr a = H.size by rw [hadr _ (by omega), h1, e2]]
        exact ho
      · have ek : gK (al_g g0 (al_mul S n k)) a = gK (al_g g0 S) a := by rw [al_K_mul, if_neg e1, if_neg e2]
        rw [ek] at ha
        have hl := al_lt hB hJ ha
        have e3 : am_ce adr cA (al_g g0 (al_mul S n k)) (al_m S.2.2.2.2) a = am_ce adr cA (al_g g0 S) (al_m S.2.2.2.2) a := am_ce_congr ek (fun j => by rw [al_R_mul, if_neg (fun q => e2 q.1)]) (fun _ => rfl) (fun _ => rfl)
        rw [e3]
        exact (h3 a ha).kept (o _ (by show adr a < H.size; rw [hadr a (by have := hJ.2.2.2; omega)]; omega))
end AlM
/-- the row of 'new int[n][k]': proved in the last part (its library name stands outside the short library) -/
def al_MUL : Prop := ∀ {p : Program} {l : Launch} {e : Env} {R : Room} {s : State} {m : MethodId} {args : Array Value} {below : List Frame} {meth : Method} {c : Code} {H : Heap} {locs : List Loc} {cells slots : Nat} {Q : State → Prop} {cc : ByteArray} {pc : Nat} {ls : Array Slot} {rest : List Value} {own : String} {index : Nat} {c1 c40 : ClassId} {n k : Int32},
  p.tables.exec = Jvm.exec → c.code = cc → s.vm.findClass own = some m.cls → (Cond.classLink own index "[[I").before args s = true → al_AOA s → (Cond.arrayClass .int).before args s = true → s.vm.findClass ("[" ++ FieldType.int.toString) = some c1 → s.vm.findClass ("[" ++ (FieldType.array .int).toString) = some c40 →
  ¬ n < 0 → ¬ k < 0 → n.toNatClampNeg ≤ 60000 → k.toNatClampNeg ≤ 60000 → cells + (1 + n.toNatClampNeg) ≤ R.cells → slots + (n.toNatClampNeg + n.toNatClampNeg * k.toNatClampNeg) ≤ R.slots → decode cc pc = .ok (.multianewarray index 2, 4) →
  (∀ H1 : Heap, H1.size = H.size + 1 + n.toNatClampNeg → (∀ q : Nat, q < H.size → H1[q]? = H[q]?) → H1[H.size]? = some (vp_cell c40 (n.toNatClampNeg, .inr (.inr (.inr (.inr fun j => if j < n.toNatClampNeg then some (H.size + 1 + j) else none))))) → (∀ j : Nat, j < n.toNatClampNeg → H1[H.size + 1 + j]? = some (vp_cell c1 (k.toNatClampNeg, .inl fun _ => 0))) →
      W p l e R s m args below meth c H1 locs (cells + 1 + n.toNatClampNeg) (slots + n.toNatClampNeg + n.toNatClampNeg * k.toNatClampNeg) Q (F0 m (pc + 4) ls (.ref H.size :: rest))) → W p l e R s m args below meth c H locs cells slots Q (F0 m pc ls (.int k :: .int n :: rest))
