/-! THE START: the graph of what stands before the law makes its objects, and where it stands -/
def k_st (L : Nat) : List (Nat × Nat × Nat) := (1000000, 51, 6) :: (1000060, 51, L) :: ((List.range 12).map (fun k => (1000001 + k, 60, 13)) ++ (List.range 12).map (fun k => (1000100 + k, 52, st_len k)))
def r_st : List (Nat × Nat × Nat) := (List.range 12).map (fun k => (1000001 + k, 0, 1000100 + k))
def al_ol : List (Nat × (Nat → Int32)) → Nat → Nat → Int32
  | [], _, _ => 0
  | (a, f) :: t, b, i => bif Nat.beq a b then f i else al_ol t b i
def o_st (xs : Nat → Int32) : List (Nat × (Nat → Int32)) := (1000000, am_bro) :: (1000060, xs) :: (List.range 12).map (fun k => (1000100 + k, st_byt k))
def al_al : List (Nat × Nat) → Nat → Nat
  | [], _ => 0
  | (a, q) :: t, b => bif Nat.beq a b then q else al_al t b
def a_st (tB b : Nat) (sa va : Nat → Nat) : List (Nat × Nat) := (1000000, tB) :: (1000060, b) :: ((List.range 12).map (fun k => (1000001 + k, sa k)) ++ (List.range 12).map (fun k => (1000100 + k, va k)))
def g_st (L : Nat) (xs : Nat → Int32) : am_G := (0, 0, fun a => (al_kl (k_st L) a).getD (99, 0), fun a k => al_rl r_st a k, fun a i => al_ol (o_st xs) a i)
def adr_st (B tB b : Nat) (sa va : Nat → Nat) (a : Nat) : Nat := if a < 1000000 then B + a else al_al (a_st tB b sa va) a
section St
variable {L : Nat} {xs : Nat → Int32}
theorem k_st_in {a : Nat} {k : Nat × Nat} (h : gK (g_st L xs) a = k) (hk : k.1 ≠ 99) : (a, k) ∈ k_st L := by
  have e : gK (g_st L xs) a = (al_kl (k_st L) a).getD (99, 0) := rfl
  cases hq : al_kl (k_st L) a with
  | none => rw [hq] at e; rw [← h, e] at hk; exact absurd rfl hk
  | some q => rw [hq] at e; have : q = k := e.symm.trans h; rw [← this]; exact al_kl_mem hq
theorem k_st_cs {a : Nat} {k : Nat × Nat} (h : (a, k) ∈ k_st L) : (a = 1000000 ∧ k = (51, 6)) ∨ (a = 1000060 ∧ k = (51, L)) ∨ (∃ j : Nat, j < 12 ∧ a = 1000001 + j ∧ k = (60, 13)) ∨ ∃ j : Nat, j < 12 ∧ a = 1000100 + j ∧ k = (52, st_len j) := by
  unfold k_st at h
  rcases List.mem_cons.mp h with h | h
  · exact Or.inl ⟨congrArg Prod.fst h, congrArg Prod.snd h⟩
  rcases List.mem_cons.mp h with h | h
  · exact Or.inr (Or.inl ⟨congrArg Prod.fst h, congrArg Prod.snd h⟩)
  rcases List.mem_append.mp h with h | h
  · obtain ⟨j, hj, e⟩ := List.mem_map.mp h
    exact Or.inr (Or.inr (Or.inl ⟨j, List.mem_range.mp hj, (congrArg Prod.fst e).symm, (congrArg Prod.snd e).symm⟩))
  · obtain ⟨j, hj, e⟩ := List.mem_map.mp h
    exact Or.inr (Or.inr (Or.inr ⟨j, List.mem_range.mp hj, (congrArg Prod.fst e).symm, (congrArg Prod.snd e).symm⟩))
theorem k_st_ge {a : Nat} {k : Nat × Nat} (h : (a, k) ∈ k_st L) : 1000000 ≤ a ∧ a ≠ 1000050 ∧ 50 ≤ k.1 := by
  rcases k_st_cs h with ⟨rfl, rfl⟩ | ⟨rfl, rfl⟩ | ⟨j, hj, rfl, rfl⟩ | ⟨j, hj, rfl, rfl⟩
  · exact ⟨by omega, by omega, by show 50 ≤ 51; omega⟩
  · exact ⟨by omega, by omega, by show 50 ≤ 51; omega⟩
  · exact ⟨by omega, by omega, by show 50 ≤ 60; omega⟩
  · exact ⟨by omega, by omega, by show 50 ≤ 52; omega⟩
theorem r_st_cs {a k q : Nat} (h : gR (g_st L xs) a k = some q) : ∃ j : Nat, j < 12 ∧ a = 1000001 + j ∧ k = 0 ∧ q = 1000100 + j := by
  obtain ⟨j, hj, e⟩ := List.mem_map.mp (al_rl_mem (show al_rl r_st a k = some q from h))
  exact ⟨j, List.mem_range.mp hj, (congrArg Prod.fst e).symm, (congrArg (fun z => z.2.1) e).symm, (congrArg (fun z => z.2.2) e).symm⟩
theorem al_B_st : al_B (g_st L xs) := by
  have hK : ∀ a : Nat, a < 1000000 → gK (g_st L xs) a = (99, 0) := by
    intro a ha
    by_cases h : (gK (g_st L xs) a).1 = 99
    · have e : gK (g_st L xs) a = (al_kl (k_st L) a).getD (99, 0) := rfl
      cases hq : al_kl (k_st L) a with
      | none => rw [hq] at e; exact e
      | some q =>
        have := (k_st_ge (al_kl_mem hq)).1
        omega
    · have := (k_st_ge (k_st_in rfl h)).1
      omega
  refine ⟨fun a ha => ⟨hK a ha, fun k => ?_⟩, fun a => ?_, fun a ha => ?_, fun a k q h => ?_⟩
  · cases h : gR (g_st L xs) a k with
    | none => rfl
    | some q => obtain ⟨j, -, e, -⟩ := r_st_cs h; omega
  · by_cases h : (gK (g_st L xs) a).1 = 99
    · omega
    · exact (k_st_ge (k_st_in rfl h)).2.2
  · exact (k_st_ge (k_st_in rfl ha)).2.1
  · obtain ⟨j, hj, -, -, rfl⟩ := r_st_cs h
    show 1000100 + j ≠ 1000050
    omega
theorem g_st_key (a : Nat) (e : al_kl kdl a = none) : gK (al_g (g_st L xs) al_S1) a = gK (g_st L xs) a := by
  show al_K (g_st L xs) kdl a = _
  unfold al_K; rw [e]
theorem g_st_by : ∀ j i : Nat, j < 12 → gO (g_st L xs) (1000100 + j) i = st_byt j i
  | 0, _, _ => rfl
  | 1, _, _ => rfl
  | 2, _, _ => rfl
  | 3, _, _ => rfl
  | 4, _, _ => rfl
  | 5, _, _ => rfl
  | 6, _, _ => rfl
  | 7, _, _ => rfl
  | 8, _, _ => rfl
  | 9, _, _ => rfl
  | 10, _, _ => rfl
  | 11, _, _ => rfl
  | j + 12, _, hj => absurd hj (by omega)
theorem g_st_co : ∀ j : Nat, j < 12 → gO (g_st L xs) (1000001 + j) 1 = 0
  | 0, _ => rfl
  | 1, _ => rfl
  | 2, _ => rfl
  | 3, _ => rfl
  | 4, _ => rfl
  | 5, _ => rfl
  | 6, _ => rfl
  | 7, _ => rfl
  | 8, _ => rfl
  | 9, _ => rfl
  | 10, _ => rfl
  | 11, _ => rfl
  | j + 12, hj => absurd hj (by omega)
theorem GG_st : GG (al_g (g_st L xs) al_S1) := by
  refine ⟨fun a k h => al_Kin (S := al_S1) h, fun a k q h => al_Rin (S := al_S1) h, ?_, fun i => rfl, fun k hk => ?_⟩
  · exact (g_st_key 1000000 (by decide +kernel)).trans rfl
  · have key : ∀ a : Nat, al_kl kdl a = none → gK (al_g (g_st L xs) al_S1) a = gK (g_st L xs) a := fun a e => by
      show al_K (g_st L xs) kdl a = _
      unfold al_K; rw [e]
    have key2 : ∀ a k : Nat, al_rl rdl a k = none → gR (al_g (g_st L xs) al_S1) a k = gR (g_st L xs) a k := fun a k e => by
      show al_R (g_st L xs) rdl a k = _
      unfold al_R; rw [e]
    match k, hk with
    | 0, _ => exact ⟨(key 1000001 (by decide +kernel)).trans rfl, rfl, (key2 1000001 0 (by decide +kernel)).trans rfl, (key 1000100 (by decide +kernel)).trans rfl, fun i => rfl⟩
    | 1, _ => exact ⟨(key 1000002 (by decide +kernel)).trans rfl, rfl, (key2 1000002 0 (by decide +kernel)).trans rfl, (key 1000101 (by decide +kernel)).trans rfl, fun i => rfl⟩
    | 2, _ => exact ⟨(key 1000003 (by decide +kernel)).trans rfl, rfl, (key2 1000003 0 (by decide +kernel)).trans rfl, (key 1000102 (by decide +kernel)).trans rfl, fun i => rfl⟩
    | 3, _ => exact ⟨(key 1000004 (by decide +kernel)).trans rfl, rfl, (key2 1000004 0 (by decide +kernel)).trans rfl, (key 1000103 (by decide +kernel)).trans rfl, fun i => rfl⟩
    | 4, _ => exact ⟨(key 1000005 (by decide +kernel)).trans rfl, rfl, (key2 1000005 0 (by decide +kernel)).trans rfl, (key 1000104 (by decide +kernel)).trans rfl, fun i => rfl⟩
    | 5, _ => exact ⟨(key 1000006 (by decide +kernel)).trans rfl, rfl, (key2 1000006 0 (by decide +kernel)).trans rfl, (key 1000105 (by decide +kernel)).trans rfl, fun i => rfl⟩
    | 6, _ => exact ⟨(key 1000007 (by decide +kernel)).trans rfl, rfl, (key2 1000007 0 (by decide +kernel)).trans rfl, (key 1000106 (by decide +kernel)).trans rfl, fun i => rfl⟩
    | 7, _ => exact ⟨(key 1000008 (by decide +kernel)).trans rfl, rfl, (key2 1000008 0 (by decide +kernel)).trans rfl, (key 1000107 (by decide +kernel)).trans rfl, fun i => rfl⟩
    | 8, _ => exact ⟨(key 1000009 (by decide +kernel)).trans rfl, rfl, (key2 1000009 0 (by decide +kernel)).trans rfl, (key 1000108 (by decide +kernel)).trans rfl, fun i => rfl⟩
    | 9, _ => exact ⟨(key 1000010 (by decide +kernel)).trans rfl, rfl, (key2 1000010 0 (by decide +kernel)).trans rfl, (key 1000109 (by decide +kernel)).trans rfl, fun i => rfl⟩
    | 10, _ => exact ⟨(key 1000011 (by decide +kernel)).trans rfl, rfl, (key2 1000011 0 (by decide +kernel)).trans rfl, (key 1000110 (by decide +kernel)).trans rfl, fun i => rfl⟩
    | 11, _ => exact ⟨(key 1000012 (by decide +kernel)).trans rfl, rfl, (key2 1000012 0 (by decide +kernel)).trans rfl, (key 1000111 (by decide +kernel)).trans rfl, fun i => rfl⟩
    | k + 12, hk => exact absurd hk (by omega)
theorem g_st_scr : gK (al_g (g_st L xs) al_S1) am_scr = (51, L) ∧ ∀ i : Nat, gO (al_g (g_st L xs) al_S1) am_scr i = xs i := by
  exact ⟨(g_st_key 1000060 (by decide +kernel)).trans rfl, fun i => rfl⟩
theorem adr_sa {B tB b : Nat} {sa va : Nat → Nat} : ∀ k : Nat, k < 12 → adr_st B tB b sa va (1000001 + k) = sa k ∧ adr_st B tB b sa va (1000100 + k) = va k
  | 0, _ => ⟨rfl, rfl⟩
  | 1, _ => ⟨rfl, rfl⟩
  | 2, _ => ⟨rfl, rfl⟩
  | 3, _ => ⟨rfl, rfl⟩
  | 4, _ => ⟨rfl, rfl⟩
  | 5, _ => ⟨rfl, rfl⟩
  | 6, _ => ⟨rfl, rfl⟩
  | 7, _ => ⟨rfl, rfl⟩
  | 8, _ => ⟨rfl, rfl⟩
  | 9, _ => ⟨rfl, rfl⟩
  | 10, _ => ⟨rfl, rfl⟩
  | 11, _ => ⟨rfl, rfl⟩
  | k + 12, hk => absurd hk (by omega)
theorem adr_lo {B tB b : Nat} {sa va : Nat → Nat} {a : Nat} (h : a < 1000000) : adr_st B tB b sa va a = B + a := if_pos h
end St
/-- the world at the start -/
theorem KN_st {args : Array Value} {s : State} {b L : Nat} {xs : Nat → Int32} (hts : ∀ w ∈ lw_tbl, w.before args s = true) (hL : L ≤ 3072) (hX : va_X b L xs s s.heap) (hg : (Jvm.Cond.and given_1 narrow_1).before args s = true) :
    ∃ (fv : Value) (tB : Nat) (sa va : Nat → Nat) (D : va_G) (cA : Nat → ClassId), (fv = .null ∨ ∃ t, fv = .ref t) ∧ am_KN (adr_st s.heap.size tB b sa va) fv s.heap.size D cA (g_st L xs) s s.heap ∧ al_AO s := by
  have htg : ∀ w ∈ lw_g, w.before args s = true := fun w hw => hts w (List.mem_filter.mp hw).1
  have hA : ∀ a : Nat, a < s.heap.size → ¬ (fun q : Nat => s.heap.size ≤ q) a := fun a ha => Nat.not_le.mpr ha
  obtain ⟨fv, hfv, fv0⟩ := sio_all hg
  obtain ⟨tB, htB, hTB⟩ := bro_all (A := fun q : Nat => s.heap.size ≤ q) hg hA
  have hstr : ∀ k : Nat, ∃ qt : Nat × Nat, k < 12 → (st_tm k).eval args s none [] s = some (.ref qt.1) ∧ va_O "java/lang/String" qt.1 (fun q : Nat => s.heap.size ≤ q) s s.heap ∧ va_OF "java/lang/String" "coder" "B" (.int 0) qt.1 (fun q : Nat => s.heap.size ≤ q) s s.heap ∧ va_OF "java/lang/String" "value" "[B" (.ref qt.2) qt.1 (fun q : Nat => s.heap.size ≤ q) s s.heap ∧ va_T .byte qt.2 (st_len k) (fun j => .int (st_byt k j)) (fun q : Nat => s.heap.size ≤ q) s s.heap := by
    intro k
    by_cases hk : k < 12
    · obtain ⟨q, t, h⟩ := str_all (A := fun q : Nat => s.heap.size ≤ q) hg hA k hk
      exact ⟨(q, t), fun _ => h⟩
    · exact ⟨(0, 0), fun h => absurd h hk⟩
  obtain ⟨sv, hsv⟩ := Classical.axiomOfChoice hstr
  have hkn : ∀ c : Nat, ∃ q : ClassId × (Nat → Nat), c < 13 → u_Kn s (mO c) (am_fT c) (am_nf c) q.1 q.2 := by
    intro c
    by_cases hc : c < 13
    · have key : ∀ c : Nat, c < 13 → (c, am_nf c) ∈ ti := by decide +kernel
      obtain ⟨cC, iS, h⟩ := u_known (N := am_nf c) (T := am_fT c) htg (am_in_lay hc) (htg _ (p_ti (c, am_nf c) (key c hc)))
      exact ⟨(cC, iS), fun _ => h⟩
    · exact ⟨default, fun h => absurd h hc⟩
  obtain ⟨Dq, hDq⟩ := Classical.axiomOfChoice hkn
  have hAO : al_AO s := by
    refine ⟨fun c hc => ?_, hts _ sp_oI⟩
    rcases hc with rfl | rfl | rfl | rfl | rfl
    · exact hts _ sp_o1
    · exact hts _ sp_o5
    · exact hts _ sp_o6
    · exact hts _ sp_o7
    · exact hts _ sp_o8
  have hca : ∀ t : Nat, ∃ c : ClassId, ∀ ty : FieldType, am_ty t = some ty → ArrOfT s c ty ∧ va_RA s c ty := by
    intro t
    have prim : ∀ ty : FieldType, (Cond.arrayClass ty).before args s = true → (∀ c : ClassId, s.vm.findClass ("[" ++ ty.toString) = some c → va_RA s c ty) → ∃ c : ClassId, ArrOfT s c ty ∧ va_RA s c ty := by
      intro ty h hra
      obtain ⟨c, k, comp, h1, h2, h3⟩ := Cond.arrayClass_spec h
      exact ⟨c, fun N z => ⟨(fun q hq => by cases hq), k, h2, comp, h3⟩, hra c h1⟩
    have obj : ∀ C : String, va_AO C s → ∃ c : ClassId, ArrOfT s c (.object C) ∧ va_RA s c (.object C) := by
      intro C h
      obtain ⟨comp, c, k, h1, -, h3, h4, h5⟩ := Cond.arrayOver_spec h
      exact ⟨c, fun N z => ⟨(fun q hq => by cases hq), k, h3, comp, h4⟩, k, comp, h3, h4, h1, h5⟩
    have fin : ∀ ty0 : FieldType, am_ty t = some ty0 → (∃ c : ClassId, ArrOfT s c ty0 ∧ va_RA s c ty0) → ∃ c : ClassId, ∀ ty : FieldType, am_ty t = some ty → ArrOfT s c ty ∧ va_RA s c ty := by
      intro ty0 h0 ⟨c, hc⟩
      refine ⟨c, fun ty hty => ?_⟩
      have : ty0 = ty := Option.some.inj (h0.symm.trans hty)
      rw [← this]; exact hc
    have key : ∀ t : Nat, t = 1 ∨ t = 2 ∨ t = 3 ∨ t = 5 ∨ t = 9 ∨ t = 10 ∨ t = 11 ∨ t = 12 ∨ t = 40 ∨ am_ty t = none := by
      intro t
      unfold am_ty
      split <;> simp
    rcases key t with rfl | rfl | rfl | rfl | rfl | rfl | rfl | rfl | rfl | h
    · exact fin .int rfl (prim _ (htg _ sp_aint) fun c h => h)
    · exact fin .boolean rfl (prim _ (htg _ sp_aboolean) fun c h => h)
    · exact fin .long rfl (prim _ (htg _ sp_along) fun c h => h)
    · exact fin _ rfl (obj _ (hAO.1 1 (by omega)))
    · exact fin _ rfl (obj _ (hAO.1 5 (by omega)))
    · exact fin _ rfl (obj _ (hAO.1 6 (by omega)))
    · exact fin _ rfl (obj _ (hAO.1 7 (by omega)))
    · exact fin _ rfl (obj _ (hAO.1 8 (by omega)))
    · refine fin (.array .int) rfl ?_
      obtain ⟨comp, c, k, h1, -, h3, h4, h5⟩ := arrayOverA_spec hAO.2
      exact ⟨c, fun N z => ⟨(fun q hq => by cases hq), k, h3, comp, h4⟩, h5⟩
    · exact ⟨default, fun ty hty => by rw [h] at hty; cases hty⟩
  obtain ⟨cA, hcA⟩ := Classical.axiomOfChoice hca
  refine ⟨fv, tB, fun k => (sv k).1, fun k => (sv k).2, (fun c => (Dq c).1, fun c => (Dq c).2), cA, fv0, ⟨fun c q hq => ?_, fun t ty ht => hcA t ty ht, fun a n ha => ?_, fun a n ha => ?_, fun a ha => ?_, ?_, ?_, ?_, fun k o idx tx hk => ?_⟩, hAO⟩
  · have hc : c < 13 := (List.getElem?_eq_some_iff.mp hq).1
    rw [am_cls_at hc] at hq
    cases hq
    exact hDq c hc
  · rcases k_st_cs (k_st_in ha (by show (51 : Nat) ≠ 99; decide)) with ⟨rfl, e⟩ | ⟨rfl, e⟩ | ⟨j, hj, -, e⟩ | ⟨j, hj, -, e⟩
    · cases e; exact hTB
    · cases e
      obtain ⟨scr, h1, h2, h3, h4, h5⟩ := hX
      exact ⟨scr, h1, h2, h3, by omega, by rw [h4], h5, hA _ (Array.getElem?_eq_some_iff.mp h1).1⟩
    · exact absurd (congrArg Prod.fst e) (by show (51 : Nat) ≠ 60; decide)
    · exact absurd (congrArg Prod.fst e) (by show (51 : Nat) ≠ 52; decide)
  · rcases k_st_cs (k_st_in ha (by show (52 : Nat) ≠ 99; decide)) with ⟨-, e⟩ | ⟨-, e⟩ | ⟨j, hj, -, e⟩ | ⟨j, hj, rfl, e⟩
    · exact absurd (congrArg Prod.fst e) (by show (52 : Nat) ≠ 51; decide)
    · exact absurd (congrArg Prod.fst e) (by show (52 : Nat) ≠ 51; decide)
    · exact absurd (congrArg Prod.fst e) (by show (52 : Nat) ≠ 60; decide)
    · have e2 : n = st_len j := congrArg Prod.snd e
      rw [e2, (adr_sa j hj).2]
      have hf : ∀ i : Nat, gO (g_st L xs) (1000100 + j) i = st_byt j i := fun i => g_st_by j i hj
      simp only [hf]
      exact (hsv j hj).2.2.2.2
  · rcases k_st_cs (k_st_in ha (by show (60 : Nat) ≠ 99; decide)) with ⟨-, e⟩ | ⟨-, e⟩ | ⟨j, hj, rfl, -⟩ | ⟨j, hj, -, e⟩
    · exact absurd (congrArg Prod.fst e) (by show (60 : Nat) ≠ 51; decide)
    · exact absurd (congrArg Prod.fst e) (by show (60 : Nat) ≠ 51; decide)
    · rw [(adr_sa j hj).1]
      have hf : gO (g_st L xs) (1000001 + j) 1 = 0 := g_st_co j hj
      rw [hf]
      refine ⟨(hsv j hj).2.1, (hsv j hj).2.2.1, fun q hq => ?_⟩
      obtain ⟨i, hi, e1, -, rfl⟩ := r_st_cs hq
      have e2 : i = j := by omega
      subst e2
      rw [(adr_sa i hi).2]
      exact (hsv i hi).2.2.2.1
    · exact absurd (congrArg Prod.fst e) (by show (60 : Nat) ≠ 52; decide)
  · exact va_Zof (hts _ tb_bro) (hts _ ti_city) htB hA
  · exact va_Zof (hts _ tb_com) (hts _ ti_str) (com_all hg) hA
  · exact va_Zof (hts _ tb_sio) (hts _ ti_prec) hfv hA
  · have hk12 : k < 12 := (List.getElem?_eq_some_iff.mp hk).1
    have e : adr_st s.heap.size tB b (fun k => (sv k).1) (fun k => (sv k).2) (am_sid k) = (sv k).1 := (adr_sa k hk12).1
    rw [e]
    match k, hk12 with
    | 0, h => cases hk; exact vk_R.of (hts _ ts_0) (hsv 0 h).1
    | 1, h => cases hk; exact vk_R.of (hts _ ts_1) (hsv 1 h).1
    | 2, h => cases hk; exact vk_R.of (hts _ ts_2) (hsv 2 h).1
    | 3, h => cases hk; exact vk_R.of (hts _ ts_3) (hsv 3 h).1
    | 4, h => cases hk; exact vk_R.of (hts _ ts_4) (hsv 4 h).1
    | 5, h => cases hk; exact vk_R.of (hts _ ts_5) (hsv 5 h).1
    | 6, h => cases hk; exact vk_R.of (hts _ ts_6) (hsv 6 h).1
    | 7, h => cases hk; exact vk_R.of (hts _ ts_7) (hsv 7 h).1
    | 8, h => cases hk; exact vk_R.of (hts _ ts_8) (hsv 8 h).1
    | 9, h => cases hk; exact vk_R.of (hts _ ts_9) (hsv 9 h).1
    | 10, h => cases hk; exact vk_R.of (hts _ ts_10) (hsv 10 h).1
    | 11, h => cases hk; exact vk_R.of (hts _ ts_11) (hsv 11 h).1
    | k + 12, hj => exact absurd hj (by omega)
