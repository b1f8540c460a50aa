/-! the law's walk -/
section Law
variable {adr : Nat → Nat} {fv : Value} {B : Nat} {H0 : Heap} {D : va_G} {cA : Nat → ClassId} {g0 : am_G} {l : Launch}
variable {p : Program} {e : Env} {s : State} {m : MethodId} {args : Array Value} {below : List Frame} {meth : Method} {c : Code} {Q : State → Prop}
theorem al_hd_ok (hmul : al_MUL) (fv0 : fv = .null ∨ ∃ t, fv = .ref t) (hadr : ∀ a : Nat, a < 1000000 → adr a = B + a) (hB : al_B g0) (hx : p.tables.exec = Jvm.exec) (hb : c.code = code) (hml : c.maxLocals = 4) (hown : s.vm.findClass (mO 18) = some m.cls) (hts : ∀ w ∈ lw_g, w.before args s = true) (hKN : am_KN adr fv B D cA g0 s s.heap) (hAO : al_AO s) (hs3 : ∀ q : Nat, q < B → s.heap[q]? = H0[q]?) (hs2 : s.heap.size = B + 0) {K : Nat} {ls1 : am_L} {st1 : List Value} {S1 : al_S}
    (hfin : ∀ (H : Heap) (locs : List Loc) (lsA : Array Slot) (cells slots : Nat), al_st adr B H0 D cA g0 S1 H → S1.1 = 0 + cells → S1.2.1 = 0 + slots → (∀ q ∈ locs, B ≤ q.base) → lv_has lsA 4 (am_l adr fv ls1) → W p l e room_1 s m args below meth c H locs cells slots Q (F0 m 18 lsA (st1.map (am_v adr fv)))) :
    ∀ (N pc : Nat) (ls : am_L) (st : List Value) (S : al_S), al_hd N K (600000, 7302250) pc ls st S = some (ls1, st1, S1) → ∀ (H : Heap) (locs : List Loc) (lsA : Array Slot) (cells slots : Nat), al_st adr B H0 D cA g0 S H → S.1 = 0 + cells → S.2.1 = 0 + slots → (∀ q ∈ locs, B ≤ q.base) → lv_has lsA 4 (am_l adr fv ls) → W p l e room_1 s m args below meth c H locs cells slots Q (F0 m pc lsA (st.map (am_v adr fv)))
  | 0, _, _, _, _, h => by cases h
  | N + 1, pc, ls, st, S, h => by
    intro H locs lsA cells slots hS h1 h2 hL hl
    unfold al_hd at h
    cases hp : Nat.beq pc 18 with
    | true =>
      rw [hp] at h
      cases h
      rw [Nat.eq_of_beq_eq_true hp]
      exact hfin H locs lsA cells slots hS h1 h2 hL hl
    | false =>
      rw [hp] at h
      dsimp only [cond_false] at h
      split at h
      · cases h
      · rename_i e0 he
        obtain ⟨hck0, hpc⟩ := al_at_ck al_hck13 he
        subst hpc
        exact al_step_ok hmul (R := room_1) (lim := (600000, 7302250)) (n0 := 0) (m0 := 0) hx hb hml hown hts fv0 hadr hB hKN hAO hs3 hs2 (rk := 11) (fun k hk => ⟨by show k + 1 ≤ 12; omega, by show 40 + 40 * k ≤ 464; omega⟩) (by omega) ⟨by show 600000 ≤ 0 + 600000; omega, by show 7302250 ≤ 0 + 7302250; omega⟩ (fun h => absurd h (by omega)) (fun z' a' S1 S2 hz' _ hw' h' => (al_fl_ok hmul fv0 hadr hB al_hck K).1 z' a' S1 S2 hz' hw' h') (fun pc' ls' st' S' h' H' locs' lsA' cells' slots' hS' q1 q2 hL' hl' => al_hd_ok hmul fv0 hadr hB hx hb hml hown hts hKN hAO hs3 hs2 hfin N pc' ls' st' S' h' H' locs' lsA' cells' slots' hS' q1 q2 hL' hl') (fun pc' S' H' locs' lsA' cells' slots' hd hρ hS' q1 q2 hL' => by cases hρ) hck0 h H locs lsA cells slots hS h1 h2 hL hl
end Law
theorem al_J0 : al_J al_S0 := ⟨fun q hq => (by cases hq), fun q hq => (by cases hq), fun q hq => (by cases hq), by decide⟩
theorem al_J1 : al_J al_S1 := by
  refine ⟨fun q hq => ?_, fun q hq => ?_, fun q hq => ?_, by decide⟩
  · have key : (kdl.all fun q => decide (q.1 < 277) && (decide (q.2.1 < 50) && (decide (q.2.1 < 4) || (match am_ty q.2.1 with
        | some ty => ty.isReference
        | none => false)))) = true := by decide +kernel
    have h := List.all_eq_true.mp key q hq
    simp only [Bool.and_eq_true, Bool.or_eq_true, decide_eq_true_eq] at h
    obtain ⟨h1, h2, h3⟩ := h
    refine ⟨h1, h2, fun h4 => ?_⟩
    rcases h3 with h3 | h3
    · omega
    · split at h3
      · rename_i ty hty
        exact ⟨ty, hty, h3⟩
      · cases h3
  · have key : (rdl.all fun q => decide (q.1 < 277) && decide (q.2.2 < 277)) = true := by decide +kernel
    have h := List.all_eq_true.mp key q hq
    simp only [Bool.and_eq_true, decide_eq_true_eq] at h
    exact h
  · have key : (idl.all fun q => decide (q.1 < 277)) = true := by decide +kernel
    exact of_decide_eq_true (List.all_eq_true.mp key q hq)
set_option maxHeartbeats 4000000 in
/-- the law's walk, its loop being what the abstract machine says -/
theorem law_start (hmul : al_MUL) {p : Program} {l : Launch} {e : Env} {s : State} {m : MethodId} {below : List Frame} {meth : Method} {c : Code} {Q : State → Prop} {b L : Nat} {xs : Nat → Int32} (hL : L ≤ 3072) (hx : p.tables.exec = Jvm.exec) (hb : c.code = code) (hr : meth.sig.returnType = some .boolean) (hml : c.maxLocals = 4) (hown : s.vm.findClass "RunSayerLaw" = some m.cls) (hts : ∀ w ∈ lw_tbl, w.before #[Value.ref b] s = true) (hX : va_X b L xs s s.heap) (hg : (Jvm.Cond.and given_1 narrow_1).before #[Value.ref b] s = true)
    (hpure : ∃ M : am_M, am_F T0 (al_g (g_st L xs) al_S1) 275 18 [.ref am_scr, .ref 0, .ref 219, .int 0] [] (al_m idl) = some (some (.int 1), M))
    (hret : ∀ (pc : Nat) (H : Heap) (ls : Array Slot), decode code pc = .ok (.ireturn, 1) → W p l e room_1 s m #[Value.ref b] below meth c H [] 600000 7302250 Q (F0 m pc ls [.int 1])) :
    W p l e room_1 s m #[Value.ref b] below meth c s.heap [] 0 0 Q (entryFrame m ([Value.ref b] : List Value).toArray 4) := by
  have htg : ∀ w ∈ lw_g, w.before #[Value.ref b] s = true := fun w hw => hts w (List.mem_filter.mp hw).1
  obtain ⟨fv, tB, sa, va, D, cA, fv0, hKN, hAO⟩ := KN_st hts hL hX hg
  have hadr : ∀ a : Nat, a < 1000000 → adr_st s.heap.size tB b sa va a = s.heap.size + a := fun a ha => adr_lo ha
  obtain ⟨M1, hM1⟩ := hpure
  obtain ⟨N, hN⟩ := am_F_iff.mp hM1
  rw [lg_entry_eq]
  have hl := lv_entry [Value.ref b] (n := 4) (show 1 ≤ 4 by decide)
  generalize (lg_sl [Value.ref b] ++ List.replicate (4 - (lg_sl [Value.ref b]).length) Slot.unset).toArray = lsA at hl ⊢
  have hlA : lv_has lsA 4 (am_l (adr_st s.heap.size tB b sa va) fv [(0, .ref am_scr)]) := hl
  have hG := al_Gk (adr := adr_st s.heap.size tB b sa va) (S := al_S1) hadr (al_B_st (L := L) (xs := xs)) al_J1
  have hKg := al_KN (S := al_S1) (al_B_st (L := L) (xs := xs)) al_J1 hKN
  refine al_hd_ok hmul fv0 hadr (al_B_st (L := L) (xs := xs)) hx hb hml hown htg hKN hAO (H0 := s.heap) (fun _ _ => rfl) (Nat.add_zero _).symm (K := 900) (ls1 := [(3, .int 0), (0, .ref am_scr), (1, .ref 0), (2, .ref 219)]) (st1 := []) (S1 := al_S1) (fun H locs lsB cells slots hS h1 h2 hLo hl1 => ?_) 20 0 [(0, .ref am_scr)] [] al_S0 al_end_eq s.heap [] lsA 0 0 ⟨⟨rfl, fun _ _ => rfl, fun a ha => ?_⟩, al_J0⟩ rfl rfl (fun q hq => (by cases hq)) hlA
  · obtain ⟨hH, hJ⟩ := hS
    have e1 : cells = 277 := by have : (277 : Nat) = 0 + cells := h1; omega
    have e2 : slots = 91379 := by have : (91379 : Nat) = 0 + slots := h2; omega
    subst e1; subst e2
    refine (am_fl_ok (l := l) fv0 hG (H0 := s.heap) (Nat.le_refl _) am_hck N).2 275 (some (.int 1), M1) hx hb hml hown htg hKg (Nat.le_add_right _ _) (Nat.le_refl _) (fun _ _ => rfl) (fun k hk => ?_) ⟨by show 277 ≤ 600000; omega, by show 91379 ≤ 7302250; omega⟩ law_cks (fun pc st H locs lsC hE hH hL2 => ?_) 18 [.ref am_scr, .ref 0, .ref 219, .int 0] [] (al_m idl) hN H locs lsB hH hLo (am_has_more hl1 fun q hq => ?_)
    · have hk : k < 10 := hk
      exact ⟨by show k + 1 ≤ 12; omega, by show 40 + 40 * k ≤ 464; omega⟩
    · rcases hE with ⟨hd, x, ty, q1, rfl, q3, q4⟩ | ⟨-, x, q1, -⟩ | ⟨-, a, q1, -⟩ | ⟨-, q1, -⟩
      · cases q1
        exact va_forget hL2 (W.widen (by omega) (by omega) (hret pc H lsC hd))
      · cases q1
      · cases q1
      · cases q1
    · have hq' : q ∈ am_l (adr_st s.heap.size tB b sa va) fv [(0, .ref am_scr), (1, .ref 0), (2, .ref 219), (3, .int 0)] := hq
      obtain ⟨q0, h0, rfl⟩ := List.mem_map.mp hq'
      refine List.mem_map.mpr ⟨q0, ?_, rfl⟩
      simp only [List.mem_cons, List.not_mem_nil, or_false] at h0 ⊢
      rcases h0 with h | h | h | h
      · exact Or.inr (Or.inl h)
      · exact Or.inr (Or.inr (Or.inl h))
      · exact Or.inr (Or.inr (Or.inr h))
      · exact Or.inl h
  · have hlt := al_lt (S := al_S0) (al_B_st (L := L) (xs := xs)) al_J0 ha
    exact absurd hlt (Nat.not_lt_zero _)
