/-! the second machine's runs are the constructors' -/
def al_cks (z : Nat) : Bool := (al_T z).all fun b => b.2.all fun e => al_ck z (iB z) (iK z) (iL z) e
theorem al_at_ck {o : Nat} {bs : ByteArray} {rk nL : Nat} {T : List (Nat × List am_E)} (h : (T.all fun b => b.2.all fun e => al_ck o bs rk nL e) = true) {pc : Nat} {e : am_E} (he : am_at T pc = some e) : al_ck o bs rk nL e = true ∧ e.1 = pc := by
  obtain ⟨⟨b, h1, h2⟩, h3⟩ := am_at_mem he
  exact ⟨List.all_eq_true.mp (List.all_eq_true.mp h b h1) e h2, h3⟩
theorem al_kpos : ∀ z : Nat, z < 13 → 0 < iK z := by decide
section AlR
variable {adr : Nat → Nat} {fv : Value} {B : Nat} {H0 : Heap} {D : va_G} {cA : Nat → ClassId} {g0 : am_G} {l : Launch}
set_option maxHeartbeats 2000000 in
theorem al_fl_ok (hmul : al_MUL) (fv0 : fv = .null ∨ ∃ t, fv = .ref t) (hadr : ∀ a : Nat, a < 1000000 → adr a = B + a) (hB : al_B g0) (hck : ∀ z : Nat, z < 13 → al_cks z = true) : ∀ N : Nat,
    (∀ (z : Nat) (a : List Value) (S S' : al_S), z < 13 → am_wds a ≤ iL z → al_fl N (S.1 + (cz z).1, S.2.1 + (cz z).2) z 0 (lv_args 0 a) [] S = some S' → Met l (iN z) (iws z) (irm z) (al_Pc adr fv B H0 D cA g0 a S) (al_Qc adr fv B H0 D cA g0 S') (cz z).1 (cz z).2 (fun q : Nat => B ≤ q)) ∧
    (∀ {p : Program} {e : Env} {s : State} {m : MethodId} {args : Array Value} {below : List Frame} {meth : Method} {c : Code} (z : Nat) (S0 r : al_S), z < 13 → p.tables.exec = Jvm.exec → c.code = iB z → c.maxLocals = iL z → s.vm.findClass (mO z) = some m.cls → (∀ w ∈ lw_g, w.before args s = true) → am_KN adr fv B D cA g0 s s.heap → al_AO s → (∀ q : Nat, q < B → s.heap[q]? = H0[q]?) → s.heap.size = B + S0.1 → meth.sig.returnType = none → meth.locks = false → meth.name = "<init>" →
      ∀ (pc : Nat) (ls : am_L) (st : List Value) (S : al_S), al_fl N (S0.1 + (cz z).1, S0.2.1 + (cz z).2) z pc ls st S = some r → ∀ (H : Heap) (locs : List Loc) (lsA : Array Slot) (cells slots : Nat), al_st adr B H0 D cA g0 S H → S.1 = S0.1 + cells → S.2.1 = S0.2.1 + slots → (∀ q ∈ locs, B ≤ q.base) → lv_has lsA (iL z) (am_l adr fv ls) →
        W p l e (headSpec (iws z) (irm z)).room s m args below meth c H locs cells slots (MQ below (al_Qc adr fv B H0 D cA g0 r) args s (cz z).1 (cz z).2 (fun q : Nat => B ≤ q)) (F0 m pc lsA (st.map (am_v adr fv))))
  | 0 => ⟨fun _ _ _ _ _ _ h => (by cases h), fun _ _ _ _ _ _ _ _ _ _ _ _ _ _ _ _ _ _ _ _ h => (by cases h)⟩
  | N + 1 => by
    obtain ⟨ihA, ihB⟩ := al_fl_ok hmul fv0 hadr hB hck N
    have stepB : ∀ {p : Program} {e : Env} {s : State} {m : MethodId} {args : Array Value} {below : List Frame} {meth : Method} {c : Code} (z : Nat) (S0 r : al_S), z < 13 → p.tables.exec = Jvm.exec → c.code = iB z → c.maxLocals = iL z → s.vm.findClass (mO z) = some m.cls → (∀ w ∈ lw_g, w.before args s = true) → am_KN adr fv B D cA g0 s s.heap → al_AO s → (∀ q : Nat, q < B → s.heap[q]? = H0[q]?) → s.heap.size = B + S0.1 → meth.sig.returnType = none → meth.locks = false → meth.name = "<init>" →
      ∀ (pc : Nat) (ls : am_L) (st : List Value) (S : al_S), al_fl (N + 1) (S0.1 + (cz z).1, S0.2.1 + (cz z).2) z pc ls st S = some r → ∀ (H : Heap) (locs : List Loc) (lsA : Array Slot) (cells slots : Nat), al_st adr B H0 D cA g0 S H → S.1 = S0.1 + cells → S.2.1 = S0.2.1 + slots → (∀ q ∈ locs, B ≤ q.base) → lv_has lsA (iL z) (am_l adr fv ls) →
        W p l e (headSpec (iws z) (irm z)).room s m args below meth c H locs cells slots (MQ below (al_Qc adr fv B H0 D cA g0 r) args s (cz z).1 (cz z).2 (fun q : Nat => B ≤ q)) (F0 m pc lsA (st.map (am_v adr fv))) := by
      intro p e s m args below meth c z S0 r hz hx hb hml hown hts hKN hAO hs3 hs2 hret hlocks hname pc ls st S h H locs lsA cells slots hS hc1 hc2 hL hl
      unfold al_fl at h
      split at h
      · cases h
      · rename_i e0 he
        obtain ⟨hck0, hpc⟩ := al_at_ck (hck z hz) he
        subst hpc
        refine al_step_ok hmul (R := (headSpec (iws z) (irm z)).room) (lim := (S0.1 + (cz z).1, S0.2.1 + (cz z).2)) (n0 := S0.1) (m0 := S0.2.1) hx hb hml hown hts fv0 hadr hB hKN hAO hs3 hs2 (rk := iK z) (fun k hk => ⟨show k + 1 ≤ iK z from hk, by show 40 + 40 * k ≤ 40 * iK z; omega⟩) (al_kpos z hz) ⟨Nat.le_refl _, Nat.le_refl _⟩ (fun _ => hname) (fun z' a' S1 S2 hz' _ hw' h' => ihA z' a' S1 S2 hz' hw' h') (fun pc' ls' st' S' h' H' locs' lsA' cells' slots' hS' q1 q2 hL' hl' => ihB z S0 r hz hx hb hml hown hts hKN hAO hs3 hs2 hret hlocks hname pc' ls' st' S' h' H' locs' lsA' cells' slots' hS' q1 q2 hL' hl') (fun pc' S' H' locs' lsA' cells' slots' hd hρ hS' q1 q2 hL' => ?_) hck0 h H locs lsA cells slots hS hc1 hc2 hL hl
        obtain ⟨hb1, hr⟩ := al_bif hρ
        have hr' : S' = r := Option.some.inj hr
        subst hr'
        rw [Bool.and_eq_true] at hb1
        have w1 : S'.1 = S0.1 + (cz z).1 := Nat.eq_of_beq_eq_true hb1.1
        have w2 : S'.2.1 = S0.2.1 + (cz z).2 := Nat.eq_of_beq_eq_true hb1.2
        have e1 : cells' = (cz z).1 := by omega
        have e2 : slots' = (cz z).2 := by omega
        subst e1; subst e2
        exact W.vret hx hb hret (fun t ht _ => ⟨rfl, by rw [ht]; exact hS'⟩) hL' hd
    refine ⟨fun z a S S' hz hw h => ?_, stepB⟩
    obtain ⟨w1, w2⟩ := al_tz_in hz
    refine va_MetF (cc := iB z) (maxL := iL z) (ret := none) (plainFor_of_name (am_pln z hz)) rfl ?_
    intro p e s m args below meth c s₁ BL hml hv
    obtain ⟨rfl, hS, hKN, hAO⟩ := hv
    have hts := atoms_spec (ws := iws z) BL.pre
    have hown : s.vm.findClass (iN z).cls = some m.cls := findClass_of_methodNamed BL.named
    have hname : meth.name = "<init>" := (name_of_methodNamed BL.named BL.method).1
    have hl := lv_entry (a.map (am_v adr fv)) (n := iL z) (by rw [am_wds_sl, am_wds_map fv0]; exact hw)
    rw [lg_entry_eq]
    generalize (lg_sl (a.map (am_v adr fv)) ++ List.replicate (iL z - (lg_sl (a.map (am_v adr fv))).length) Slot.unset).toArray = lsA at hl ⊢
    rw [am_args_map fv0] at hl
    exact stepB z S S' hz BL.exec BL.bytes hml hown (fun w hw => hts w (List.mem_cons_of_mem _ hw)) hKN hAO hS.1.2.1 hS.1.1 BL.returns BL.notSynchronized hname 0 (lv_args 0 a) [] S h s.heap [] lsA 0 0 hS rfl rfl (fun q hq => by cases hq) hl
end AlR
