/-! what the abstract machine answers, the machine answers -/
theorem am_row_mem : ∀ {l : List am_E} {pc : Nat} {e : am_E}, am_row l pc = some e → e ∈ l ∧ e.1 = pc
  | [], _, _, h => by cases h
  | a :: t, pc, e, h => by
    unfold am_row at h
    cases hb : Nat.beq a.1 pc with
    | true => rw [hb] at h; cases h; exact ⟨List.mem_cons_self, Nat.eq_of_beq_eq_true hb⟩
    | false =>
      rw [hb] at h
      obtain ⟨h1, h2⟩ := am_row_mem h
      exact ⟨List.mem_cons_of_mem _ h1, h2⟩
theorem am_at_mem : ∀ {l : List (Nat × List am_E)} {pc : Nat} {e : am_E}, am_at l pc = some e → (∃ b ∈ l, e ∈ b.2) ∧ e.1 = pc
  | [], _, _, h => by cases h
  | a :: t, pc, e, h => by
    unfold am_at at h
    cases hb : Nat.blt pc a.1 with
    | true => rw [hb] at h; obtain ⟨h1, h2⟩ := am_row_mem h; exact ⟨⟨a, List.mem_cons_self, h1⟩, h2⟩
    | false =>
      rw [hb] at h
      obtain ⟨⟨b, h1, h2⟩, h3⟩ := am_at_mem h
      exact ⟨⟨b, List.mem_cons_of_mem _ h1, h2⟩, h3⟩
theorem am_wds_sl : ∀ (vs : List Value), (lg_sl vs).length = am_wds vs
  | [] => rfl
  | v :: t => by
    have ih := am_wds_sl t
    have e : lg_sl (v :: t) = (if v.category = 2 then [.val v, .second] else [.val v]) ++ lg_sl t := rfl
    rw [e, List.length_append, ih]
    show _ + am_wds t = (bif am_wide v then 2 else 1) + am_wds t
    cases hb : am_wide v with
    | true => rw [if_pos (am_wide_cat.mpr hb)]; rfl
    | false => rw [if_neg (fun q => by rw [am_wide_cat.mp q] at hb; cases hb)]; rfl
theorem am_wds_map {adr : Nat → Nat} {fv : Value} (fv0 : fv = .null ∨ ∃ t, fv = .ref t) : ∀ (vs : List Value), am_wds (vs.map (am_v adr fv)) = am_wds vs
  | [] => rfl
  | v :: t => by
    have ih := am_wds_map (adr := adr) fv0 t
    have e : am_wide (am_v adr fv v) = am_wide v := by
      have h1 := am_v_cat (adr := adr) fv0 v
      cases hb : am_wide v with
      | true => exact am_wide_cat.mp (h1.trans (am_wide_cat.mpr hb))
      | false =>
        cases hc : am_wide (am_v adr fv v) with
        | true => exact absurd (am_wide_cat.mp (h1.symm.trans (am_wide_cat.mpr hc))) (by rw [hb]; decide)
        | false => rfl
    show (bif am_wide (am_v adr fv v) then 2 else 1) + am_wds (t.map _) = (bif am_wide v then 2 else 1) + am_wds t
    rw [ih, e]
theorem am_args_map {adr : Nat → Nat} {fv : Value} (fv0 : fv = .null ∨ ∃ t, fv = .ref t) : ∀ (i : Nat) (vs : List Value), lv_args i (vs.map (am_v adr fv)) = am_l adr fv (lv_args i vs)
  | _, [] => rfl
  | i, v :: t => by
    show (i, am_v adr fv v) :: lv_args (if (am_v adr fv v).category = 2 then i + 2 else i + 1) (t.map _) = (i, am_v adr fv v) :: am_l adr fv (lv_args (if v.category = 2 then i + 2 else i + 1) t)
    rw [am_v_cat fv0, am_args_map fv0]
theorem am_cks_all {y : Nat} (h : am_cks y = true) {pc : Nat} {e : am_E} (he : am_at (T0 y).2.1 pc = some e) : am_ck (mW y) (mB y) (mK y) (mL y) (T0 y).1 (mR y) e = true ∧ e.1 = pc := by
  unfold am_cks at h
  rw [Bool.and_eq_true] at h
  obtain ⟨⟨b, h1, h2⟩, h3⟩ := am_at_mem he
  exact ⟨List.all_eq_true.mp (List.all_eq_true.mp h.2 b h1) e h2, h3⟩
theorem am_pln : ∀ k : Nat, k < 13 → plainName (mO k) = true := by decide +kernel
theorem am_plf : ∀ y : Nat, y < 275 → (Nat.ble 13 (mW y) = false ∨ plainFor (mN y) = true) := by decide +kernel
theorem am_plain {y : Nat} (hy : y < 275) : plainFor (mN y) = true := by
  rcases am_plf y hy with h | h
  · refine plainFor_of_name ?_
    rw [(am_mk_in hy).1]
    refine am_pln _ ?_
    cases hlt : decide (mW y < 13) with
    | true => exact of_decide_eq_true hlt
    | false =>
      have h1 : 13 ≤ mW y := Nat.le_of_not_lt (of_decide_eq_false hlt)
      rw [Nat.ble_eq_true_of_le h1] at h
      cases h
  · exact h
section Snd
variable {adr : Nat → Nat} {fv : Value} {B : Nat} {H0 : Heap} {D : va_G} {cA : Nat → ClassId} {g : am_G}
theorem am_ent_ok {y : Nat} (hc : am_cks y = true) {ls : am_L} {pc : Nat} {keep : List Nat} {vs : List Value} (hk : am_cut (T0 y).2.2 pc = some keep) (hp : am_pick ls keep = some vs) : ∀ q ∈ am_l adr fv (am_ent (T0 y).2.2 pc vs), q ∈ am_l adr fv ls := by
  have key : ∀ q ∈ am_ent (T0 y).2.2 pc vs, q ∈ ls := by
    unfold am_ent
    cases hb : Nat.beq pc 0 with
    | true =>
      have h0 : pc = 0 := Nat.eq_of_beq_eq_true hb
      subst h0
      unfold am_cks am_c0 at hc
      rw [Bool.and_eq_true, hk] at hc
      have hk0 : keep = [0] := of_decide_eq_true hc.1
      subst hk0
      unfold am_pick at hp
      split at hp
      · rename_i v hv
        cases hp
        intro q hq
        have hq : q ∈ lv_args 0 [v] := hq
        rcases List.mem_cons.mp hq with rfl | hq
        · exact am_lk_mem hv
        · cases hq
      · cases hp
    | false =>
      show ∀ q ∈ (match am_cut (T0 y).2.2 pc with | some k => k.zip vs | none => []), q ∈ ls
      rw [hk]
      exact am_pick_mem hp
  intro q hq
  obtain ⟨q0, h0, rfl⟩ := List.mem_map.mp hq
  exact List.mem_map.mpr ⟨q0, key q0 h0, rfl⟩
variable {p : Program} {l : Launch} {e : Env} {R : Room} {s : State} {m : MethodId} {args : Array Value} {below : List Frame} {meth : Method} {c : Code} {Q : State → Prop} {cells slots : Nat}
theorem am_run_ok (hx : p.tables.exec = Jvm.exec) {y : Nat} (hb : c.code = mB y) (hml : c.maxLocals = mL y) (hown : s.vm.findClass (mO (mW y)) = some m.cls) (hts : ∀ w ∈ lw_g, w.before args s = true)
    (fv0 : fv = .null ∨ ∃ t, fv = .ref t) (hG : am_Gk adr B g) (hKN : am_KN adr fv B D cA g s s.heap) (hs2 : s.heap.size ≤ B + g.1) (hs4 : B ≤ s.heap.size) (hs3 : ∀ q : Nat, q < B → s.heap[q]? = H0[q]?)
    (hR : ∀ k : Nat, k < mK y → k + 1 ≤ R.frames ∧ 40 + 40 * k ≤ R.locals) (hcs : cells ≤ R.cells ∧ slots ≤ R.slots) (hc : am_cks y = true)
    {Γ : Nat → List Value → am_M → Option am_R} {κ : Nat → List Value → List Value → am_M → Option am_R} {r : am_R}
    (hΓ : ∀ (z : Nat) (a : List Value) (M : am_M) (q : am_R), z < 275 → mK z < mK y → am_wds a ≤ mL z → Γ z a M = some q → Met l (mN z) (mws z) (mrm (mK z)) (am_Pc adr fv B H0 D cA g a M) (am_Qc adr fv B H0 D cA g q) 0 0 (fun q : Nat => B ≤ q))
    (hκ : ∀ (pc' : Nat) (vs' st' : List Value) (M' : am_M), κ pc' vs' st' M' = some r → ∀ (H : Heap) (locs : List Loc) (lsA : Array Slot), am_H adr B H0 D cA g M' H → (∀ q ∈ locs, B ≤ q.base) → lv_has lsA (mL y) (am_l adr fv (am_ent (T0 y).2.2 pc' vs')) → W p l e R s m args below meth c H locs cells slots Q (F0 m pc' lsA (st'.map (am_v adr fv))))
    (hEnd : ∀ (pc : Nat) (st : List Value) (H : Heap) (locs : List Loc) (lsA : Array Slot), am_End (mB y) (mR y) pc st r.1 → am_H adr B H0 D cA g r.2 H → (∀ q ∈ locs, B ≤ q.base) → W p l e R s m args below meth c H locs cells slots Q (F0 m pc lsA (st.map (am_v adr fv)))) :
    ∀ (n pc : Nat) (ls : am_L) (st : List Value) (M : am_M), am_run Γ g (T0 y).1 (T0 y).2.1 (T0 y).2.2 κ n pc ls st M = some r → ∀ (H : Heap) (locs : List Loc) (lsA : Array Slot), am_H adr B H0 D cA g M H → (∀ q ∈ locs, B ≤ q.base) → lv_has lsA (mL y) (am_l adr fv ls) → W p l e R s m args below meth c H locs cells slots Q (F0 m pc lsA (st.map (am_v adr fv)))
  | 0, _, _, _, _, h => by cases h
  | n + 1, pc, ls, st, M, h => by
    intro H locs lsA hH hL hl
    obtain ⟨e0, he, h2⟩ := am_run_iv h
    obtain ⟨hck, hpc⟩ := am_cks_all hc he
    subst hpc
    refine am_step_ok hx hb hml hown hts fv0 hG hKN hs2 hs4 hs3 hR hcs hΓ (fun pc' ls' st' M' h' H locs lsA hH hL hl => ?_) hEnd hck h2 H locs lsA hH hL hl
    split at h'
    · rename_i keep hk
      split at h'
      · rename_i vs hv
        exact hκ _ _ _ _ h' H locs lsA hH hL (am_has_more hl (am_ent_ok hc hk hv))
      · cases h'
    · exact am_run_ok hx hb hml hown hts fv0 hG hKN hs2 hs4 hs3 hR hcs hc hΓ hκ hEnd n _ _ _ _ h' H locs lsA hH hL hl
theorem am_wret (hx : p.tables.exec = Jvm.exec) {bs : ByteArray} (hb : c.code = bs) {ret : Option FieldType} (hr : meth.sig.returnType = ret) (hlocks : meth.locks = false) (fv0 : fv = .null ∨ ∃ t, fv = .ref t) {r : am_R} {pc : Nat} {st : List Value} {H : Heap} {locs : List Loc} {lsA : Array Slot} (hE : am_End bs ret pc st r.1) (hH : am_H adr B H0 D cA g r.2 H) (hL : ∀ q ∈ locs, B ≤ q.base) :
    W p l e R s m args below meth c H locs 0 0 (MQ below (am_Qc adr fv B H0 D cA g r) args s 0 0 (fun q : Nat => B ≤ q)) (F0 m pc lsA (st.map (am_v adr fv))) := by
  rcases hE with ⟨hd, x, ty, e1, rfl, e3, e4⟩ | ⟨hd, x, e1, rfl, e3⟩ | ⟨hd, a, e1, rfl, rt, e3, e4⟩ | ⟨hd, e1, rfl, e3⟩
  · exact W.zret hx hb (hr.trans e3) e4 (fun t ht _ => ⟨by rw [e1]; rfl, by rw [ht]; exact hH⟩) hL hd
  · exact W.lret hx hb (hr.trans e3) (fun t ht _ => ⟨by rw [e1]; rfl, by rw [ht]; exact hH⟩) hL hd
  · exact W.aret hx hb (hr.trans e3) e4 (am_vref fv0 a) (fun t ht _ => ⟨by rw [e1]; rfl, by rw [ht]; exact hH⟩) hL hd
  · exact W.vret hx hb (hr.trans e3) (fun t ht _ => ⟨by rw [e1]; rfl, by rw [ht]; exact hH⟩) hL hd
theorem am_fl_ok (fv0 : fv = .null ∨ ∃ t, fv = .ref t) (hG : am_Gk adr B g) (hB : B ≤ H0.size) (hck : ∀ y : Nat, y < 275 → am_cks y = true) : ∀ (N : Nat),
    (∀ (y : Nat) (a : List Value) (M : am_M) (r : am_R), y < 275 → am_wds a ≤ mL y → am_fl T0 g N y 0 a [] M = some r → Met l (mN y) (mws y) (mrm (mK y)) (am_Pc adr fv B H0 D cA g a M) (am_Qc adr fv B H0 D cA g r) 0 0 (fun q : Nat => B ≤ q)) ∧
    (∀ {p : Program} {e : Env} {R : Room} {s : State} {m : MethodId} {args : Array Value} {below : List Frame} {meth : Method} {c : Code} {Q : State → Prop} {cells slots : Nat} (y : Nat) (r : am_R), p.tables.exec = Jvm.exec → c.code = mB y → c.maxLocals = mL y → s.vm.findClass (mO (mW y)) = some m.cls → (∀ w ∈ lw_g, w.before args s = true) → am_KN adr fv B D cA g s s.heap → s.heap.size ≤ B + g.1 → B ≤ s.heap.size → (∀ q : Nat, q < B → s.heap[q]? = H0[q]?) → (∀ k : Nat, k < mK y → k + 1 ≤ R.frames ∧ 40 + 40 * k ≤ R.locals) → (cells ≤ R.cells ∧ slots ≤ R.slots) → am_cks y = true →
      (∀ (pc : Nat) (st : List Value) (H : Heap) (locs : List Loc) (lsA : Array Slot), am_End (mB y) (mR y) pc st r.1 → am_H adr B H0 D cA g r.2 H → (∀ q ∈ locs, B ≤ q.base) → W p l e R s m args below meth c H locs cells slots Q (F0 m pc lsA (st.map (am_v adr fv)))) →
      ∀ (pc : Nat) (vs st : List Value) (M : am_M), am_fl T0 g N y pc vs st M = some r → ∀ (H : Heap) (locs : List Loc) (lsA : Array Slot), am_H adr B H0 D cA g M H → (∀ q ∈ locs, B ≤ q.base) → lv_has lsA (mL y) (am_l adr fv (am_ent (T0 y).2.2 pc vs)) → W p l e R s m args below meth c H locs cells slots Q (F0 m pc lsA (st.map (am_v adr fv))))
  | 0 => ⟨fun _ _ _ _ _ _ h => (by cases h), fun _ _ _ _ _ _ _ _ _ _ _ _ _ _ _ _ _ _ _ h => (by cases h)⟩
  | N + 1 => by
    obtain ⟨ihA, ihB⟩ := am_fl_ok fv0 hG hB hck N
    have stepB : ∀ {p : Program} {e : Env} {R : Room} {s : State} {m : MethodId} {args : Array Value} {below : List Frame} {meth : Method} {c : Code} {Q : State → Prop} {cells slots : Nat} (y : Nat) (r : am_R), p.tables.exec = Jvm.exec → c.code = mB y → c.maxLocals = mL y → s.vm.findClass (mO (mW y)) = some m.cls → (∀ w ∈ lw_g, w.before args s = true) → am_KN adr fv B D cA g s s.heap → s.heap.size ≤ B + g.1 → B ≤ s.heap.size → (∀ q : Nat, q < B → s.heap[q]? = H0[q]?) → (∀ k : Nat, k < mK y → k + 1 ≤ R.frames ∧ 40 + 40 * k ≤ R.locals) → (cells ≤ R.cells ∧ slots ≤ R.slots) → am_cks y = true →
      (∀ (pc : Nat) (st : List Value) (H : Heap) (locs : List Loc) (lsA : Array Slot), am_End (mB y) (mR y) pc st r.1 → am_H adr B H0 D cA g r.2 H → (∀ q ∈ locs, B ≤ q.base) → W p l e R s m args below meth c H locs cells slots Q (F0 m pc lsA (st.map (am_v adr fv)))) →
      ∀ (pc : Nat) (vs st : List Value) (M : am_M), am_fl T0 g (N + 1) y pc vs st M = some r → ∀ (H : Heap) (locs : List Loc) (lsA : Array Slot), am_H adr B H0 D cA g M H → (∀ q ∈ locs, B ≤ q.base) → lv_has lsA (mL y) (am_l adr fv (am_ent (T0 y).2.2 pc vs)) → W p l e R s m args below meth c H locs cells slots Q (F0 m pc lsA (st.map (am_v adr fv))) := by
      intro p e R s m args below meth c Q cells slots y r hx hb hml hown hts hKN hs2 hs4 hs3 hR hcs hc hEnd pc vs st M h H locs lsA hH hL hl
      unfold am_fl at h
      exact am_run_ok hx hb hml hown hts fv0 hG hKN hs2 hs4 hs3 hR hcs hc (fun z a M q hz _ hw hq => ihA z a M q hz hw hq) (fun pc' vs' st' M' h' => ihB y r hx hb hml hown hts hKN hs2 hs4 hs3 hR hcs hc hEnd pc' vs' st' M' h') hEnd 400 pc _ st M h H locs lsA hH hL hl
    refine ⟨fun y a M r hy hw h => ?_, stepB⟩
    obtain ⟨hc1, hc2, -, -⟩ := am_mk_in hy
    refine va_MetF (cc := mB y) (maxL := mL y) (ret := mR y) (am_plain hy) rfl ?_
    intro p e s m args below meth c s₁ BL hml hv
    obtain ⟨rfl, hH, hKN⟩ := hv
    have hx := BL.exec
    have hb := BL.bytes
    have hr := BL.returns
    have hts := atoms_spec (ws := mws y) BL.pre
    have hown : s.vm.findClass (mN y).cls = some m.cls := findClass_of_methodNamed BL.named
    have hlocks := BL.notSynchronized
    have hl := lv_entry (a.map (am_v adr fv)) (n := mL y) (by rw [am_wds_sl, am_wds_map fv0]; exact hw)
    rw [lg_entry_eq]
    generalize (lg_sl (a.map (am_v adr fv)) ++ List.replicate (mL y - (lg_sl (a.map (am_v adr fv))).length) Slot.unset).toArray = lsA at hl ⊢
    rw [am_args_map fv0] at hl
    exact stepB (R := (headSpec (mws y) (mrm (mK y))).room) y r hx hb hml (by rw [← hc1]; exact hown) (fun w hw => hts w (List.mem_cons_of_mem _ hw)) hKN (by rw [hH.1]; omega) (by rw [hH.1]; omega) hH.2.1 (fun k hk => ⟨show k + 1 ≤ mK y from hk, by show 40 + 40 * k ≤ 40 * mK y; omega⟩) ⟨Nat.zero_le _, Nat.zero_le _⟩ (hck y hy) (fun pc st H locs lsA hE hH hL => am_wret hx hb hr hlocks fv0 hE hH hL) 0 a [] M h s.heap [] lsA hH (fun q hq => by cases hq) (by
      have e : am_ent (T0 y).2.2 0 a = lv_args 0 a := rfl
      rw [e]; exact hl)
end Snd
