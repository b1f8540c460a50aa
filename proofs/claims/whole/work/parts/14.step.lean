/-! one step of the abstract machine is one step of the machine -/
def mws (z : Nat) : List Cond := Cond.code (mN z) (mB z) (mL z) (mR z) :: lw_g
def mrm (k : Nat) : Room := { frames := k, cells := 0, slots := 0, locals := 40 * k }
def am_Pc (adr : Nat → Nat) (fv : Value) (B : Nat) (H0 : Heap) (D : va_G) (cA : Nat → ClassId) (g : am_G) (a : List Value) (M : am_M) : Array Value → State → Prop := fun v U => v = (a.map (am_v adr fv)).toArray ∧ am_H adr B H0 D cA g M U.heap ∧ am_KN adr fv B D cA g U U.heap
def am_Qc (adr : Nat → Nat) (fv : Value) (B : Nat) (H0 : Heap) (D : va_G) (cA : Nat → ClassId) (g : am_G) (r : am_R) : Array Value → State → Outcome → State → Prop := fun _ _ oc t => oc = .returned (r.1.map (am_v adr fv)) ∧ am_H adr B H0 D cA g r.2 t.heap
/-- a method's end -/
def am_End (bs : ByteArray) (ret : Option FieldType) (pc : Nat) (st : List Value) (v : Option Value) : Prop :=
  (decode bs pc = .ok (.ireturn, 1) ∧ ∃ (x : Int32) (ty : FieldType), v = some (.int x) ∧ st = [.int x] ∧ ret = some ty ∧ narrow ty (.int x) = .int x) ∨
  (decode bs pc = .ok (.lreturn, 1) ∧ ∃ x : Int64, v = some (.long x) ∧ st = [.long x] ∧ ret = some .long) ∨
  (decode bs pc = .ok (.areturn, 1) ∧ ∃ a : Nat, v = some (.ref a) ∧ st = [.ref a] ∧ ∃ rt, ret = some rt ∧ ((∃ n, rt = .object n) ∨ ∃ t, rt = .array t)) ∨
  (decode bs pc = .ok (.return_, 1) ∧ v = none ∧ st = [] ∧ ret = none)
theorem am_pop_iv : ∀ {n : Nat} {acc st A rest : List Value}, am_pop n acc st = some (A, rest) → ∃ t : List Value, t.length = n ∧ st = t ++ rest ∧ A = t.reverse ++ acc
  | 0, acc, st, A, rest, h => by cases h; exact ⟨[], rfl, rfl, rfl⟩
  | n + 1, acc, [], A, rest, h => by cases h
  | n + 1, acc, v :: st, A, rest, h => by
    obtain ⟨t, h1, h2, h3⟩ := am_pop_iv (n := n) (acc := v :: acc) (st := st) h
    exact ⟨v :: t, by simp [h1], by rw [h2]; rfl, by rw [h3]; simp⟩
theorem am_mk_in {y : Nat} (h : y < 275) : pr_m y := by
  have key : ∀ y : Nat, y < 275 → y ∈ tm := by decide +kernel
  exact p_tm y (key y h)
theorem am_good : ∀ w ∈ lw_g, (w.onTables && w.keeps) = true ∨ ∃ ty, w = .arrayClass ty := fun w hw => good_of_word (List.mem_filter.mp hw).2
theorem am_ini (o : Nat) (h : o < 19) : Cond.initialized (mO o) ∈ lw_g := by
  have key : ∀ y : Nat, y < 19 → y ∈ tn := by decide +kernel
  exact p_tn o (key o h)
theorem am_lkc_ok {pc : Nat} {d : Int} {x1 : Nat} (hd : (pc : Int) + d = (x1 : Int)) {x : Int32} : ∀ {ps : List (Int × Int)} {sw : List (Int32 × Nat)}, am_lkc pc ps sw = true → ∀ {β : Type} {r : β} {κ : Nat → Option β}, am_sw sw x1 x κ = some r → ∃ (t : Nat) (off : Int), κ t = some r ∧ Op.lookupswitch.offset ps d x.toInt = off ∧ (pc : Int) + off = (t : Int)
  | [], [], _, _, r, κ, h => ⟨x1, d, h, by simp [Op.lookupswitch.offset], hd⟩
  | [], _ :: _, h, _, _, _, _ => by cases h
  | (a, off) :: ps, [], h, _, _, _, _ => by cases h
  | (a, off) :: ps, (c, t) :: sw, h, β, r, κ, h2 => by
    simp only [am_lkc, Bool.and_eq_true, decide_eq_true_eq] at h
    obtain ⟨h3, h4, h5⟩ := h
    by_cases hx : x = c
    · rw [am_sw, if_pos hx] at h2
      refine ⟨t, off, h2, ?_, h4⟩
      rw [Op.lookupswitch.offset_cons, if_pos (by rw [hx, h3])]
    · rw [am_sw, if_neg hx] at h2
      obtain ⟨t', off', h6, h7, h8⟩ := am_lkc_ok hd h5 h2
      exact ⟨t', off', h6, by rw [lv_osw hx h3]; exact h7, h8⟩
theorem am_sw_at {x : Int32} {d : Nat} : ∀ {sw : List (Int32 × Nat)} {β : Type} {r : β} {κ : Nat → Option β}, am_sw sw d x κ = some r → (∃ (i : Nat) (t : Nat), sw[i]? = some (x, t) ∧ κ t = some r) ∨ (κ d = some r ∧ ∀ q ∈ sw, x ≠ q.1)
  | [], _, _, _, h => Or.inr ⟨h, fun q hq => by cases hq⟩
  | (c, t) :: sw, β, r, κ, h => by
    by_cases hx : x = c
    · rw [am_sw, if_pos hx] at h
      exact Or.inl ⟨0, t, by rw [hx]; rfl, h⟩
    · rw [am_sw, if_neg hx] at h
      rcases am_sw_at h with ⟨i, t', h1, h2⟩ | ⟨h1, h2⟩
      · exact Or.inl ⟨i + 1, t', by simpa using h1, h2⟩
      · refine Or.inr ⟨h1, fun q hq => ?_⟩
        rcases List.mem_cons.mp hq with rfl | hq
        · exact hx
        · exact h2 q hq
theorem ck_of {o : Nat} {bs : ByteArray} {rk nL rz : Nat} {ret : Option FieldType} {e0 : am_E} {k : Nat} (h : am_ck o bs rk nL rz ret e0 = true) (hw : am_isw e0.2.1 = false) (hk : am_lens e0.2.1 = k) : e0.2.2.1 = e0.1 + k ∧ decode bs e0.1 = .ok (e0.2.1, k) ∧ am_ckx o rk nL rz ret e0 = true := by
  subst hk
  simp only [am_ck, Bool.and_eq_true, Bool.or_eq_true, decide_eq_true_eq, hw] at h
  obtain ⟨h1, h2, h3⟩ := h
  have h2 : e0.2.2.1 = e0.1 + am_lens e0.2.1 := by rcases h2 with h2 | h2; exact h2; cases h2
  refine ⟨h2, ?_, h3⟩
  rw [h1, h2, Nat.add_sub_cancel_left]
theorem ck_dec {o : Nat} {bs : ByteArray} {rk nL rz : Nat} {ret : Option FieldType} {e0 : am_E} (h : am_ck o bs rk nL rz ret e0 = true) : (∃ k, decode bs e0.1 = .ok (e0.2.1, k)) ∧ am_ckx o rk nL rz ret e0 = true := by
  simp only [am_ck, Bool.and_eq_true, decide_eq_true_eq] at h
  exact ⟨⟨_, h.1⟩, h.2.2⟩
theorem am_vref {adr : Nat → Nat} {fv : Value} (fv0 : fv = .null ∨ ∃ t, fv = .ref t) (x : Nat) : am_v adr fv (.ref x) = .null ∨ ∃ t, am_v adr fv (.ref x) = .ref t := by
  have e : am_v adr fv (.ref x) = if x = am_fid then fv else .ref (adr x) := rfl
  rw [e]
  by_cases h : x = am_fid
  · rw [if_pos h]; exact fv0
  · rw [if_neg h]; exact Or.inr ⟨_, rfl⟩
theorem am_l5 {k : Nat × Nat} {t n : Nat} (h : k = (t, n)) (ht : t < 50) : k.1 < 50 := by rw [h]; exact ht
theorem am_n9 {k : Nat × Nat} {t n : Nat} (h : k = (t, n)) (ht : t ≠ 99) : k.1 ≠ 99 := by rw [h]; exact ht
theorem am_vn {adr : Nat → Nat} {fv : Value} (a : Nat) (h : a ≠ am_fid) : am_v adr fv (.ref a) = .ref (adr a) := if_neg h
theorem am_vf {adr : Nat → Nat} {fv : Value} (a : Nat) (h : a = am_fid) : am_v adr fv (.ref a) = fv := if_pos h
theorem am_locs {B : Nat} {locs : List Loc} {a j : Nat} (hL : ∀ q ∈ locs, B ≤ q.base) (ha : B ≤ a) : ∀ q ∈ locs ++ [⟨a, j⟩], B ≤ q.base := by
  intro q hq
  rcases List.mem_append.mp hq with hq | hq
  · exact hL q hq
  · rw [List.mem_singleton.mp hq]; exact ha
theorem am_ce_q {adr : Nat → Nat} {cA : Nat → ClassId} {g : am_G} {M : am_M} {a t n : Nat} (h : gK g a = (t, n)) (h4 : 4 ≤ t) : am_ce adr cA g M a = .inl (cA t, n, .inr (.inr (.inr (.inr fun j => (gR g a j).map adr)))) := by
  unfold am_ce; rw [h]
  match t, h4 with
  | t + 4, _ => rfl
theorem am_ce_0 {adr : Nat → Nat} {cA : Nat → ClassId} {g : am_G} {M : am_M} {a n : Nat} (h : gK g a = (0, n)) : am_ce adr cA g M a = .inr (n, am_fs adr g M a n) := by
  unfold am_ce; rw [h]; rfl
theorem am_ce_1 {adr : Nat → Nat} {cA : Nat → ClassId} {g : am_G} {M : am_M} {a n : Nat} (h : gK g a = (1, n)) : am_ce adr cA g M a = .inl (cA 1, n, .inl (M.1 a)) := by
  unfold am_ce; rw [h]; rfl
theorem am_ce_2 {adr : Nat → Nat} {cA : Nat → ClassId} {g : am_G} {M : am_M} {a n : Nat} (h : gK g a = (2, n)) : am_ce adr cA g M a = .inl (cA 2, n, .inl (M.1 a)) := by
  unfold am_ce; rw [h]; rfl
theorem am_ce_3 {adr : Nat → Nat} {cA : Nat → ClassId} {g : am_G} {M : am_M} {a n : Nat} (h : gK g a = (3, n)) : am_ce adr cA g M a = .inl (cA 3, n, .inr (.inl (M.2 a))) := by
  unfold am_ce; rw [h]; rfl
theorem am_ce_arr {adr : Nat → Nat} {fv : Value} {B : Nat} {D : va_G} {cA : Nat → ClassId} {g : am_G} {M : am_M} {s : State} {H : Heap} {a : Nat} {k : Nat × Nat} (hG : am_Gk adr B g) (hKN : am_KN adr fv B D cA g s H) (hk : gK g a = k) (h1 : 1 ≤ k.1) (h2 : k.1 < 50) : ∃ (ca : ClassId) (xs : vp_A) (ty : FieldType), am_ce adr cA g M a = .inl (ca, xs) ∧ xs.1 = k.2 ∧ (ArrOfT s ca ty ∧ va_RA s ca ty) := by
  obtain ⟨t, n⟩ := k
  by_cases h4 : 4 ≤ t
  · obtain ⟨ty, hty, -⟩ := hG.2.2.2 a t n hk h4 h2
    exact ⟨_, _, ty, am_ce_q hk h4, rfl, hKN.2.1 t ty hty⟩
  · rcases (show t = 1 ∨ t = 2 ∨ t = 3 by dsimp only at h1; omega) with rfl | rfl | rfl
    · exact ⟨cA 1, (n, .inl (M.1 a)), .int, by unfold am_ce; rw [hk]; rfl, rfl, hKN.2.1 1 .int rfl⟩
    · exact ⟨cA 2, (n, .inl (M.1 a)), .boolean, by unfold am_ce; rw [hk]; rfl, rfl, hKN.2.1 2 .boolean rfl⟩
    · exact ⟨cA 3, (n, .inr (.inl (M.2 a))), .long, by unfold am_ce; rw [hk]; rfl, rfl, hKN.2.1 3 .long rfl⟩
theorem am_nar {ty : FieldType} {x : Int32} (h : vp_nar ty x = x) (hi : ∀ x : Int32, ∃ y : Int32, narrow ty (.int x) = .int y) : narrow ty (.int x) = .int x := by
  obtain ⟨y, hy⟩ := hi x
  unfold vp_nar at h
  rw [hy] at h ⊢
  dsimp only at h
  rw [h]
theorem am_mh : ∀ k : Nat, k < 19 → mO k ≠ "java/lang/invoke/MethodHandle" ∧ mO k ≠ "java/lang/invoke/VarHandle" := by decide +kernel
theorem am_words (l : List Value) : (l.map fun v => v.category).sum ≤ 2 * l.length := by
  induction l with
  | nil => simp
  | cons v t ih =>
    have : v.category ≤ 2 := by rcases lv_cat v with h | h <;> omega
    simp only [List.map_cons, List.sum_cons, List.length_cons]
    omega
theorem am_mws_in {z : Nat} (hz : z < 275) : ∀ w ∈ mws z, w ∈ lw_g := by
  intro w hw
  rcases List.mem_cons.mp hw with rfl | hw
  · exact (am_mk_in hz).2.1
  · exact hw
theorem am_back {f : Value → Value} (v : Option Value) (rest : List Value) : (v.toList ++ rest).map f = (v.map f).toList ++ rest.map f := by cases v <;> simp
section Step
variable {adr : Nat → Nat} {fv : Value} {B : Nat} {H0 : Heap} {D : va_G} {cA : Nat → ClassId} {g : am_G}
variable {p : Program} {l : Launch} {e : Env} {R : Room} {s : State} {m : MethodId} {args : Array Value} {below : List Frame} {meth : Method} {c : Code} {Q : State → Prop} {cells slots : Nat}
set_option maxHeartbeats 8000000 in
set_option maxRecDepth 20000 in
theorem am_step_ok (hx : p.tables.exec = Jvm.exec) {bs : ByteArray} (hb : c.code = bs) {nL : Nat} (hml : c.maxLocals = nL) {o : Nat} (hown : s.vm.findClass (mO o) = some m.cls) (hts : ∀ w ∈ lw_g, w.before args s = true) {ret : Option FieldType}
    (fv0 : fv = .null ∨ ∃ t, fv = .ref t) (hG : am_Gk adr B g) (hKN : am_KN adr fv B D cA g s s.heap) (hs2 : s.heap.size ≤ B + g.1) (hs4 : B ≤ s.heap.size) (hs3 : ∀ q : Nat, q < B → s.heap[q]? = H0[q]?)
    {rk rz : Nat} (hR : ∀ k : Nat, k < rk → k + 1 ≤ R.frames ∧ 40 + 40 * k ≤ R.locals) (hcs : cells ≤ R.cells ∧ slots ≤ R.slots)
    {Γ : Nat → List Value → am_M → Option am_R} {κ : Nat → am_L → List Value → am_M → Option am_R} {r : am_R}
    (hΓ : ∀ (z : Nat) (a : List Value) (M : am_M) (q : am_R), z < 275 → mK z < rk → am_wds a ≤ mL z → Γ z a M = some q → Met l (mN z) (mws z) (mrm (mK z)) (am_Pc adr fv B H0 D cA g a M) (am_Qc adr fv B H0 D cA g q) 0 0 (fun q : Nat => B ≤ q))
    (hκ : ∀ (pc' : Nat) (ls' : am_L) (st' : List Value) (M' : am_M), κ pc' ls' st' M' = some r → ∀ (H : Heap) (locs : List Loc) (lsA : Array Slot), am_H adr B H0 D cA g M' H → (∀ q ∈ locs, B ≤ q.base) → lv_has lsA nL (am_l adr fv ls') → W p l e R s m args below meth c H locs cells slots Q (F0 m pc' lsA (st'.map (am_v adr fv))))
    (hEnd : ∀ (pc : Nat) (st : List Value) (H : Heap) (locs : List Loc) (lsA : Array Slot), am_End bs ret pc st r.1 → am_H adr B H0 D cA g r.2 H → (∀ q ∈ locs, B ≤ q.base) → W p l e R s m args below meth c H locs cells slots Q (F0 m pc lsA (st.map (am_v adr fv))))
    {e0 : am_E} (hck : am_ck o bs rk nL rz ret e0 = true) {ls : am_L} {st : List Value} {M : am_M} (h : am_step Γ g rz e0 ls st M κ = some r)
    (H : Heap) (locs : List Loc) (lsA : Array Slot) (hH : am_H adr B H0 D cA g M H) (hL : ∀ q ∈ locs, B ≤ q.base) (hl : lv_has lsA nL (am_l adr fv ls)) :
    W p l e R s m args below meth c H locs cells slots Q (F0 m e0.1 lsA (st.map (am_v adr fv))) := by
  have hnot : ∀ {a : Nat}, (gK g a).1 ≠ 99 → am_v adr fv (.ref a) = .ref (adr a) := fun ha => if_neg (hG.2.1 _ ha)
  have hVS : va_S (fun q : Nat => B ≤ q) s.heap H locs := ⟨by rw [hH.1]; exact hs2, fun q _ hq => by rw [hH.2.1 q (Nat.lt_of_not_le hq), hs3 q (Nat.lt_of_not_le hq)], hL⟩
  have hVR : ∀ {a : Nat} {cell : Nat × va_E}, (gK g a).1 < 50 → adr a = B + a := fun ha => hG.1 _ ha
  obtain ⟨pc, ins, nx, x1, x2, hw, v, sw, ks⟩ := e0
  cases ins
  case iconst n =>
    obtain ⟨hn, hd, hX⟩ := ck_of (k := 1) hck rfl rfl
    replace hX : v = .int (Int32.ofInt n) := of_decide_eq_true hX
    dsimp only at hn; subst hn; subst hX
    exact lv_iconst hx hb hd rfl (hκ _ _ _ _ h H locs lsA hH hL hl)
  case bipush n =>
    obtain ⟨hn, hd, hX⟩ := ck_of (k := 2) hck rfl rfl
    replace hX : v = .int (Int8.ofInt n).toInt32 := of_decide_eq_true hX
    dsimp only at hn; subst hn; subst hX
    exact lv_bipush hx hb hd rfl (hκ _ _ _ _ h H locs lsA hH hL hl)
  case sipush n =>
    obtain ⟨hn, hd, hX⟩ := ck_of (k := 3) hck rfl rfl
    replace hX : v = .int (Int16.ofInt n).toInt32 := of_decide_eq_true hX
    dsimp only at hn; subst hn; subst hX
    exact lv_sipush hx hb hd rfl (hκ _ _ _ _ h H locs lsA hH hL hl)
  case lconst n =>
    obtain ⟨hn, hd, hX⟩ := ck_of (k := 1) hck rfl rfl
    replace hX : v = .long (Int64.ofNat (n : Nat)) := of_decide_eq_true hX
    dsimp only at hn; subst hn; subst hX
    exact lv_lconst hx hb hd rfl (hκ _ _ _ _ h H locs lsA hH hL hl)
  case ldc i =>
    obtain ⟨hn, hd, hX⟩ := ck_of (k := 2) hck rfl rfl
    dsimp only at hn; subst hn
    dsimp only [am_ckx] at hX
    split at hX
    · rename_i c0
      replace hX := of_decide_eq_true hX
      exact lv_ldc hx hb hown (hts _ (p_tc _ (List.mem_of_getElem? hX))) hd (hκ _ _ _ _ h H locs lsA hH hL hl)
    · rename_i a
      split at hX
      · rename_i q hq
        simp only [Bool.and_eq_true, decide_eq_true_eq] at hX
        obtain ⟨h1, h2, h3, h4⟩ := hX
        obtain ⟨o', i', tx⟩ := q
        dsimp only at h1 h2; subst h1; subst h2
        have hz := hKN.2.2.2.2.2.2.2.2 _ _ _ _ hq
        rw [h3] at hz
        have k := hκ _ _ _ _ h H locs lsA hH hL hl
        rw [List.map_cons, am_vn a h4] at k
        exact va_ldcS hx hb hown hz hd k
      · cases hX
    · cases hX
  case ldc_w i =>
    obtain ⟨hn, hd, hX⟩ := ck_of (k := 3) hck rfl rfl
    dsimp only at hn; subst hn
    dsimp only [am_ckx] at hX
    split at hX
    · rename_i c0
      replace hX := of_decide_eq_true hX
      exact lv_ldcw hx hb hown (hts _ (p_tc _ (List.mem_of_getElem? hX))) hd (hκ _ _ _ _ h H locs lsA hH hL hl)
    · cases hX
  case ldc2_w i =>
    obtain ⟨hn, hd, hX⟩ := ck_of (k := 3) hck rfl rfl
    dsimp only at hn; subst hn
    dsimp only [am_ckx] at hX
    split at hX
    · rename_i c0
      replace hX := of_decide_eq_true hX
      exact lv_ldc2 hx hb hown (hts _ (p_tj _ (List.mem_of_getElem? hX))) hd (hκ _ _ _ _ h H locs lsA hH hL hl)
    · cases hX
  case getstatic i =>
    obtain ⟨hn, hd, hX⟩ := ck_of (k := 3) hck rfl rfl
    dsimp only at hn; subst hn
    have k := hκ _ _ _ _ h H locs lsA hH hL hl
    dsimp only [am_ckx] at hX
    rw [Bool.or_eq_true, Bool.or_eq_true] at hX
    rcases hX with hX | hX | hX <;> obtain ⟨rfl, rfl, rfl⟩ := of_decide_eq_true hX
    · rw [List.map_cons, am_vn (adr := adr) (fv := fv) am_bid (by decide)] at k
      exact va_gets hx hb hKN.2.2.2.2.2.1 hVS hown (hts _ sp_broad) (fun _ hq => hq) hd k
    · exact va_gets hx hb hKN.2.2.2.2.2.2.1 hVS hown (hts _ sp_comp) (fun _ hq => hq) hd k
    · rw [List.map_cons, am_vf (adr := adr) (fv := fv) am_fid rfl] at k
      exact va_gets hx hb hKN.2.2.2.2.2.2.2.1 hVS hown (hts _ sp_form) (fun _ hq => hq) hd k
  case goto off =>
    obtain ⟨hn, hd, hX⟩ := ck_of (k := 3) hck rfl rfl
    replace hX := of_decide_eq_true hX
    exact lv_goto hx hb hd hX (hκ _ _ _ _ h H locs lsA hH hL hl)
  case iload_n i =>
    obtain ⟨hn, hd, hX⟩ := ck_of (k := 1) hck rfl rfl
    replace hX : (i : Nat) = x1 := of_decide_eq_true hX
    dsimp only at hn; subst hn
    obtain ⟨x, h1, h0⟩ := iv_vI h
    exact lv_iload_n hx hb hd hX (am_has_at hl h1) (hκ _ _ _ _ h0 H locs lsA hH hL hl)
  case iload i =>
    obtain ⟨hn, hd, hX⟩ := ck_of (k := 2) hck rfl rfl
    replace hX : i = x1 := of_decide_eq_true hX
    dsimp only at hn; subst hn; subst hX
    obtain ⟨x, h1, h0⟩ := iv_vI h
    exact lv_iload hx hb hd (am_has_at hl h1) (hκ _ _ _ _ h0 H locs lsA hH hL hl)
  case lload_n i =>
    obtain ⟨hn, hd, hX⟩ := ck_of (k := 1) hck rfl rfl
    replace hX : (i : Nat) = x1 := of_decide_eq_true hX
    dsimp only at hn; subst hn
    obtain ⟨x, h1, h0⟩ := iv_vJ h
    exact lv_lload_n hx hb hd hX (am_has_at hl h1) (hκ _ _ _ _ h0 H locs lsA hH hL hl)
  case lload i =>
    obtain ⟨hn, hd, hX⟩ := ck_of (k := 2) hck rfl rfl
    replace hX : i = x1 := of_decide_eq_true hX
    dsimp only at hn; subst hn; subst hX
    obtain ⟨x, h1, h0⟩ := iv_vJ h
    exact lv_lload hx hb hd (am_has_at hl h1) (hκ _ _ _ _ h0 H locs lsA hH hL hl)
  case aload_n i =>
    obtain ⟨hn, hd, hX⟩ := ck_of (k := 1) hck rfl rfl
    replace hX : (i : Nat) = x1 := of_decide_eq_true hX
    dsimp only at hn; subst hn
    obtain ⟨x, h1, h0⟩ := iv_vR h
    have k := hκ _ _ _ _ h0 H locs lsA hH hL hl
    have ha := am_has_at hl h1
    rw [List.map_cons] at k
    rcases am_vref (adr := adr) fv0 x with hv | ⟨t, hv⟩ <;> rw [hv] at k ha
    · exact lv_aload_nN hx hb hd hX ha k
    · exact lv_aload_n hx hb hd hX ha k
  case aload i =>
    obtain ⟨hn, hd, hX⟩ := ck_of (k := 2) hck rfl rfl
    replace hX : i = x1 := of_decide_eq_true hX
    dsimp only at hn; subst hn; subst hX
    obtain ⟨x, h1, h0⟩ := iv_vR h
    have k := hκ _ _ _ _ h0 H locs lsA hH hL hl
    have ha := am_has_at hl h1
    rw [List.map_cons] at k
    rcases am_vref (adr := adr) fv0 x with hv | ⟨t, hv⟩ <;> rw [hv] at k ha
    · exact lv_aloadN hx hb hd ha k
    · exact lv_aload hx hb hd ha k
  case istore_n i =>
    obtain ⟨hn, hd, hX⟩ := ck_of (k := 1) hck rfl rfl
    dsimp only [am_ckx] at hX
    simp only [Bool.and_eq_true, decide_eq_true_eq] at hX
    obtain ⟨hX, hX2⟩ := hX
    dsimp only at hn; subst hn
    obtain ⟨x, st', rfl, h0⟩ := iv_1i h
    obtain ⟨l', h1, h0⟩ := iv_so h0
    have hm := am_store1 (adr := adr) (v := .int x) fv0 h1
    exact lv_istore_n hx hb hd hX hl hX2 rfl (fun ls2 hl2 => hκ _ _ _ _ h0 H locs ls2 hH hL (am_has_more hl2 hm))
  case istore i =>
    obtain ⟨hn, hd, hX⟩ := ck_of (k := 2) hck rfl rfl
    dsimp only [am_ckx] at hX
    simp only [Bool.and_eq_true, decide_eq_true_eq] at hX
    obtain ⟨hX, hX2⟩ := hX
    dsimp only at hn; subst hn; subst hX
    obtain ⟨x, st', rfl, h0⟩ := iv_1i h
    obtain ⟨l', h1, h0⟩ := iv_so h0
    have hm := am_store1 (adr := adr) (v := .int x) fv0 h1
    exact lv_istore hx hb hd hl hX2 rfl (fun ls2 hl2 => hκ _ _ _ _ h0 H locs ls2 hH hL (am_has_more hl2 hm))
  case lstore_n i =>
    obtain ⟨hn, hd, hX⟩ := ck_of (k := 1) hck rfl rfl
    dsimp only [am_ckx] at hX
    simp only [Bool.and_eq_true, decide_eq_true_eq] at hX
    obtain ⟨hX, hX2⟩ := hX
    dsimp only at hn; subst hn
    obtain ⟨x, st', rfl, h0⟩ := iv_1l h
    obtain ⟨l', h1, h0⟩ := iv_so h0
    have hm := am_store2 (adr := adr) (v := .long x) fv0 h1
    exact lv_lstore_n hx hb hd hX hl hX2 rfl (fun ls2 hl2 => hκ _ _ _ _ h0 H locs ls2 hH hL (am_has_more hl2 hm))
  case lstore i =>
    obtain ⟨hn, hd, hX⟩ := ck_of (k := 2) hck rfl rfl
    dsimp only [am_ckx] at hX
    simp only [Bool.and_eq_true, decide_eq_true_eq] at hX
    obtain ⟨hX, hX2⟩ := hX
    dsimp only at hn; subst hn; subst hX
    obtain ⟨x, st', rfl, h0⟩ := iv_1l h
    obtain ⟨l', h1, h0⟩ := iv_so h0
    have hm := am_store2 (adr := adr) (v := .long x) fv0 h1
    exact lv_lstore hx hb hd hl hX2 rfl (fun ls2 hl2 => hκ _ _ _ _ h0 H locs ls2 hH hL (am_has_more hl2 hm))
  case astore_n i =>
    obtain ⟨hn, hd, hX⟩ := ck_of (k := 1) hck rfl rfl
    dsimp only [am_ckx] at hX
    simp only [Bool.and_eq_true, decide_eq_true_eq] at hX
    obtain ⟨hX, hX2⟩ := hX
    dsimp only at hn; subst hn
    obtain ⟨x, st', rfl, h0⟩ := iv_1r h
    obtain ⟨l', h1, h0⟩ := iv_so h0
    have hm := am_store1 (adr := adr) (v := .ref x) fv0 h1
    rw [List.map_cons]
    rcases am_vref (adr := adr) fv0 x with hv | ⟨t, hv⟩ <;> rw [hv] at hm ⊢
    · exact lv_astore_nN hx hb hd hX hl hX2 rfl (fun ls2 hl2 => hκ _ _ _ _ h0 H locs ls2 hH hL (am_has_more hl2 hm))
    · exact lv_astore_n hx hb hd hX hl hX2 rfl (fun ls2 hl2 => hκ _ _ _ _ h0 H locs ls2 hH hL (am_has_more hl2 hm))
  case astore i =>
    obtain ⟨hn, hd, hX⟩ := ck_of (k := 2) hck rfl rfl
    dsimp only [am_ckx] at hX
    simp only [Bool.and_eq_true, decide_eq_true_eq] at hX
    obtain ⟨hX, hX2⟩ := hX
    dsimp only at hn; subst hn; subst hX
    obtain ⟨x, st', rfl, h0⟩ := iv_1r h
    obtain ⟨l', h1, h0⟩ := iv_so h0
    have hm := am_store1 (adr := adr) (v := .ref x) fv0 h1
    rw [List.map_cons]
    rcases am_vref (adr := adr) fv0 x with hv | ⟨t, hv⟩ <;> rw [hv] at hm ⊢
    · exact lv_astoreN hx hb hd hl hX2 rfl (fun ls2 hl2 => hκ _ _ _ _ h0 H locs ls2 hH hL (am_has_more hl2 hm))
    · exact lv_astore hx hb hd hl hX2 rfl (fun ls2 hl2 => hκ _ _ _ _ h0 H locs ls2 hH hL (am_has_more hl2 hm))
  case iinc i n =>
    obtain ⟨hn, hd, hX⟩ := ck_of (k := 3) hck rfl rfl
    dsimp only [am_ckx] at hX
    simp only [Bool.and_eq_true, decide_eq_true_eq] at hX
    obtain ⟨hX, hX2, hX3⟩ := hX
    dsimp only at hn; subst hn; subst hX; subst hX3
    obtain ⟨x, h1, h0⟩ := iv_vI h
    obtain ⟨c0, h2, h0⟩ := iv_vI h0
    cases h2
    obtain ⟨l', h3, h0⟩ := iv_so h0
    obtain ⟨kk, hkk⟩ := List.getElem?_of_mem (List.mem_map.mpr ⟨(i, .int x), am_lk_mem h1, rfl⟩ : (i, Value.int x) ∈ am_l adr fv ls)
    exact lv_iinc hx hb hd hl hkk rfl hX2 rfl (fun ls2 hl2 => hκ _ _ _ _ h0 H locs ls2 hH hL (am_has_more hl2 (am_store1 (adr := adr) (v := .int (x + Int32.ofInt n)) fv0 h3)))
  case iadd =>
    obtain ⟨hn, hd, -⟩ := ck_of (k := 1) hck rfl rfl
    dsimp only at hn; subst hn
    obtain ⟨x, y, st', rfl, h0⟩ := iv_2i h
    exact lv_iadd hx hb hd (hκ _ _ _ _ h0 H locs lsA hH hL hl)
  case isub =>
    obtain ⟨hn, hd, -⟩ := ck_of (k := 1) hck rfl rfl
    dsimp only at hn; subst hn
    obtain ⟨x, y, st', rfl, h0⟩ := iv_2i h
    exact lv_isub hx hb hd (hκ _ _ _ _ h0 H locs lsA hH hL hl)
  case imul =>
    obtain ⟨hn, hd, -⟩ := ck_of (k := 1) hck rfl rfl
    dsimp only at hn; subst hn
    obtain ⟨x, y, st', rfl, h0⟩ := iv_2i h
    exact lv_imul hx hb hd (hκ _ _ _ _ h0 H locs lsA hH hL hl)
  case iand =>
    obtain ⟨hn, hd, -⟩ := ck_of (k := 1) hck rfl rfl
    dsimp only at hn; subst hn
    obtain ⟨x, y, st', rfl, h0⟩ := iv_2i h
    exact lv_iand hx hb hd (hκ _ _ _ _ h0 H locs lsA hH hL hl)
  case ior =>
    obtain ⟨hn, hd, -⟩ := ck_of (k := 1) hck rfl rfl
    dsimp only at hn; subst hn
    obtain ⟨x, y, st', rfl, h0⟩ := iv_2i h
    exact lv_ior hx hb hd (hκ _ _ _ _ h0 H locs lsA hH hL hl)
  case ixor =>
    obtain ⟨hn, hd, -⟩ := ck_of (k := 1) hck rfl rfl
    dsimp only at hn; subst hn
    obtain ⟨x, y, st', rfl, h0⟩ := iv_2i h
    exact lv_ixor hx hb hd (hκ _ _ _ _ h0 H locs lsA hH hL hl)
  case ishl =>
    obtain ⟨hn, hd, -⟩ := ck_of (k := 1) hck rfl rfl
    dsimp only at hn; subst hn
    obtain ⟨x, y, st', rfl, h0⟩ := iv_2i h
    exact lv_ishl hx hb hd (hκ _ _ _ _ h0 H locs lsA hH hL hl)
  case ishr =>
    obtain ⟨hn, hd, -⟩ := ck_of (k := 1) hck rfl rfl
    dsimp only at hn; subst hn
    obtain ⟨x, y, st', rfl, h0⟩ := iv_2i h
    exact lv_ishr hx hb hd (hκ _ _ _ _ h0 H locs lsA hH hL hl)
  case iushr =>
    obtain ⟨hn, hd, -⟩ := ck_of (k := 1) hck rfl rfl
    dsimp only at hn; subst hn
    obtain ⟨x, y, st', rfl, h0⟩ := iv_2i h
    exact lv_iushr hx hb hd rfl (hκ _ _ _ _ h0 H locs lsA hH hL hl)
  case idiv =>
    obtain ⟨hn, hd, -⟩ := ck_of (k := 1) hck rfl rfl
    dsimp only at hn; subst hn
    obtain ⟨x, y, st', rfl, h0⟩ := iv_2i h
    obtain ⟨h1, h0⟩ := iv_dv h0
    exact lv_idiv hx hb hd h1 (hκ _ _ _ _ h0 H locs lsA hH hL hl)
  case irem =>
    obtain ⟨hn, hd, -⟩ := ck_of (k := 1) hck rfl rfl
    dsimp only at hn; subst hn
    obtain ⟨x, y, st', rfl, h0⟩ := iv_2i h
    obtain ⟨h1, h0⟩ := iv_dv h0
    exact lv_irem hx hb hd h1 (hκ _ _ _ _ h0 H locs lsA hH hL hl)
  case ineg =>
    obtain ⟨hn, hd, -⟩ := ck_of (k := 1) hck rfl rfl
    dsimp only at hn; subst hn
    obtain ⟨x, st', rfl, h0⟩ := iv_1i h
    exact lv_ineg hx hb hd (hκ _ _ _ _ h0 H locs lsA hH hL hl)
  case ladd =>
    obtain ⟨hn, hd, -⟩ := ck_of (k := 1) hck rfl rfl
    dsimp only at hn; subst hn
    obtain ⟨x, y, st', rfl, h0⟩ := iv_2l h
    exact lv_ladd hx hb hd (hκ _ _ _ _ h0 H locs lsA hH hL hl)
  case lsub =>
    obtain ⟨hn, hd, -⟩ := ck_of (k := 1) hck rfl rfl
    dsimp only at hn; subst hn
    obtain ⟨x, y, st', rfl, h0⟩ := iv_2l h
    exact lv_lsub hx hb hd (hκ _ _ _ _ h0 H locs lsA hH hL hl)
  case lmul =>
    obtain ⟨hn, hd, -⟩ := ck_of (k := 1) hck rfl rfl
    dsimp only at hn; subst hn
    obtain ⟨x, y, st', rfl, h0⟩ := iv_2l h
    exact lv_lmul hx hb hd (hκ _ _ _ _ h0 H locs lsA hH hL hl)
  case ldiv =>
    obtain ⟨hn, hd, -⟩ := ck_of (k := 1) hck rfl rfl
    dsimp only at hn; subst hn
    obtain ⟨x, y, st', rfl, h0⟩ := iv_2l h
    obtain ⟨h1, h0⟩ := iv_dw h0
    exact lv_ldiv hx hb hd h1 (hκ _ _ _ _ h0 H locs lsA hH hL hl)
  case land =>
    obtain ⟨hn, hd, -⟩ := ck_of (k := 1) hck rfl rfl
    dsimp only at hn; subst hn
    obtain ⟨x, y, st', rfl, h0⟩ := iv_2l h
    exact lv_land hx hb hd (hκ _ _ _ _ h0 H locs lsA hH hL hl)
  case lor =>
    obtain ⟨hn, hd, -⟩ := ck_of (k := 1) hck rfl rfl
    dsimp only at hn; subst hn
    obtain ⟨x, y, st', rfl, h0⟩ := iv_2l h
    exact lv_lor hx hb hd (hκ _ _ _ _ h0 H locs lsA hH hL hl)
  case lcmp =>
    obtain ⟨hn, hd, -⟩ := ck_of (k := 1) hck rfl rfl
    dsimp only at hn; subst hn
    obtain ⟨x, y, st', rfl, h0⟩ := iv_2l h
    exact W.lcmp hx hb hd (hκ _ _ _ _ h0 H locs lsA hH hL hl)
  case lshl =>
    obtain ⟨hn, hd, -⟩ := ck_of (k := 1) hck rfl rfl
    dsimp only at hn; subst hn
    obtain ⟨x, y, st', rfl, h0⟩ := iv_il h
    exact lv_lshl hx hb hd rfl (hκ _ _ _ _ h0 H locs lsA hH hL hl)
  case lshr =>
    obtain ⟨hn, hd, -⟩ := ck_of (k := 1) hck rfl rfl
    dsimp only at hn; subst hn
    obtain ⟨x, y, st', rfl, h0⟩ := iv_il h
    exact lv_lshr hx hb hd rfl (hκ _ _ _ _ h0 H locs lsA hH hL hl)
  case lushr =>
    obtain ⟨hn, hd, -⟩ := ck_of (k := 1) hck rfl rfl
    dsimp only at hn; subst hn
    obtain ⟨x, y, st', rfl, h0⟩ := iv_il h
    exact lv_lushr hx hb hd rfl (hκ _ _ _ _ h0 H locs lsA hH hL hl)
  case i2l =>
    obtain ⟨hn, hd, -⟩ := ck_of (k := 1) hck rfl rfl
    dsimp only at hn; subst hn
    obtain ⟨x, st', rfl, h0⟩ := iv_1i h
    exact lv_i2l hx hb hd rfl (hκ _ _ _ _ h0 H locs lsA hH hL hl)
  case l2i =>
    obtain ⟨hn, hd, -⟩ := ck_of (k := 1) hck rfl rfl
    dsimp only at hn; subst hn
    obtain ⟨x, st', rfl, h0⟩ := iv_1l h
    exact lv_l2i hx hb hd rfl (hκ _ _ _ _ h0 H locs lsA hH hL hl)
  case i2b =>
    obtain ⟨hn, hd, -⟩ := ck_of (k := 1) hck rfl rfl
    dsimp only at hn; subst hn
    obtain ⟨x, st', rfl, h0⟩ := iv_1i h
    exact lv_i2b hx hb hd rfl (hκ _ _ _ _ h0 H locs lsA hH hL hl)
  case i2s =>
    obtain ⟨hn, hd, -⟩ := ck_of (k := 1) hck rfl rfl
    dsimp only at hn; subst hn
    obtain ⟨x, st', rfl, h0⟩ := iv_1i h
    exact lv_i2s hx hb hd rfl (hκ _ _ _ _ h0 H locs lsA hH hL hl)
  case i2c =>
    obtain ⟨hn, hd, -⟩ := ck_of (k := 1) hck rfl rfl
    dsimp only at hn; subst hn
    obtain ⟨x, st', rfl, h0⟩ := iv_1i h
    exact lv_i2c hx hb hd rfl (hκ _ _ _ _ h0 H locs lsA hH hL hl)
  case dup =>
    obtain ⟨hn, hd, -⟩ := ck_of (k := 1) hck rfl rfl
    dsimp only at hn; subst hn
    obtain ⟨x, st', rfl, h0⟩ := iv_1r h
    exact lv_dup hx hb hd (am_v_cat fv0 _) (hκ _ _ _ _ h0 H locs lsA hH hL hl)
  case dup2 =>
    obtain ⟨hn, hd, -⟩ := ck_of (k := 1) hck rfl rfl
    dsimp only at hn; subst hn
    obtain ⟨a, i, st', rfl, h0⟩ := iv_ri h
    exact lv_dup2_11 hx hb hd rfl (am_v_cat fv0 _) (hκ _ _ _ _ h0 H locs lsA hH hL hl)
  case pop =>
    obtain ⟨hn, hd, -⟩ := ck_of (k := 1) hck rfl rfl
    dsimp only at hn; subst hn
    obtain ⟨x, st', rfl, h0⟩ := iv_1i h
    exact lv_pop hx hb hd rfl (hκ _ _ _ _ h0 H locs lsA hH hL hl)
  case ifCond cd off =>
    obtain ⟨hn, hd, hX⟩ := ck_of (k := 3) hck rfl rfl
    replace hX := of_decide_eq_true hX
    dsimp only at hn; subst hn
    obtain ⟨x, st', rfl, h0⟩ := iv_1i h
    cases cd
    · exact lv_if_eq hx hb hd hX (fun q => hκ _ _ _ _ ((if_pos q).symm.trans h0) H locs lsA hH hL hl) (fun q => hκ _ _ _ _ ((if_neg q).symm.trans h0) H locs lsA hH hL hl)
    · exact lv_if_ne hx hb hd hX (fun q => hκ _ _ _ _ ((if_neg q).symm.trans h0) H locs lsA hH hL hl) (fun q => hκ _ _ _ _ ((if_pos q).symm.trans h0) H locs lsA hH hL hl)
    · exact lv_if_lt hx hb hd hX (fun q => hκ _ _ _ _ ((if_pos q).symm.trans h0) H locs lsA hH hL hl) (fun q => hκ _ _ _ _ ((if_neg q).symm.trans h0) H locs lsA hH hL hl)
    · exact lv_if_ge hx hb hd hX (fun q => hκ _ _ _ _ ((if_pos q).symm.trans h0) H locs lsA hH hL hl) (fun q => hκ _ _ _ _ ((if_neg q).symm.trans h0) H locs lsA hH hL hl)
    · exact lv_if_gt hx hb hd hX (fun q => hκ _ _ _ _ ((if_pos q).symm.trans h0) H locs lsA hH hL hl) (fun q => hκ _ _ _ _ ((if_neg q).symm.trans h0) H locs lsA hH hL hl)
    · exact lv_if_le hx hb hd hX (fun q => hκ _ _ _ _ ((if_pos q).symm.trans h0) H locs lsA hH hL hl) (fun q => hκ _ _ _ _ ((if_neg q).symm.trans h0) H locs lsA hH hL hl)
  case if_icmp cd off =>
    obtain ⟨hn, hd, hX⟩ := ck_of (k := 3) hck rfl rfl
    replace hX := of_decide_eq_true hX
    dsimp only at hn; subst hn
    obtain ⟨x, y, st', rfl, h0⟩ := iv_2i h
    cases cd
    · exact lv_icmp_eq hx hb hd hX (fun q => hκ _ _ _ _ ((if_pos q).symm.trans h0) H locs lsA hH hL hl) (fun q => hκ _ _ _ _ ((if_neg q).symm.trans h0) H locs lsA hH hL hl)
    · exact lv_icmp_ne hx hb hd hX (fun q => hκ _ _ _ _ ((if_neg q).symm.trans h0) H locs lsA hH hL hl) (fun q => hκ _ _ _ _ ((if_pos q).symm.trans h0) H locs lsA hH hL hl)
    · exact lv_icmp_lt hx hb hd hX (fun q => hκ _ _ _ _ ((if_pos q).symm.trans h0) H locs lsA hH hL hl) (fun q => hκ _ _ _ _ ((if_neg q).symm.trans h0) H locs lsA hH hL hl)
    · exact lv_icmp_ge hx hb hd hX (fun q => hκ _ _ _ _ ((if_pos q).symm.trans h0) H locs lsA hH hL hl) (fun q => hκ _ _ _ _ ((if_neg q).symm.trans h0) H locs lsA hH hL hl)
    · exact lv_icmp_gt hx hb hd hX (fun q => hκ _ _ _ _ ((if_pos q).symm.trans h0) H locs lsA hH hL hl) (fun q => hκ _ _ _ _ ((if_neg q).symm.trans h0) H locs lsA hH hL hl)
    · exact lv_icmp_le hx hb hd hX (fun q => hκ _ _ _ _ ((if_pos q).symm.trans h0) H locs lsA hH hL hl) (fun q => hκ _ _ _ _ ((if_neg q).symm.trans h0) H locs lsA hH hL hl)
  case tableswitch d0 lo hi offs =>
    obtain ⟨⟨len, hd⟩, hX⟩ := ck_dec hck
    dsimp only [am_ckx] at hX
    rw [Bool.and_eq_true, Bool.and_eq_true, Bool.and_eq_true, decide_eq_true_eq, decide_eq_true_eq, decide_eq_true_eq] at hX
    obtain ⟨hX1, hX2, hX3, hX4⟩ := hX
    obtain ⟨x, st', rfl, h0⟩ := iv_1i h
    have key : ∀ i : Nat, i < offs.size → ∃ (ct : Int32 × Nat) (off : Int), sw[i]? = some ct ∧ offs[i]? = some off ∧ ct.1.toInt = lo + (i : Int) ∧ (pc : Int) + off = (ct.2 : Int) := by
      intro i hi
      have := List.all_eq_true.mp hX4 i (List.mem_range.mpr hi)
      split at this
      · rename_i ct off e1 e2
        simp only [Bool.and_eq_true, decide_eq_true_eq] at this
        exact ⟨ct, off, e1, e2, this.1, this.2⟩
      · cases this
    rcases am_sw_at h0 with ⟨i, t, h1, h2⟩ | ⟨h1, h2⟩
    · have hi : i < offs.size := by rw [← hX2]; exact (List.getElem?_eq_some_iff.mp h1).1
      obtain ⟨ct, off, e1, e2, e3, e4⟩ := key i hi
      obtain rfl := Option.some.inj (h1.symm.trans e1)
      dsimp only at e3 e4
      exact lv_tableIn hx hb hd (by omega) (by omega) (by rw [show (x.toInt - lo).toNat = i by omega]; exact e2) e4 (hκ _ _ _ _ h2 H locs lsA hH hL hl)
    · refine lv_tableOut hx hb hd ?_ hX1 (hκ _ _ _ _ h1 H locs lsA hH hL hl)
      by_cases q : x.toInt < lo
      · exact Or.inl q
      · refine Or.inr (Int.not_le.mp fun q2 => ?_)
        obtain ⟨ct, off, e1, e2, e3, e4⟩ := key (x.toInt - lo).toNat (by omega)
        exact h2 ct (List.mem_of_getElem? e1) (Int32.toInt_inj.mp (by rw [e3]; omega))
  case lookupswitch d0 ps =>
    obtain ⟨⟨len, hd⟩, hX⟩ := ck_dec hck
    dsimp only [am_ckx] at hX
    rw [Bool.and_eq_true, Bool.and_eq_true, decide_eq_true_eq] at hX
    obtain ⟨hX1, hX2, hX3⟩ := hX
    obtain ⟨x, st', rfl, h0⟩ := iv_1i h
    obtain ⟨t, off, h1, h2, h3⟩ := am_lkc_ok hX1 hX3 h0
    exact lv_lookup hx hb hd hX2 h2 h3 (hκ _ _ _ _ h1 H locs lsA hH hL hl)
  case getfield i =>
    obtain ⟨hn, hd, hX⟩ := ck_of (k := 3) hck rfl rfl
    dsimp only at hn; subst hn
    obtain ⟨a, st', rfl, h0⟩ := iv_1r h
    dsimp only [am_ckx] at hX
    try dsimp only at h0
    split at h0
    · rename_i e2
      rw [e2] at hX
      simp only [Bool.and_eq_true, decide_eq_true_eq] at hX
      obtain ⟨hX1, ⟨hX2, hX3⟩, hX4⟩ := hX
      obtain ⟨h1, h0⟩ := iv_if h0
      have hat := hH.2.2 a (am_l5 h1 (by decide))
      unfold am_ce at hat; rw [h1] at hat
      rw [List.map_cons, hnot (am_n9 h1 (by decide))]
      refine am_get hx hb hX2 hts hown hKN.1 hat (x2 / 10) hX3 (hts _ (p_tf _ (List.mem_of_getElem? hX1))) ?_ hd (hκ _ _ _ _ h0 H locs lsA hH hL hl)
      rw [am_fs_at hX3]
      rcases hX4 with q | q <;> rw [q] <;> rfl
    · rename_i e2
      rw [e2] at hX
      simp only [Bool.and_eq_true, decide_eq_true_eq] at hX
      obtain ⟨hX1, ⟨hX2, hX3⟩, hX4⟩ := hX
      obtain ⟨h1, h0⟩ := iv_if h0
      have hat := hH.2.2 a (am_l5 h1 (by decide))
      unfold am_ce at hat; rw [h1] at hat
      rw [List.map_cons, hnot (am_n9 h1 (by decide))]
      refine am_get hx hb hX2 hts hown hKN.1 hat (x2 / 10) hX3 (hts _ (p_tf _ (List.mem_of_getElem? hX1))) ?_ hd (hκ _ _ _ _ h0 H locs lsA hH hL hl)
      rw [am_fs_at hX3, hX4]
      rfl
    · rename_i e2
      rw [e2] at hX
      simp only [Bool.and_eq_true, decide_eq_true_eq] at hX
      obtain ⟨hX1, ⟨hX2, hX3⟩, hX4⟩ := hX
      obtain ⟨h1, q, h2, h0⟩ := iv_ib h0
      have hat := hH.2.2 a (am_l5 h1 (by decide))
      unfold am_ce at hat; rw [h1] at hat
      have k := hκ _ _ _ _ h0 H locs lsA hH hL hl
      rw [List.map_cons, show am_v adr fv (.ref q) = .ref (adr q) from if_neg (hG.2.2.1 _ _ _ h2)] at k
      rw [List.map_cons, hnot (am_n9 h1 (by decide))]
      refine am_get hx hb hX2 hts hown hKN.1 hat (x2 / 10) hX3 (hts _ (p_tf _ (List.mem_of_getElem? hX1))) ?_ hd k
      rw [am_fs_at hX3, hX4, h2]
      rfl
    · rename_i e2
      rw [e2] at hX
      simp only [decide_eq_true_eq] at hX
      obtain ⟨rfl, rfl, rfl⟩ := hX
      obtain ⟨h1, h0⟩ := iv_if h0
      rw [List.map_cons, hnot (am_n9 h1 (by decide))]
      exact vk_getf hx hb (hKN.2.2.2.2.1 a h1).2.1 hVS hown (hts _ sp_cod) (fun _ hq => hq) hd (hκ _ _ _ _ h0 H locs lsA hH hL hl)
    · rename_i e2
      rw [e2] at hX
      simp only [decide_eq_true_eq] at hX
      obtain ⟨rfl, rfl, rfl⟩ := hX
      obtain ⟨h1, q, h2, h0⟩ := iv_ib h0
      have k := hκ _ _ _ _ h0 H locs lsA hH hL hl
      rw [List.map_cons, show am_v adr fv (.ref q) = .ref (adr q) from if_neg (hG.2.2.1 _ _ _ h2)] at k
      rw [List.map_cons, hnot (am_n9 h1 (by decide))]
      exact vk_getf hx hb ((hKN.2.2.2.2.1 a h1).2.2 q h2) hVS hown (hts _ sp_val) (fun _ hq => hq) hd k
    · cases h0
  case putfield i =>
    obtain ⟨hn, hd, hX⟩ := ck_of (k := 3) hck rfl rfl
    dsimp only at hn; subst hn
    dsimp only [am_ckx] at hX
    dsimp only [am_step] at h
    split at h
    · rename_i e2
      rw [e2] at hX
      simp only [Bool.and_eq_true, decide_eq_true_eq] at hX
      obtain ⟨hX1, ⟨hX2, hX3⟩, hX4, hX5⟩ := hX
      obtain ⟨a, x, st', rfl, h0⟩ := iv_ri h
      obtain ⟨h1, h0⟩ := iv_if h0
      have hlt : (gK g a).1 < 50 := am_l5 h1 (by decide)
      have hat := hH.2.2 a hlt
      unfold am_ce at hat; rw [h1] at hat
      rw [List.map_cons, List.map_cons, hnot (am_n9 h1 (by decide))]
      refine am_put hx hb hX2 hts hown hKN.1 hat (x2 / 10) hX3 (hts _ (p_tf _ (List.mem_of_getElem? hX1))) hX5 (v := .int x) (by rw [am_ft0 hX4]; rfl) (by rw [am_ft0 hX4]; rfl) (by rw [am_fs_len]; exact hX3) hd fun H' j z oq hat' => ?_
      refine hκ _ _ _ _ h0 H' _ lsA (hH.set hG hlt z oq ?_ (am_ce_wI a _ x)) (am_locs hL (by rw [hG.1 a hlt]; omega)) hl
      rw [am_ce_0 h1, am_fs_setI hX3 (Or.inl hX4)]
      exact hat'
    · rename_i e2
      rw [e2] at hX
      simp only [Bool.and_eq_true, decide_eq_true_eq] at hX
      obtain ⟨hX1, ⟨hX2, hX3⟩, hX4, hX5⟩ := hX
      obtain ⟨a, x, st', rfl, h0⟩ := iv_ri h
      obtain ⟨⟨h1, h9⟩, h0⟩ := iv_if h0
      have hlt : (gK g a).1 < 50 := am_l5 h1 (by decide)
      have hat := hH.2.2 a hlt
      unfold am_ce at hat; rw [h1] at hat
      rw [List.map_cons, List.map_cons, hnot (am_n9 h1 (by decide))]
      refine am_put hx hb hX2 hts hown hKN.1 hat (x2 / 10) hX3 (hts _ (p_tf _ (List.mem_of_getElem? hX1))) hX5 (v := .int x) (by rw [am_ft1 hX4]; rcases h9 with rfl | rfl <;> rfl) (by rw [am_ft1 hX4]; rcases h9 with rfl | rfl <;> rfl) (by rw [am_fs_len]; exact hX3) hd fun H' j z oq hat' => ?_
      refine hκ _ _ _ _ h0 H' _ lsA (hH.set hG hlt z oq ?_ (am_ce_wI a _ x)) (am_locs hL (by rw [hG.1 a hlt]; omega)) hl
      rw [am_ce_0 h1, am_fs_setI hX3 (Or.inr hX4)]
      exact hat'
    · rename_i e2
      rw [e2] at hX
      simp only [Bool.and_eq_true, decide_eq_true_eq] at hX
      obtain ⟨hX1, ⟨hX2, hX3⟩, hX4, hX5⟩ := hX
      obtain ⟨a, x, st', rfl, h0⟩ := iv_rj h
      obtain ⟨h1, h0⟩ := iv_if h0
      have hlt : (gK g a).1 < 50 := am_l5 h1 (by decide)
      have hat := hH.2.2 a hlt
      unfold am_ce at hat; rw [h1] at hat
      rw [List.map_cons, List.map_cons, hnot (am_n9 h1 (by decide))]
      refine am_put hx hb hX2 hts hown hKN.1 hat (x2 / 10) hX3 (hts _ (p_tf _ (List.mem_of_getElem? hX1))) hX5 (v := .long x) (by rw [am_ft2 hX4]; rfl) (by rw [am_ft2 hX4]; rfl) (by rw [am_fs_len]; exact hX3) hd fun H' j z oq hat' => ?_
      refine hκ _ _ _ _ h0 H' _ lsA (hH.set hG hlt z oq ?_ (am_ce_wJ a _ x)) (am_locs hL (by rw [hG.1 a hlt]; omega)) hl
      rw [am_ce_0 h1, am_fs_setJ hX3 hX4]
      exact hat'
    · cases h
  case iaload =>
    obtain ⟨hn, hd, -⟩ := ck_of (k := 1) hck rfl rfl
    dsimp only at hn; subst hn
    obtain ⟨a, i, st', rfl, h0⟩ := iv_ri h
    obtain ⟨n, h1, ⟨h2, h0⟩ | ⟨h2, h0⟩⟩ := iv_ia h0
    · have hat := hH.2.2 a (am_l5 h2 (by decide))
      unfold am_ce at hat; rw [h2] at hat
      have hA := (hKN.2.1 1 .int rfl).1
      rw [List.map_cons, List.map_cons, hnot (am_n9 h2 (by decide))]
      exact W.iald (v := .int (M.1 a i.toNatClampNeg)) hx hb hat (hA n (fun j => .int (M.1 a j))) (fun q => by cases q) (by show ¬ (i < 0 ∨ (arrV _ _ _).slots.size ≤ _); rw [arrV_size]; exact h1) (by show (arrV _ _ _).slots[_]? = _; rw [arrV_read _ _ (Nat.not_le.mp fun q => h1 (Or.inr q))]) rfl rfl hd (hκ _ _ _ _ h0 H locs lsA hH hL hl)
    · rw [List.map_cons, List.map_cons, hnot (am_n9 h2 (by decide))]
      exact va_ti hx hb (hKN.2.2.1 a n h2) hVS h1 rfl hd (hκ _ _ _ _ h0 H locs lsA hH hL hl)
  case baload =>
    obtain ⟨hn, hd, -⟩ := ck_of (k := 1) hck rfl rfl
    dsimp only at hn; subst hn
    obtain ⟨a, i, st', rfl, h0⟩ := iv_ri h
    obtain ⟨n, h1, ⟨h2, h0⟩ | ⟨h2, h0⟩⟩ := iv_za h0
    · have hat := hH.2.2 a (am_l5 h2 (by decide))
      unfold am_ce at hat; rw [h2] at hat
      have hA := (hKN.2.1 2 .boolean rfl).1
      rw [List.map_cons, List.map_cons, hnot (am_n9 h2 (by decide))]
      exact W.zald (v := .int (M.1 a i.toNatClampNeg)) hx hb hat (hA n (fun j => .int (M.1 a j))) (fun q => by cases q) (by show ¬ (i < 0 ∨ (arrV _ _ _).slots.size ≤ _); rw [arrV_size]; exact h1) (by show (arrV _ _ _).slots[_]? = _; rw [arrV_read _ _ (Nat.not_le.mp fun q => h1 (Or.inr q))]) rfl rfl hd (hκ _ _ _ _ h0 H locs lsA hH hL hl)
    · rw [List.map_cons, List.map_cons, hnot (am_n9 h2 (by decide))]
      exact va_tb hx hb (hKN.2.2.2.1 a n h2) hVS h1 rfl hd (hκ _ _ _ _ h0 H locs lsA hH hL hl)
  case laload =>
    obtain ⟨hn, hd, -⟩ := ck_of (k := 1) hck rfl rfl
    dsimp only at hn; subst hn
    obtain ⟨a, i, st', rfl, h0⟩ := iv_ri h
    obtain ⟨n, h1, h2, h0⟩ := iv_la h0
    have hat := hH.2.2 a (am_l5 h2 (by decide))
    unfold am_ce at hat; rw [h2] at hat
    have hA := (hKN.2.1 3 .long rfl).1
    rw [List.map_cons, List.map_cons, hnot (am_n9 h2 (by decide))]
    exact W.lald (v := .long (M.2 a i.toNatClampNeg)) hx hb hat (hA n (fun j => .long (M.2 a j))) (fun q => by cases q) (by show ¬ (i < 0 ∨ (arrV _ _ _).slots.size ≤ _); rw [arrV_size]; exact h1) (by show (arrV _ _ _).slots[_]? = _; rw [arrV_read _ _ (Nat.not_le.mp fun q => h1 (Or.inr q))]) rfl rfl hd (hκ _ _ _ _ h0 H locs lsA hH hL hl)
  case aaload =>
    obtain ⟨hn, hd, -⟩ := ck_of (k := 1) hck rfl rfl
    dsimp only at hn; subst hn
    obtain ⟨a, i, st', rfl, h0⟩ := iv_ri h
    obtain ⟨t, n, q, h4, h5, h1, h2, h3, h0⟩ := iv_qa h0
    obtain ⟨ty, hty, href⟩ := hG.2.2.2 a t n h2 h4 h5
    have hat := hH.2.2 a (am_l5 h2 h5)
    rw [am_ce_q h2 h4] at hat
    have hA := (hKN.2.1 t ty hty).1
    have k := hκ _ _ _ _ h0 H locs lsA hH hL hl
    rw [List.map_cons, show am_v adr fv (.ref q) = .ref (adr q) from if_neg (hG.2.2.1 _ _ _ h3)] at k
    rw [List.map_cons, List.map_cons, hnot (am_n9 h2 (by omega))]
    exact W.aald (v := .ref (adr q)) (ty := ty) hx hb hat (hA n (fun j => va_rf ((gR g a j).map adr))) href (fun q => by cases q) (by show ¬ (i < 0 ∨ (arrV _ _ _).slots.size ≤ _); rw [arrV_size]; exact h1) (by show (arrV _ _ _).slots[_]? = _; rw [arrV_read _ _ (Nat.not_le.mp fun q => h1 (Or.inr q))]; show some (va_rf ((gR g a i.toNatClampNeg).map adr)) = _; rw [h3]; rfl) rfl rfl hd k
  case iastore =>
    obtain ⟨hn, hd, -⟩ := ck_of (k := 1) hck rfl rfl
    dsimp only at hn; subst hn
    obtain ⟨a, i, x, st', rfl, h0⟩ := iv_rii h
    obtain ⟨n, h1, h2, h0⟩ := iv_is h0
    have hlt : (gK g a).1 < 50 := am_l5 h2 (by decide)
    have hat := hH.2.2 a hlt
    unfold am_ce at hat; rw [h2] at hat
    rw [List.map_cons, List.map_cons, List.map_cons, hnot (am_n9 h2 (by decide))]
    refine am_iast hx hb (hKN.2.1 1 .int rfl).1 hat h1 hd fun H' z oq hat' => ?_
    refine hκ _ _ _ _ h0 H' _ lsA (hH.set hG hlt z oq ?_ (am_ce_wI a _ x)) (am_locs hL (by rw [hG.1 a hlt]; omega)) hl
    rw [am_ce_1 h2, am_wI1]
    exact hat'
  case bastore =>
    obtain ⟨hn, hd, -⟩ := ck_of (k := 1) hck rfl rfl
    dsimp only at hn; subst hn
    obtain ⟨a, i, x, st', rfl, h0⟩ := iv_rii h
    obtain ⟨n, h1, h2, h0⟩ := iv_zs h0
    have hlt : (gK g a).1 < 50 := am_l5 h2 (by decide)
    have hat := hH.2.2 a hlt
    unfold am_ce at hat; rw [h2] at hat
    rw [List.map_cons, List.map_cons, List.map_cons, hnot (am_n9 h2 (by decide))]
    refine am_zast hx hb (hKN.2.1 2 .boolean rfl).1 hat h1 hd fun H' z oq hat' => ?_
    refine hκ _ _ _ _ h0 H' _ lsA (hH.set hG hlt z oq ?_ (am_ce_wI a _ _)) (am_locs hL (by rw [hG.1 a hlt]; omega)) hl
    rw [am_ce_2 h2, am_wI1]
    exact hat'
  case lastore =>
    obtain ⟨hn, hd, -⟩ := ck_of (k := 1) hck rfl rfl
    dsimp only at hn; subst hn
    obtain ⟨a, i, x, st', rfl, h0⟩ := iv_rij h
    obtain ⟨n, h1, h2, h0⟩ := iv_ls h0
    have hlt : (gK g a).1 < 50 := am_l5 h2 (by decide)
    have hat := hH.2.2 a hlt
    unfold am_ce at hat; rw [h2] at hat
    rw [List.map_cons, List.map_cons, List.map_cons, hnot (am_n9 h2 (by decide))]
    refine am_last hx hb (hKN.2.1 3 .long rfl).1 hat h1 hd fun H' z oq hat' => ?_
    refine hκ _ _ _ _ h0 H' _ lsA (hH.set hG hlt z oq ?_ (am_ce_wJ a _ x)) (am_locs hL (by rw [hG.1 a hlt]; omega)) hl
    rw [am_ce_3 h2, am_wJ1]
    exact hat'
  case arraylength =>
    obtain ⟨hn, hd, -⟩ := ck_of (k := 1) hck rfl rfl
    dsimp only at hn; subst hn
    obtain ⟨a, st', rfl, h0⟩ := iv_1r h
    obtain ⟨h1, h0⟩ := iv_if h0
    have k := hκ _ _ _ _ h0 H locs lsA hH hL hl
    rcases h1 with ⟨h1, h2⟩ | h1 | h1
    · rw [List.map_cons, hnot (by omega)]
      obtain ⟨ca, xs, ty, hce, hlen, hA⟩ := am_ce_arr (adr := adr) (M := M) hG hKN rfl h1 h2
      have hat := hH.2.2 a h2
      rw [hce] at hat
      refine va_alen (D := D) (cl := am_cls) (tys := [(ca, ty)]) (ws := [(adr a, .inl (ca, xs))]) hx hb ⟨hKN.1, fun k q h => ?_⟩ (fun k q h => ?_) 0 0 rfl rfl (by rw [hlen]) hd k
      · have hz : k < 1 := (List.getElem?_eq_some_iff.mp h).1
        rw [show k = 0 by omega] at h; cases h; exact hA
      · have hz : k < 1 := (List.getElem?_eq_some_iff.mp h).1
        rw [show k = 0 by omega] at h; cases h; exact hat
    · rw [List.map_cons, hnot (by rw [h1]; decide)]
      exact va_tlen hx hb (hKN.2.2.1 a _ (Prod.ext h1 rfl)) hVS rfl hd k
    · rw [List.map_cons, hnot (by rw [h1]; decide)]
      exact va_tlen hx hb (hKN.2.2.2.1 a _ (Prod.ext h1 rfl)) hVS rfl hd k
  case ireturn =>
    obtain ⟨hn, hd, hX⟩ := ck_of (k := 1) hck rfl rfl
    dsimp only [am_ckx] at hX
    simp only [Bool.or_eq_true, decide_eq_true_eq] at hX
    dsimp only [am_step] at h
    split at h
    · rename_i x
      have hrr : ∃ ty, r.1 = some (.int x) ∧ r.2 = M ∧ ret = some ty ∧ narrow ty (.int x) = .int x := by
        rcases hX with ⟨rfl, rfl⟩ | ⟨rfl, rfl⟩ | ⟨rfl, rfl⟩ | ⟨rfl, rfl⟩
        · cases h; exact ⟨_, rfl, rfl, rfl, rfl⟩
        · obtain ⟨h1, h⟩ := iv_if h; cases h
          exact ⟨_, rfl, rfl, rfl, by rcases h1 with rfl | rfl <;> rfl⟩
        · obtain ⟨h1, h⟩ := iv_if h; cases h
          exact ⟨_, rfl, rfl, rfl, am_nar h1 (by intro x; exact ⟨_, rfl⟩)⟩
        · obtain ⟨h1, h⟩ := iv_if h; cases h
          exact ⟨_, rfl, rfl, rfl, am_nar h1 (by intro x; exact ⟨_, rfl⟩)⟩
      obtain ⟨ty, e1, e2, e3, e4⟩ := hrr
      exact hEnd _ _ H locs lsA (Or.inl ⟨hd, x, ty, e1, rfl, e3, e4⟩) (by rw [e2]; exact hH) hL
    · cases h
  case lreturn =>
    obtain ⟨hn, hd, hX⟩ := ck_of (k := 1) hck rfl rfl
    replace hX : ret = some .long := of_decide_eq_true hX
    dsimp only [am_step] at h
    split at h
    · cases h
      exact hEnd _ _ H locs lsA (Or.inr (Or.inl ⟨hd, _, rfl, rfl, hX⟩)) hH hL
    · cases h
  case areturn =>
    obtain ⟨hn, hd, hX⟩ := ck_of (k := 1) hck rfl rfl
    dsimp only [am_ckx] at hX
    dsimp only [am_step] at h
    split at h
    · cases h
      refine hEnd _ _ H locs lsA (Or.inr (Or.inr (Or.inl ⟨hd, _, rfl, rfl, ?_⟩))) hH hL
      split at hX
      · exact ⟨_, rfl, Or.inl ⟨_, rfl⟩⟩
      · exact ⟨_, rfl, Or.inr ⟨_, rfl⟩⟩
      · cases hX
    · cases h
  case return_ =>
    obtain ⟨hn, hd, hX⟩ := ck_of (k := 1) hck rfl rfl
    replace hX : ret = none := of_decide_eq_true hX
    dsimp only [am_step] at h
    split at h
    · cases h
      exact hEnd _ _ H locs lsA (Or.inr (Or.inr (Or.inr ⟨hd, rfl, rfl, hX⟩))) hH hL
    · cases h
  case invokestatic i =>
    obtain ⟨hn, hd, hX⟩ := ck_of (k := 3) hck rfl rfl
    dsimp only at hn; subst hn
    dsimp only [am_ckx] at hX
    rw [Bool.or_eq_true, Bool.or_eq_true, Bool.and_eq_true] at hX
    dsimp only [am_step] at h
    split at h
    · rcases hX with hX | hX | ⟨hX, -⟩
      · exact absurd (of_decide_eq_true hX) (by decide)
      · obtain ⟨-, rfl, rfl, hrk⟩ := of_decide_eq_true hX
        split at h
        · rename_i n j b i a
          obtain ⟨⟨c1, c2, c3, c4, c5, c6, c7⟩, h0⟩ := iv_if h
          have ka : gK g a = (1, (gK g a).2) := Prod.ext c1 rfl
          have kb : gK g b = (1, (gK g b).2) := Prod.ext c2 rfl
          have hla : (gK g a).1 < 50 := by rw [c1]; decide
          have hlb : (gK g b).1 < 50 := by rw [c2]; decide
          have hata := hH.2.2 a hla
          have hatb := hH.2.2 b hlb
          rw [am_ce_1 ka] at hata
          rw [am_ce_1 kb] at hatb
          have hra := hR 0 hrk
          have ea := hnot (a := a) (by rw [c1]; decide)
          have eb := hnot (a := b) (by rw [c2]; decide)
          simp only [List.map_cons, List.map_nil, ea, eb]
          refine am_copy hx hb (hml.trans hl.1.symm) hown (hts _ sp_cp) (hts _ sp_nat) (hts _ sp_sta) (hts _ sp_sys) (hKN.2.1 1 .int rfl).1 hata hatb c3 c4 c5 c6 c7 hra.1 (Nat.le_trans (Nat.le_of_ble_eq_true rfl) hra.2) hd fun H' L hLb z oq hat' => ?_
          refine hκ _ _ _ _ h0 H' _ lsA (hH.set hG hlb z oq ?_ (am_ce_wA b _)) (fun q hq => ?_) hl
          · rw [am_ce_1 kb, am_wA1]
            exact hat'
          · rcases List.mem_append.mp hq with hq | hq
            · exact hL q hq
            · rw [hLb q hq, hG.1 b hlb]; omega
        · cases h
      · exact absurd rfl (of_decide_eq_true hX).1
    · rename_i e2
      split at h
      · rename_i q e3
        rcases hX with hX | hX | ⟨hX1, hX2⟩
        · replace hX := of_decide_eq_true hX
          subst hX
          obtain ⟨-, -, h, -⟩ := iv_fe h
          exact absurd h (by intro q; cases q)
        · exact absurd (of_decide_eq_true hX).1 e2
        · obtain ⟨-, hk⟩ := of_decide_eq_true hX1
          obtain ⟨hz, hrk, hnp, hst, hmL, hmW, rfl⟩ := of_decide_eq_true hX2
          obtain ⟨A, rest⟩ := q
          obtain ⟨hf1, hwd, h, -⟩ := iv_fe h
          replace hf1 : rest.length ≤ 4 := hf1
          obtain ⟨v', M', h1, h, -⟩ := iv_kr h
          obtain ⟨t, ht1, ht2, ht3⟩ := am_pop_iv e3
          have hM := hΓ x1 A M (v', M') hz hrk hwd h1
          obtain ⟨hc1, hc2, hc3, -⟩ := am_mk_in hz
          have hin := am_mws_in hz
          have hra := hR _ hrk
          have hHs : ∀ q : Nat, q < B → H[q]? = s.heap[q]? := fun q hq => by rw [hH.2.1 q hq, hs3 q hq]
          have hlen : A.length = mP x1 := by rw [ht3, ← hnp, ← ht1]; simp
          have hstk : st.map (am_v adr fv) = (A.map (am_v adr fv)).reverse ++ rest.map (am_v adr fv) := by rw [ht2, ht3]; simp
          have cb : CallB R s args (mO o) i (mN x1) (mB x1) (mL x1) (mR x1) (mws x1) (mrm (mK x1)) 0 0 (mP x1) :=
            ⟨rfl, rfl, hra.1, by show 8 + (mL x1 + 11) + 40 * mK x1 ≤ R.locals; omega, fun w hw a' U hW => word_at hW (am_good w (hin w hw)) (hts w (hin w hw)), List.mem_cons_self, hts _ hc2, by rw [hc1]; exact hts _ (am_ini _ hmW), by rw [hc1]; exact am_mh _ hmW, am_par hz, hts _ (p_tk _ (List.mem_of_getElem? hk))⟩
          refine am_call (rest := rest.map (am_v adr fv)) (W.runS (As := A.map (am_v adr fv)) (Pc := am_Pc adr fv B H0 D cA g A M) ⟨hx, hb, hml, hown, hts⟩ hM ⟨cb, hts _ (hc3 hst)⟩ ⟨fun a U gg mk q => ⟨q.1, q.2.1, q.2.2.same rfl⟩, fun U hU hW => ⟨rfl, by rw [hU]; exact hH, by rw [hU]; exact (hKN.heap hHs).warm hW⟩⟩ rfl (by rw [List.length_map]; exact hlen) hl.1 hstk (lv_room (by have := am_words (rest.map (am_v adr fv)); rw [List.length_map] at this; omega)) hd ⟨hcs.1, hcs.2⟩) fun v st0 t' L _ hq hL' => ?_
          obtain ⟨hv, hH'⟩ := hq
          cases hv
          have k := hκ _ _ _ _ h t'.heap (locs ++ L) lsA hH' (fun q hq => by
            rcases List.mem_append.mp hq with hq | hq
            · exact hL q hq
            · exact hL' q hq) hl
          rw [am_back] at k
          exact k
      · cases h
  case invokevirtual i =>
    obtain ⟨hn, hd, hX⟩ := ck_of (k := 3) hck rfl rfl
    dsimp only at hn; subst hn
    dsimp only [am_ckx] at hX
    rw [Bool.or_eq_true, Bool.and_eq_true] at hX
    dsimp only [am_step] at h
    split at h
    · rename_i a As rest e3
      split at h
      · rename_i c0
        obtain ⟨hf1, hwd, h3, -⟩ := iv_fe h
        obtain ⟨hrc, h4⟩ := iv_if h3
        rcases hX with hX | ⟨hX1, hX2⟩
        · replace hX := of_decide_eq_true hX
          subst hX
          exact absurd h4 (by intro q; cases q)
        · have hk := of_decide_eq_true hX1
          obtain ⟨hz, hrk, hnp, hst, hmL, hmW, hcw, rfl⟩ := of_decide_eq_true hX2
          have hcw : c0 = mW x1 := by cases hcw; rfl
          subst hcw
          obtain ⟨v', M', h1, h5, -⟩ := iv_kr h4
          obtain ⟨t, ht1, ht2, ht3⟩ := am_pop_iv e3
          rw [List.append_nil] at ht3
          have hM := hΓ x1 (.ref a :: As) M (v', M') hz hrk hwd h1
          obtain ⟨hc1, hc2, -, hc4⟩ := am_mk_in hz
          have hin := am_mws_in hz
          have hra := hR _ hrk
          have hHs : ∀ q : Nat, q < B → H[q]? = s.heap[q]? := fun q hq => by rw [hH.2.1 q hq, hs3 q hq]
          have hlen : As.length = mP x1 := by
            have : (Value.ref a :: As).length = mP x1 + 1 := by rw [ht3, ← hnp, ← ht1]; simp
            simpa using this
          have hn9 : (gK g a).1 ≠ 99 := by rcases hrc with q | ⟨-, q⟩ <;> exact am_n9 q (by decide)
          have hva := hnot hn9
          have hstk : st.map (am_v adr fv) = (As.map (am_v adr fv)).reverse ++ .ref (adr a) :: rest.map (am_v adr fv) := by
            have e : t = As.reverse ++ [.ref a] := by rw [← List.reverse_reverse t, ← ht3]; simp
            rw [ht2, e, ← hva]; simp
          have hrecv : ∃ cellB : Cell, H[adr a]? = some cellB ∧ cellB.vm.isStatics = false ∧ s.vm.findClass (mO (mW x1)) = some cellB.cls := by
            rcases hrc with hq | ⟨hq1, hq2⟩
            · by_cases h13 : mW x1 < 13
              · have hat := hH.2.2 a (am_l5 hq (by decide))
                rw [am_ce_0 hq] at hat
                exact va_recv (D := D) (cl := am_cls) (tys := []) (ws := [(adr a, .inr (mW x1, am_fs adr g M a (mW x1)))]) (q0 := 0) ⟨hKN.1, fun k q h => by simp at h⟩ (fun k q h => by
                  have hz : k < 1 := (List.getElem?_eq_some_iff.mp h).1
                  rw [show k = 0 by omega] at h; cases h; exact hat) (am_cls_at h13) rfl
              · have h13' : mW x1 = 13 := by omega
                have hat := hH.2.2 a (am_l5 hq (by decide))
                rw [am_ce_0 hq] at hat
                obtain ⟨r', hr', -⟩ := hat
                dsimp only at hr'
                rw [h13'] at hr'
                cases hr'
            · rw [hq1]
              obtain ⟨cell, g1, g2, g3, -⟩ := ((hKN.heap hHs).2.2.2.2.1 a hq2).1
              exact ⟨cell, g1, g2, g3⟩
          have cb : CallB R s args (mO o) i (mN x1) (mB x1) (mL x1) (mR x1) (mws x1) (mrm (mK x1)) 0 0 (mP x1) :=
            ⟨rfl, rfl, hra.1, by show 8 + (mL x1 + 11) + 40 * mK x1 ≤ R.locals; omega, fun w hw a' U hW => word_at hW (am_good w (hin w hw)) (hts w (hin w hw)), List.mem_cons_self, hts _ hc2, by rw [hc1]; exact hts _ (am_ini _ (by omega)), by rw [hc1]; exact am_mh _ (by omega), am_par hz, hts _ (p_tk _ (List.mem_of_getElem? hk))⟩
          refine am_call (rest := rest.map (am_v adr fv)) (W.runV (C := mO (mW x1)) (b := adr a) (As := As.map (am_v adr fv)) (Pc := am_Pc adr fv B H0 D cA g (.ref a :: As) M) ⟨hx, hb, hml, hown, hts⟩ hM ⟨cb, hts _ (hc4 hst).1, by rw [← hc1]; exact hts _ (hc4 hst).2⟩ ⟨fun a U gg mk q => ⟨q.1, q.2.1, q.2.2.same rfl⟩, hrecv, fun U hU hW => ⟨by rw [List.map_cons, hva], by rw [hU]; exact hH, by rw [hU]; exact (hKN.heap hHs).warm hW⟩⟩ rfl (by rw [List.length_map]; exact hlen) hl.1 hstk (lv_room (by have := am_words (rest.map (am_v adr fv)); rw [List.length_map] at this; omega)) hd ⟨hcs.1, hcs.2⟩) fun v st0 t' L _ hq hL' => ?_
          obtain ⟨hv, hH'⟩ := hq
          cases hv
          have k := hκ _ _ _ _ h5 t'.heap (locs ++ L) lsA hH' (fun q hq => by
            rcases List.mem_append.mp hq with hq | hq
            · exact hL q hq
            · exact hL' q hq) hl
          rw [am_back] at k
          exact k
      · cases h
    · cases h
  all_goals exact absurd h (by intro q; cases q)
end Step
