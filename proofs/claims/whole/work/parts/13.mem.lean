/-! reads and writes over the machine, with the heap's size and all other cells as they were -/
theorem am_in_lay {c : Nat} (hc : c < 13) : ∀ w ∈ u_ws (mO c) (am_fT c) (am_nf c), w ∈ lw_g := by
  intro w hw
  obtain ⟨k, hk, rfl⟩ := List.mem_map.mp hw
  have hk := List.mem_range.mp hk
  have key : ∀ c : Nat, c < 13 → ∀ k : Nat, k < am_nf c → (c, k) ∈ tl := by decide +kernel
  exact p_tl (c, k) (key c hc k hk)
theorem am_cls_at {c : Nat} (hc : c < 13) : am_cls[c]? = some (mO c, am_fT c, am_nf c) := by
  rcases (show c = 0 ∨ c = 1 ∨ c = 2 ∨ c = 3 ∨ c = 4 ∨ c = 5 ∨ c = 6 ∨ c = 7 ∨ c = 8 ∨ c = 9 ∨ c = 10 ∨ c = 11 ∨ c = 12 by omega) with rfl | rfl | rfl | rfl | rfl | rfl | rfl | rfl | rfl | rfl | rfl | rfl | rfl <;> rfl
theorem am_own {c : Nat} (hc : c < 13) {k : Nat} (hk : k < am_nf c) : (am_fT c k).1 = mO c := by
  have key : ∀ c : Nat, c < 13 → ∀ k : Nat, k < am_nf c → (c, k) ∈ tl := by decide +kernel
  exact p_to (c, k) (by have := key c hc k hk; exact this)
theorem am_nm {c : Nat} (hc : c < 13) : ∀ a, a < am_nf c → ∀ b, b < am_nf c → a ≠ b → (am_fT c a).2.1 ≠ (am_fT c b).2.1 := by
  rcases (show c = 0 ∨ c = 1 ∨ c = 2 ∨ c = 3 ∨ c = 4 ∨ c = 5 ∨ c = 6 ∨ c = 7 ∨ c = 8 ∨ c = 9 ∨ c = 10 ∨ c = 11 ∨ c = 12 by omega) with rfl | rfl | rfl | rfl | rfl | rfl | rfl | rfl | rfl | rfl | rfl | rfl | rfl
  · exact nm_0
  · exact nm_1
  · exact nm_2
  · exact nm_3
  · exact nm_4
  · exact nm_5
  · exact nm_6
  · exact nm_7
  · exact nm_8
  · exact nm_9
  · exact nm_10
  · exact nm_11
  · exact nm_12
theorem am_tyk {c : Nat} (hc : c < 13) : ∀ k, k < am_nf c → parseFieldDescriptor (am_fT c k).2.2.1 = some (am_fY c k) := by
  rcases (show c = 0 ∨ c = 1 ∨ c = 2 ∨ c = 3 ∨ c = 4 ∨ c = 5 ∨ c = 6 ∨ c = 7 ∨ c = 8 ∨ c = 9 ∨ c = 10 ∨ c = 11 ∨ c = 12 by omega) with rfl | rfl | rfl | rfl | rfl | rfl | rfl | rfl | rfl | rfl | rfl | rfl | rfl
  · exact ty_0
  · exact ty_1
  · exact ty_2
  · exact ty_3
  · exact ty_4
  · exact ty_5
  · exact ty_6
  · exact ty_7
  · exact ty_8
  · exact ty_9
  · exact ty_10
  · exact ty_11
  · exact ty_12
theorem am_ft0 {c k : Nat} (h : am_ft c k = 0) : am_fY c k = .int := by unfold am_ft at h; split at h <;> first | assumption | cases h
theorem am_ft1 {c k : Nat} (h : am_ft c k = 1) : am_fY c k = .boolean := by unfold am_ft at h; split at h <;> first | assumption | cases h
theorem am_ft2 {c k : Nat} (h : am_ft c k = 2) : am_fY c k = .long := by unfold am_ft at h; split at h <;> first | assumption | cases h
section Mem
variable {p : Program} {l : Launch} {e : Env} {R : Room} {s : State} {m : MethodId} {args : Array Value} {below : List Frame} {meth : Method} {c : Code} {H : Heap} {locs : List Loc} {cells slots : Nat} {Q : State → Prop}
variable {cc : ByteArray} {pc : Nat} {ls : Array Slot} {rest : List Value} {D : va_G}
theorem am_put (hexec : p.tables.exec = Jvm.exec) (hb : c.code = cc) {own : String} {ci index : Nat} (hci : ci < 13) (hts : ∀ w ∈ lw_g, w.before args s = true) (hown : s.vm.findClass own = some m.cls) (hK : ∀ (c : Nat) (q : vw_C), am_cls[c]? = some q → u_Kn s q.1 q.2.1 q.2.2 (D.1 c) (D.2 c)) {a : Nat} {fs : List Value} (hat : va_at D am_cls (a, .inr (ci, fs)) H) (k : Nat) (hk : k < am_nf ci) (hlink : (Cond.fieldLink own index (mO ci) (am_fT ci k).2.1 (am_fT ci k).2.2.1).before args s = true) (hfin : (am_fT ci k).2.2.2 = false) {v : Value} (hn : narrow (am_fY ci k) v = v) (hfit : fits (am_fY ci k) v = true) (hl : k < fs.length)
    (hdg : decode cc pc = .ok (.putfield index, 3)) (kk : ∀ (H' : Heap) (i : Nat), H'.size = H.size → (∀ q : Nat, q ≠ a → H'[q]? = H[q]?) → va_at D am_cls (a, .inr (ci, fs.set k v)) H' → W p l e R s m args below meth c H' (locs ++ [⟨a, i⟩]) cells slots Q (F0 m (pc + 3) ls rest)) : W p l e R s m args below meth c H locs cells slots Q (F0 m pc ls (v :: .ref a :: rest)) := by
  have hc := am_cls_at hci
  have hKv : va_K D am_cls [] s := ⟨hK, fun k q h => by simp at h⟩
  have hap := va_apart (own := own) hts (am_in_lay hci) (am_fY ci) (am_tyk hci) (am_nm hci) hKv hc
  obtain ⟨r, h1, cell, q1, q2, q3, q4⟩ := hat
  have hr : r = (mO ci, am_fT ci, am_nf ci) := Option.some.inj (h1.symm.trans hc)
  subst hr
  obtain ⟨hS, hfc, kC, hkC, hkind⟩ := hK ci _ hc
  obtain ⟨cf, kf, fi, f, hi, hsl⟩ := hS k hk
  have hlay := hts _ (am_in_lay hci _ (u_in_lay hk))
  unfold u_lay at hlay
  rw [if_neg (by rw [hfin]; decide)] at hlay
  have hst := (u_facts hfc hkC (u_lays hts (am_in_lay hci) hk) hi).1
  have h6 := u_store hfc hkC hkind hlay hi (am_tyk hci k hk) hn hfit
  refine W.putK hexec hb (f := f) ⟨hown, hlink, ⟨_, _, _, by rw [← am_own hci hk]; exact hi⟩, hst⟩ (by rw [q2]; exact h6) q1 q3 (by rw [hsl]; exact k2_hasslot (q4 k hk)) rfl rfl hdg fun H' e1 e2 e3 => ?_
  rw [hsl] at e1 ⊢
  exact kk H' _ e2 e3 ⟨_, hc, t_OB.to (V := updV (vp_V fs) k v) ⟨_, e1, q2, q3, t_set q4 hap hk v⟩ (fun j _ => vp_updV_set hl v j)⟩
theorem am_get (hexec : p.tables.exec = Jvm.exec) (hb : c.code = cc) {own : String} {ci index : Nat} (hci : ci < 13) (hts : ∀ w ∈ lw_g, w.before args s = true) (hown : s.vm.findClass own = some m.cls) (hK : ∀ (c : Nat) (q : vw_C), am_cls[c]? = some q → u_Kn s q.1 q.2.1 q.2.2 (D.1 c) (D.2 c)) {a : Nat} {fs : List Value} (hat : va_at D am_cls (a, .inr (ci, fs)) H) (k : Nat) (hk : k < am_nf ci) (hlink : (Cond.fieldLink own index (mO ci) (am_fT ci k).2.1 (am_fT ci k).2.2.1).before args s = true) {v : Value} (hv : fs[k]? = some v) (hdg : decode cc pc = .ok (.getfield index, 3))
    (kk : W p l e R s m args below meth c H locs cells slots Q (F0 m (pc + 3) ls (v :: rest))) : W p l e R s m args below meth c H locs cells slots Q (F0 m pc ls (.ref a :: rest)) :=
  va_get (D := D) (cl := am_cls) (tys := []) (ws := [(a, .inr (ci, fs))]) hexec hb hts (am_in_lay hci) hown ⟨hK, fun k q h => by simp at h⟩ (fun k q h => by
    have hz : k < 1 := (List.getElem?_eq_some_iff.mp h).1
    rw [show k = 0 by omega] at h; cases h; exact hat) 0 rfl (am_cls_at hci) k hk hlink (fun x hx => by rw [← am_own hci hk]; exact hx) hv hdg kk
theorem am_iast (hexec : p.tables.exec = Jvm.exec) (hb : c.code = cc) {a n : Nat} {cA : ClassId} {f : Nat → Int32} (hA : ArrOfT s cA .int) (hat : H[a]? = some (vp_cell cA (n, .inl f))) {i x : Int32} (hin : ¬ am_oob i n) (hdg : decode cc pc = .ok (.iastore, 1))
    (kk : ∀ H' : Heap, H'.size = H.size → (∀ q : Nat, q ≠ a → H'[q]? = H[q]?) → H'[a]? = some (vp_cell cA (n, .inl (upd f i.toNatClampNeg x))) → W p l e R s m args below meth c H' (locs ++ [⟨a, i.toNatClampNeg⟩]) cells slots Q (F0 m (pc + 1) ls rest)) : W p l e R s m args below meth c H locs cells slots Q (F0 m pc ls (.int x :: .int i :: .ref a :: rest)) := by
  refine W.iast hexec hb hat (hA n (fun j => .int (f j))) (fun q => by cases q) (by show ¬ (i < 0 ∨ (arrV _ _ _).slots.size ≤ _); rw [arrV_size]; exact hin) rfl rfl hdg fun H1 e1 z oq => ?_
  refine kk H1 z oq ?_
  rw [e1]
  rw [vp_cell_i, vp_cell_i, arrV_store]
  congr 2
  funext q
  by_cases hq : q = i.toNatClampNeg
  · subst hq
    simp [updV, upd]
  · simp [updV, upd, hq]
theorem am_zast (hexec : p.tables.exec = Jvm.exec) (hb : c.code = cc) {a n : Nat} {cA : ClassId} {f : Nat → Int32} (hA : ArrOfT s cA .boolean) (hat : H[a]? = some (vp_cell cA (n, .inl f))) {i x : Int32} (hin : ¬ am_oob i n) (hdg : decode cc pc = .ok (.bastore, 1))
    (kk : ∀ H' : Heap, H'.size = H.size → (∀ q : Nat, q ≠ a → H'[q]? = H[q]?) → H'[a]? = some (vp_cell cA (n, .inl (upd f i.toNatClampNeg (vp_nar .boolean x)))) → W p l e R s m args below meth c H' (locs ++ [⟨a, i.toNatClampNeg⟩]) cells slots Q (F0 m (pc + 1) ls rest)) : W p l e R s m args below meth c H locs cells slots Q (F0 m pc ls (.int x :: .int i :: .ref a :: rest)) := by
  refine W.zast hexec hb hat (hA n (fun j => .int (f j))) (fun q => by cases q) (by show ¬ (i < 0 ∨ (arrV _ _ _).slots.size ≤ _); rw [arrV_size]; exact hin) rfl rfl hdg fun H1 e1 z oq => ?_
  refine kk H1 z oq ?_
  rw [e1]
  rw [vp_cell_i, vp_cell_i, arrV_store]
  congr 2
  funext q
  by_cases hq : q = i.toNatClampNeg
  · subst hq
    simp [updV, upd, vp_nar]
    try rfl
  · simp [updV, upd, hq]
theorem am_last (hexec : p.tables.exec = Jvm.exec) (hb : c.code = cc) {a n : Nat} {cA : ClassId} {f : Nat → Int64} (hA : ArrOfT s cA .long) (hat : H[a]? = some (vp_cell cA (n, .inr (.inl f)))) {i : Int32} {x : Int64} (hin : ¬ am_oob i n) (hdg : decode cc pc = .ok (.lastore, 1))
    (kk : ∀ H' : Heap, H'.size = H.size → (∀ q : Nat, q ≠ a → H'[q]? = H[q]?) → H'[a]? = some (vp_cell cA (n, .inr (.inl (vp_updL f i.toNatClampNeg x)))) → W p l e R s m args below meth c H' (locs ++ [⟨a, i.toNatClampNeg⟩]) cells slots Q (F0 m (pc + 1) ls rest)) : W p l e R s m args below meth c H locs cells slots Q (F0 m pc ls (.long x :: .int i :: .ref a :: rest)) := by
  refine W.last hexec hb hat (hA n (fun j => .long (f j))) (fun q => by cases q) (by show ¬ (i < 0 ∨ (arrV _ _ _).slots.size ≤ _); rw [arrV_size]; exact hin) rfl rfl hdg fun H1 e1 z oq => ?_
  refine kk H1 z oq ?_
  rw [e1]
  show some ((arrV cA n (fun j => .long (f j))).setSlot i.toNatClampNeg (.long x)) = some (arrV cA n (fun j => .long (vp_updL f i.toNatClampNeg x j)))
  rw [arrV_store]
  congr 2
  funext q
  by_cases hq : q = i.toNatClampNeg
  · subst hq
    simp [updV, vp_updL]
  · simp [updV, vp_updL, hq]
theorem am_copy (hexec : p.tables.exec = Jvm.exec) (hb : c.code = cc) (hml : c.maxLocals = ls.size) {own : String} {index : Nat} (hown : s.vm.findClass own = some m.cls) (hlink : (Cond.methodLink own index arraycopyName).before args s = true) (hnat : (Cond.native arraycopyName).before args s = true) (hstat : (Cond.static arraycopyName).before args s = true) (hini : (Cond.initialized "java/lang/System").before args s = true)
    {a0 a n0 n1 : Nat} {cA : ClassId} {f g : Nat → Int32} (hA : ArrOfT s cA .int) (hc0 : H[a0]? = some (vp_cell cA (n0, .inl f))) (hc1 : H[a]? = some (vp_cell cA (n1, .inl g)))
    {sp dp n : Int32} (h1 : ¬ sp < 0) (h2 : ¬ dp < 0) (h3 : ¬ n < 0) (h4 : sp.toNatClampNeg + n.toNatClampNeg ≤ n0) (h5 : dp.toNatClampNeg + n.toNatClampNeg ≤ n1)
    (hframes : 1 ≤ R.frames) (hlocals : (rest.map fun v => v.category).sum + (nativeFrameWords "java/lang/System" "arraycopy" 5 + 11) ≤ R.locals) (hdg : decode cc pc = .ok (.invokestatic index, 3))
    (kk : ∀ (H' : Heap) (L : List Loc), (∀ q ∈ L, q.base = a) → H'.size = H.size → (∀ q : Nat, q ≠ a → H'[q]? = H[q]?) → H'[a]? = some (vp_cell cA (n1, .inl (va_cpy f g sp.toNatClampNeg dp.toNatClampNeg n.toNatClampNeg))) → W p l e R s m args below meth c H' (locs ++ L) cells slots Q (F0 m (pc + 3) ls rest)) : W p l e R s m args below meth c H locs cells slots Q (F0 m pc ls (.int n :: .int dp :: .ref a :: .int sp :: .ref a0 :: rest)) := by
  have nn : ∀ z : Int32, ¬ z < 0 → z.toInt = (z.toNatClampNeg : Int) := by
    intro z hz
    have hz0 : (0 : Int) ≤ z.toInt := by
      have := Int32.not_lt.mp hz
      simpa using Int32.le_iff_toInt_le.mp this
    show z.toInt = ((z.toInt.toNat : Nat) : Int)
    omega
  intro T hT X
  obtain ⟨-, k0, hk0, cm0, hkk0⟩ := hA n0 (fun j => .int (f j))
  obtain ⟨-, k1, hk1, cm1, hkk1⟩ := hA n1 (fun j => .int (g j))
  obtain ⟨vm', X', step⟩ := X.arraycopy hexec hown hlink hnat hstat hini (src := a0) (dst := a) (cs := vp_cell cA (n0, .inl f)) (cd := vp_cell cA (n1, .inl g)) (srcPos := sp) (destPos := dp) (n := n) (by rw [hT]; exact hc0) (by rw [hT]; exact hc1)
    (fun _ h => by cases h) (fun _ h => by cases h) (fun h => by cases h) (fun h => by cases h) hk0 hk1 hkk0 hkk1 (by simp [refKind]) h1 h2 h3
    (by rw [nn sp h1, nn n h3]; show ¬ _ > ((arrV cA n0 (fun j => .int (f j))).slots.size : Int); rw [arrV_size]; omega)
    (by rw [nn dp h2, nn n h3]; show ¬ _ > ((arrV cA n1 (fun j => .int (g j))).slots.size : Int); rw [arrV_size]; omega)
    (fun vm₁ _ i hi => by
      have e : (vp_cell cA (n0, .inl f)).slots.getD (sp.toNatClampNeg + i) .null = .int (f (sp.toNatClampNeg + i)) := by
        show (arrV cA n0 (fun j => .int (f j))).slots.getD _ _ = _
        rw [Array.getD_eq_getD_getElem?, arrV_read _ _ (by omega)]
        rfl
      refine ⟨?_, ?_⟩
      · rw [e]; rfl
      · rw [e]
        exact trivial)
    (g := F0 m pc ls (.int n :: .int dp :: .ref a :: .int sp :: .ref a0 :: rest)) rfl (by rw [hml]) (rest := rest) rfl (by rw [hb]; exact hdg) hframes (by show 2 * 0 + _ + _ ≤ _; omega)
  have e1 : copied (vp_cell cA (n0, .inl f)) (vp_cell cA (n1, .inl g)) sp dp n = vp_cell cA (n1, .inl (va_cpy f g sp.toNatClampNeg dp.toNatClampNeg n.toNatClampNeg)) := va_copied (fun z => .int z) cA cA f g h4
  rw [e1] at X' step
  have hl : a < H.size := (Array.getElem?_eq_some_iff.mp hc1).1
  have hheap : ((T.setVm vm').setCell a (vp_cell cA (n1, .inl (va_cpy f g sp.toNatClampNeg dp.toNatClampNeg n.toNatClampNeg)))).heap = H.setIfInBounds a (vp_cell cA (n1, .inl (va_cpy f g sp.toNatClampNeg dp.toNatClampNeg n.toNatClampNeg))) := by rw [← hT]; rfl
  obtain ⟨t, a1, b1⟩ := kk _ _ (fun q hq => by
      obtain ⟨z, -, hz⟩ := List.mem_map.mp hq
      rw [← hz]) (by simp) (fun q hq => by simp [Array.getElem?_setIfInBounds, Ne.symm hq]) (by simp [Array.getElem?_setIfInBounds, hl]) _ hheap X'
  exact ⟨t, step t a1, b1⟩
/-- a call that has come back -/
theorem am_call {g : JFrame} {Qa : State → Outcome → State → Prop} {free : Addr → Prop} {mc ms : Nat} (hr : CallRun p l e R s m args below meth c H locs cells slots mc ms g rest Qa free)
    (kk : ∀ (v : Option Value) (st₀ t : State) (L : List Loc), st₀.heap = H → Qa st₀ (.returned v) t → (∀ q ∈ L, free q.base) → W p l e R s m args below meth c t.heap (locs ++ L) (cells + mc) (slots + ms) Q { g with pc := g.pc + 3, stack := v.toList ++ rest }) : W p l e R s m args below meth c H locs cells slots Q g := by
  intro T hT X
  obtain ⟨v, st₀, t, T', L, h0, X', hL, e1, hq, st⟩ := hr T hT X
  obtain ⟨t2, a1, b1⟩ := kk v st₀ t L h0 hq hL T' e1 X'
  exact ⟨t2, st t2 a1, b1⟩
end Mem
