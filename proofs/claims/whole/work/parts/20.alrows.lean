/-! rows of the second machine are as the bytes say; what a state needs besides -/
def al_len : Instr → Nat
  | .newarray _ => 2
  | .anewarray _ => 3
  | .multianewarray _ _ => 4
  | i => am_lens i
def al_ckx (o rk nL : Nat) (e : am_E) : Bool :=
  match e with
  | (pc, ins, nx, x1, x2, h, v, sw, ks) =>
  match ins with
  | .new i => decide (nw[h]? = some (o, i, x1) ∧ x1 < 13)
  | .newarray t => (match t with
    | .int => decide (x1 = 1)
    | .boolean => decide (x1 = 2)
    | .long => decide (x1 = 3)
    | _ => false)
  | .anewarray i => decide (nw[h]? = some (o, i, x1 - 4)) && decide (x1 = 5 ∨ x1 = 9 ∨ x1 = 10 ∨ x1 = 11 ∨ x1 = 12)
  | .multianewarray i d => decide (o = 4 ∧ i = 23 ∧ d = 2)
  | .putfield i => (match x2 % 10 with
    | 3 => decide (tf[h]? = some (o, i, x1, x2 / 10)) && (decide (x1 < 13 ∧ x2 / 10 < am_nf x1 ∧ o = x1) && (decide (am_ft x1 (x2 / 10) = 3 ∧ (am_fT x1 (x2 / 10)).2.2.2 = true) && al_isr (am_fY x1 (x2 / 10))))
    | _ => am_ckx o rk nL 0 none (pc, .putfield i, nx, x1, x2, h, v, sw, ks))
  | .invokespecial i => (match x2 with
    | 1 => decide (ob[h]? = some (o, i))
    | _ => decide (nl[h]? = some (o, i, x1)) && decide (x1 < 13 ∧ iK x1 < rk ∧ x2 / 10 = iP x1))
  | _ => am_ckx o rk nL 0 none e
def al_ck (o : Nat) (bs : ByteArray) (rk nL : Nat) (e : am_E) : Bool := decide (decode bs e.1 = .ok (e.2.1, e.2.2.1 - e.1)) && (decide (e.2.2.1 = e.1 + al_len e.2.1) && al_ckx o rk nL e)
theorem cl_of {o : Nat} {bs : ByteArray} {rk nL : Nat} {e0 : am_E} {k : Nat} (h : al_ck o bs rk nL e0 = true) (hk : al_len e0.2.1 = k) : e0.2.2.1 = e0.1 + k ∧ decode bs e0.1 = .ok (e0.2.1, k) ∧ al_ckx o rk nL e0 = true := by
  subst hk
  simp only [al_ck, Bool.and_eq_true, decide_eq_true_eq] at h
  obtain ⟨h1, h2, h3⟩ := h
  refine ⟨h2, ?_, h3⟩
  rw [h1, h2, Nat.add_sub_cancel_left]
def al_AOA (U : State) : Prop := (Cond.arrayOver (.array .int)).before #[] U = true
theorem al_AOA.moved {u U : State} (hvm : u.vm.Alike U.vm) (h : al_AOA u) : al_AOA U := by
  obtain ⟨comp, c, k, h1, h2, h3, h4, h5⟩ := arrayOverA_spec h
  obtain ⟨k', hk', he⟩ := hvm.2.2 _ _ h3
  have hbare : U.vm.bare = u.vm.bare := by first | exact hvm.bare_eq | exact hvm.bare_eq.symm
  have hi : (U.vm.classes.findIdx? fun (x : Class) => match x.kind with | .array component _ => component == comp | _ => false) = some c := (va_idx_bare U.vm comp).symm.trans (by rw [hbare]; exact (va_idx_bare u.vm comp).trans h2)
  have hkind : k'.kind = .array comp (.array .int) := by rw [he]; exact h4
  have f1 : U.vm.findClass (FieldType.array .int).toString = some comp := by rw [hvm.findClass]; exact h1
  have f2 : U.vm.findClass ("[" ++ (FieldType.array .int).toString) = some c := by rw [hvm.findClass]; exact h5
  unfold al_AOA Cond.before Cond.holds
  simp only [Cond.value]
  rw [f1, Option.bind_some]
  refine (congrArg (fun o : Option Nat => (o.bind (fun c => (U.vm.classes[c]?).map fun (k : Class) => match k.kind with | .array _ ty => decide (ty = FieldType.array .int) && decide (U.vm.findClass ("[" ++ (FieldType.array .int).toString) = some c) | _ => false) == some true)) hi).trans ?_
  simp [hk', hkind, f2]
def al_AO (U : State) : Prop := (∀ c : Nat, c = 1 ∨ c = 5 ∨ c = 6 ∨ c = 7 ∨ c = 8 → va_AO (mO c) U) ∧ al_AOA U
theorem al_AO.moved {u U : State} (hvm : u.vm.Alike U.vm) (h : al_AO u) : al_AO U := ⟨fun c hc => (h.1 c hc).moved hvm, h.2.moved hvm⟩
theorem al_tys : ∀ c : Nat, c = 1 ∨ c = 5 ∨ c = 6 ∨ c = 7 ∨ c = 8 → am_ty (4 + c) = some (.object (mO c)) := by
  intro c hc
  rcases hc with rfl | rfl | rfl | rfl | rfl <;> rfl
/-- a constructor's words and room -/
def iws (z : Nat) : List Cond := Cond.code (iN z) (iB z) (iL z) none :: lw_g
def irm (z : Nat) : Room := { frames := iK z, cells := (cz z).1, slots := (cz z).2, locals := 40 * iK z }
def al_st (adr : Nat → Nat) (B : Nat) (H0 : Heap) (D : va_G) (cA : Nat → ClassId) (g0 : am_G) (S : al_S) (H : Heap) : Prop := am_H adr B H0 D cA (al_g g0 S) (al_m S.2.2.2.2) H ∧ al_J S
def al_Pc (adr : Nat → Nat) (fv : Value) (B : Nat) (H0 : Heap) (D : va_G) (cA : Nat → ClassId) (g0 : am_G) (a : List Value) (S : al_S) : Array Value → State → Prop := fun v U => v = (a.map (am_v adr fv)).toArray ∧ al_st adr B H0 D cA g0 S U.heap ∧ am_KN adr fv B D cA g0 U U.heap ∧ al_AO U
def al_Qc (adr : Nat → Nat) (fv : Value) (B : Nat) (H0 : Heap) (D : va_G) (cA : Nat → ClassId) (g0 : am_G) (S : al_S) : Array Value → State → Outcome → State → Prop := fun _ _ oc t => oc = .returned none ∧ al_st adr B H0 D cA g0 S t.heap
theorem al_tz_in {z : Nat} (h : z < 13) : pr_i z := by
  have key : ∀ y : Nat, y < 13 → y ∈ tz := by decide +kernel
  exact p_tz z (key z h)
theorem al_iws_in {z : Nat} (hz : z < 13) : ∀ w ∈ iws z, w ∈ lw_g := by
  intro w hw
  rcases List.mem_cons.mp hw with rfl | hw
  · exact (al_tz_in hz).1
  · exact hw
theorem al_par : ∀ z : Nat, z < 13 → (parseMethodDescriptor (iN z).desc).map (fun d => d.parameters.length) = some (iP z) := by decide +kernel
theorem al_Lle : ∀ z : Nat, z < 13 → iL z ≤ 3 := by decide +kernel
section AlX
variable {p : Program} {l : Launch} {e : Env} {R : Room} {s : State} {m : MethodId} {args : Array Value} {below : List Frame} {meth : Method} {c : Code} {H : Heap} {locs : List Loc} {cells slots : Nat} {Q : State → Prop}
variable {cc : ByteArray} {pc : Nat} {ls : Array Slot} {rest : List Value} {D : va_G}
/-- a final field, in its class's own constructor -/
theorem am_putF (hexec : p.tables.exec = Jvm.exec) (hb : c.code = cc) {ci index : Nat} (hci : ci < 13) (hts : ∀ w ∈ lw_g, w.before args s = true) (hown : s.vm.findClass (mO ci) = some m.cls) (hin2 : meth.name = "<init>") (hK : ∀ (c : Nat) (q : vw_C), am_cls[c]? = some q → u_Kn s q.1 q.2.1 q.2.2 (D.1 c) (D.2 c)) {a : Nat} {fs : List Value} (hat : va_at D am_cls (a, .inr (ci, fs)) H) (k : Nat) (hk : k < am_nf ci) (hlink : (Cond.fieldLink (mO ci) index (mO ci) (am_fT ci k).2.1 (am_fT ci k).2.2.1).before args s = true) (hfin : (am_fT ci k).2.2.2 = true) {v : Value} (hn : narrow (am_fY ci k) v = v) (hfit : fits (am_fY ci k) v = true) (hl : k < fs.length)
    (hdg : decode cc pc = .ok (.putfield index, 3)) (kk : ∀ (H' : Heap) (i : Nat), H'.size = H.size → (∀ q : Nat, q ≠ a → H'[q]? = H[q]?) → va_at D am_cls (a, .inr (ci, fs.set k v)) H' → W p l e R s m args below meth c H' (locs ++ [⟨a, i⟩]) cells slots Q (F0 m (pc + 3) ls rest)) : W p l e R s m args below meth c H locs cells slots Q (F0 m pc ls (v :: .ref a :: rest)) := by
  have hc := am_cls_at hci
  have hKv : va_K D am_cls [] s := ⟨hK, fun k q h => by simp at h⟩
  have hap := va_apart (own := mO ci) hts (am_in_lay hci) (am_fY ci) (am_tyk hci) (am_nm hci) hKv hc
  obtain ⟨r, h1, cell, q1, q2, q3, q4⟩ := hat
  have hr : r = (mO ci, am_fT ci, am_nf ci) := Option.some.inj (h1.symm.trans hc)
  subst hr
  obtain ⟨hS, hfc, kC, hkC, hkind⟩ := hK ci _ hc
  obtain ⟨cf, kf, fi, f, hi, hsl⟩ := hS k hk
  have hlay := hts _ (am_in_lay hci _ (u_in_lay hk))
  unfold u_lay at hlay
  rw [if_pos hfin] at hlay
  have hst := (u_facts hfc hkC (u_lays hts (am_in_lay hci) hk) hi).1
  have hcf : m.cls = cf := by
    obtain ⟨_, _, c', _, _, _, -, -, hf', -, -, -, hown2, -⟩ := Cond.laysFinal_spec hlay
    have e1 : c' = cf := by have := hi.symm.trans hf'; simp at this; exact this.1.symm
    rw [am_own hci hk] at hown2
    rw [← e1]; exact Option.some.inj (hown.symm.trans hown2)
  have h6 := u_fits hfc hkC hkind (Or.inr hlay) hi (am_tyk hci k hk) hn hfit
  refine W.putFinK hexec hb (f := f) hown hlink (by rw [← am_own hci hk]; exact hi) hst hcf hin2 (by rw [q2]; exact h6) q1 q3 (by rw [hsl]; exact k2_hasslot (q4 k hk)) rfl rfl hdg fun H' e1 e2 e3 => ?_
  rw [hsl] at e1 ⊢
  exact kk H' _ e2 e3 ⟨_, hc, t_OB.to (V := updV (vp_V fs) k v) ⟨_, e1, q2, q3, t_set q4 hap hk v⟩ (fun j _ => vp_updV_set hl v j)⟩
theorem am_new (hexec : p.tables.exec = Jvm.exec) (hb : c.code = cc) {own : String} {ci index : Nat} (hci : ci < 13) (hts : ∀ w ∈ lw_g, w.before args s = true) (hown : s.vm.findClass own = some m.cls) (hcl : (Cond.classLink own index (mO ci)).before args s = true) (hinst : (Cond.instantiable (mO ci) (am_nf ci)).before args s = true) (hini : (Cond.initialized (mO ci)).before args s = true)
    (hK : ∀ (c : Nat) (q : vw_C), am_cls[c]? = some q → u_Kn s q.1 q.2.1 q.2.2 (D.1 c) (D.2 c)) {fs : List Value} (hfs : ∀ j, j < am_nf ci → defaultValue (am_fY ci j) = vp_V fs j) (hcells : cells + 1 ≤ R.cells) (hslots : slots + am_nf ci ≤ R.slots) (hdg : decode cc pc = .ok (.new index, 3))
    (kk : ∀ H1 : Heap, H1.size = H.size + 1 → (∀ q : Nat, q < H.size → H1[q]? = H[q]?) → va_at D am_cls (H.size, .inr (ci, fs)) H1 → W p l e R s m args below meth c H1 locs (cells + 1) (slots + am_nf ci) Q (F0 m (pc + 3) ls (.ref H.size :: rest))) : W p l e R s m args below meth c H locs cells slots Q (F0 m pc ls rest) := by
  have hc := am_cls_at hci
  have hKn := hK ci _ hc
  refine W.newcK hexec hb hown hcl hinst hini rfl hdg hcells hslots hKn.2.1 rfl fun H1 kC hkC e1 z1 o1 => ?_
  exact kk H1 z1 o1 ⟨_, hc, (u_born (am_fY ci) hts (am_in_lay hci) hKn hkC e1 (am_tyk hci)).to hfs⟩
theorem am_newq (hexec : p.tables.exec = Jvm.exec) (hb : c.code = cc) {own C : String} {index : Nat} {cA0 : ClassId} (hown : s.vm.findClass own = some m.cls) (hclink : (Cond.classLink own index C).before args s = true) (hover : va_AO C s) (hcA : s.vm.findClass ("[" ++ (FieldType.object C).toString) = some cA0)
    {n : Int32} (hn : ¬ n < 0) (hbytes : n.toNatClampNeg * 4 ≤ 536870912) (hcells : cells + 1 ≤ R.cells) (hslots : slots + n.toNatClampNeg ≤ R.slots) (hdg : decode cc pc = .ok (.anewarray index, 3))
    (kk : ∀ H1 : Heap, H1.size = H.size + 1 → (∀ q : Nat, q < H.size → H1[q]? = H[q]?) → H1[H.size]? = some (vp_cell cA0 (n.toNatClampNeg, .inr (.inr (.inr (.inr (fun _ => none)))))) →
      W p l e R s m args below meth c H1 locs (cells + 1) (slots + n.toNatClampNeg) Q (F0 m (pc + 3) ls (.ref H.size :: rest))) : W p l e R s m args below meth c H locs cells slots Q (F0 m pc ls (.int n :: rest)) := by
  refine W.anew hexec hb hown hclink (va_AO.use hover) rfl hdg rfl hn hbytes hcells hslots fun cA kA comp f1 f2 f3 f4 => ?_
  cases hcA.symm.trans f1
  generalize hH1 : H.push ({ cls := cA0, slots := Array.replicate n.toNatClampNeg .null, vm := .none } : Cell) = H1
  refine kk H1 (by rw [← hH1, Array.size_push]) (fun q hq => by rw [← hH1, Array.getElem?_push, if_neg (Nat.ne_of_lt hq)]) ?_
  rw [vp_cell_q, ← hH1, Array.getElem?_push_size, ← arrV_new]
  rfl
theorem am_aast (hexec : p.tables.exec = Jvm.exec) (hb : c.code = cc) {ci : Nat} (hci : ci < 13) (hK : ∀ (c : Nat) (q : vw_C), am_cls[c]? = some q → u_Kn s q.1 q.2.1 q.2.2 (D.1 c) (D.2 c)) {cA : ClassId} (hRA : va_RA s cA (.object (mO ci))) {a v n : Nat} {vs : List Value} {f : Nat → Option Nat} (ha : va_at D am_cls (a, .inl (cA, n, .inr (.inr (.inr (.inr f))))) H) (hv : va_at D am_cls (v, .inr (ci, vs)) H) {i : Int32} (hin : ¬ am_oob i n) (hdg : decode cc pc = .ok (.aastore, 1))
    (kk : ∀ H1 : Heap, H1.size = H.size → (∀ q : Nat, q ≠ a → H1[q]? = H[q]?) → va_at D am_cls (a, .inl (cA, n, .inr (.inr (.inr (.inr (va_up f i.toNatClampNeg (some v))))))) H1 → W p l e R s m args below meth c H1 (locs ++ [⟨a, i.toNatClampNeg⟩]) cells slots Q (F0 m (pc + 1) ls rest)) : W p l e R s m args below meth c H locs cells slots Q (F0 m pc ls (.ref v :: .int i :: .ref a :: rest)) := by
  have hlt : i.toNatClampNeg < n := Nat.not_le.mp fun q => hin (Or.inr q)
  have h0 : ¬ i < 0 := fun q => hin (Or.inl q)
  obtain ⟨r', hr', cellV, g1, g2, g3, -⟩ := hv
  have hcls := (hK ci _ (am_cls_at hci)).2
  obtain ⟨kA, comp, k1, k2, k3, -⟩ := hRA
  have hcomp : comp = D.1 ci := Option.some.inj (k3.symm.trans hcls.1)
  subst hcomp
  obtain ⟨kC, hkC, -⟩ := hcls.2
  have ha' : H[a]? = some (vp_cell cA (n, .inr (.inr (.inr (.inr f))))) := ha
  refine W.aast hexec hb ha' (fun q h => by cases h) (fun h => by cases h) k1 k2 rfl hkC ⟨h0, by show _ < (arrV _ _ _).slots.size; rw [arrV_size]; exact hlt⟩ g1 (fun q h => by rw [g3] at h; cases h) (by rw [g2]; exact hkC) (by rw [g2]; exact va_assign hcls) rfl rfl hdg fun H1 e z oq => ?_
  refine kk H1 z oq ?_
  show H1[a]? = some (vp_cell _ _)
  rw [e]
  rw [vp_cell_q, vp_cell_q, arrV_store]
  congr 2
  funext q
  by_cases hq : q = i.toNatClampNeg
  · subst hq
    simp [updV, va_up, va_rf]
  · simp [updV, va_up, hq]
end AlX
