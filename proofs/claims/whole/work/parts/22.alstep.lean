/-! one step of the second machine is one step of the machine -/
section AlO
variable {adr : Nat → Nat} {fv : Value} {B : Nat} {H0 : Heap} {D : va_G} {cA : Nat → ClassId} {g0 : am_G}
variable {p : Program} {l : Launch} {e : Env} {R : Room} {s : State} {m : MethodId} {args : Array Value} {below : List Frame} {meth : Method} {c : Code} {Q : State → Prop}
theorem al_rm_iv {lim : Nat × Nat} {S : al_S} {n sl : Nat} (h : al_rm lim S n sl = true) : S.1 + n ≤ lim.1 ∧ S.2.1 + sl ≤ lim.2 ∧ S.1 + n ≤ 1000000 := by
  unfold al_rm at h
  rw [Bool.and_eq_true, Bool.and_eq_true] at h
  exact ⟨Nat.le_of_ble_eq_true h.1, Nat.le_of_ble_eq_true h.2.1, Nat.le_of_ble_eq_true h.2.2⟩
theorem al_bif {β : Type} {b : Bool} {A : Option β} {r : β} (h : (bif b then A else none) = some r) : b = true ∧ A = some r := by
  cases b with
  | true => exact ⟨rfl, h⟩
  | false => cases h
set_option maxHeartbeats 4000000 in
theorem al_step_ok (hmul : al_MUL) (hx : p.tables.exec = Jvm.exec) {bs : ByteArray} (hb : c.code = bs) {nL : Nat} (hml : c.maxLocals = nL) {o : Nat} (hown : s.vm.findClass (mO o) = some m.cls) (hts : ∀ w ∈ lw_g, w.before args s = true)
    (fv0 : fv = .null ∨ ∃ t, fv = .ref t) (hadr : ∀ a : Nat, a < 1000000 → adr a = B + a) (hB : al_B g0) (hKN : am_KN adr fv B D cA g0 s s.heap) (hAO : al_AO s) (hs3 : ∀ q : Nat, q < B → s.heap[q]? = H0[q]?)
    {n0 m0 : Nat} (hs2 : s.heap.size = B + n0) {rk : Nat} (hR : ∀ k : Nat, k < rk → k + 1 ≤ R.frames ∧ 40 + 40 * k ≤ R.locals) (hrk : 0 < rk) {lim : Nat × Nat} (hlim : lim.1 ≤ n0 + R.cells ∧ lim.2 ≤ m0 + R.slots) (hin : o < 13 → meth.name = "<init>")
    {Γ : Nat → Nat × Nat → List Value → al_S → Option al_S} {β : Type} {r : β} {ρ : al_S → Option β} {κ : Nat → am_L → List Value → al_S → Option β}
    (hΓ : ∀ (z : Nat) (a : List Value) (S S' : al_S), z < 13 → iK z < rk → am_wds a ≤ iL z → Γ z (S.1 + (cz z).1, S.2.1 + (cz z).2) a S = some S' → Met l (iN z) (iws z) (irm z) (al_Pc adr fv B H0 D cA g0 a S) (al_Qc adr fv B H0 D cA g0 S') (cz z).1 (cz z).2 (fun q : Nat => B ≤ q))
    (hκ : ∀ (pc' : Nat) (ls' : am_L) (st' : List Value) (S' : al_S), κ pc' ls' st' S' = some r → ∀ (H : Heap) (locs : List Loc) (lsA : Array Slot) (cells slots : Nat), al_st adr B H0 D cA g0 S' H → S'.1 = n0 + cells → S'.2.1 = m0 + slots → (∀ q ∈ locs, B ≤ q.base) → lv_has lsA nL (am_l adr fv ls') → W p l e R s m args below meth c H locs cells slots Q (F0 m pc' lsA (st'.map (am_v adr fv))))
    (hEnd : ∀ (pc : Nat) (S' : al_S) (H : Heap) (locs : List Loc) (lsA : Array Slot) (cells slots : Nat), decode bs pc = .ok (.return_, 1) → ρ S' = some r → al_st adr B H0 D cA g0 S' H → S'.1 = n0 + cells → S'.2.1 = m0 + slots → (∀ q ∈ locs, B ≤ q.base) → W p l e R s m args below meth c H locs cells slots Q (F0 m pc lsA []))
    {e0 : am_E} (hck : al_ck o bs rk nL e0 = true) {ls : am_L} {st : List Value} {S : al_S} (h : al_step Γ lim e0 ls st S ρ κ = some r)
    (H : Heap) (locs : List Loc) (lsA : Array Slot) (cells slots : Nat) (hS : al_st adr B H0 D cA g0 S H) (hc1 : S.1 = n0 + cells) (hc2 : S.2.1 = m0 + slots) (hL : ∀ q ∈ locs, B ≤ q.base) (hl : lv_has lsA nL (am_l adr fv ls)) :
    W p l e R s m args below meth c H locs cells slots Q (F0 m e0.1 lsA (st.map (am_v adr fv))) := by
  obtain ⟨hH, hJ⟩ := hS
  have hG := al_Gk (adr := adr) (S := S) hadr hB hJ
  have hKg := al_KN (S := S) hB hJ hKN
  have hm := hJ.2.2.2
  have hsz : H.size = B + S.1 := hH.1
  have hlt : ∀ {a t n : Nat}, al_kl S.2.2.1 a = some (t, n) → a < S.1 ∧ t < 50 ∧ gK (al_g g0 S) a = (t, n) := fun {a t n} h => ⟨(hJ.1 _ (al_kl_mem h)).1, (hJ.1 _ (al_kl_mem h)).2.1, al_Kin h⟩
  have hv : ∀ {a : Nat}, a < S.1 → am_v adr fv (.ref a) = .ref (adr a) := fun {a} ha => if_neg (by show a ≠ 1000050; omega)
  have hae : ∀ {a : Nat}, a < S.1 → adr a = B + a := fun {a} ha => hadr a (by omega)
  have hvn : am_v adr fv (.ref S.1) = .ref H.size ∨ ¬ S.1 < 1000000 := by
    by_cases h : S.1 < 1000000
    · left
      rw [show am_v adr fv (.ref S.1) = .ref (adr S.1) from if_neg (by show S.1 ≠ 1000050; omega), hadr _ h, hsz]
    · exact Or.inr h
  obtain ⟨pc, ins, nx, x1, x2, hw, v, sw, ks⟩ := e0
  cases ins
  case iconst n =>
    obtain ⟨hn, hd, hX⟩ := cl_of (k := 1) hck rfl
    replace hX : v = .int (Int32.ofInt n) := of_decide_eq_true hX
    dsimp only at hn; subst hn; subst hX
    exact lv_iconst hx hb hd rfl (hκ _ _ _ _ h H locs lsA _ _ ⟨hH, hJ⟩ hc1 hc2 hL hl)
  case bipush n =>
    obtain ⟨hn, hd, hX⟩ := cl_of (k := 2) hck rfl
    replace hX : v = .int (Int8.ofInt n).toInt32 := of_decide_eq_true hX
    dsimp only at hn; subst hn; subst hX
    exact lv_bipush hx hb hd rfl (hκ _ _ _ _ h H locs lsA _ _ ⟨hH, hJ⟩ hc1 hc2 hL hl)
  case sipush n =>
    obtain ⟨hn, hd, hX⟩ := cl_of (k := 3) hck rfl
    replace hX : v = .int (Int16.ofInt n).toInt32 := of_decide_eq_true hX
    dsimp only at hn; subst hn; subst hX
    exact lv_sipush hx hb hd rfl (hκ _ _ _ _ h H locs lsA _ _ ⟨hH, hJ⟩ hc1 hc2 hL hl)
  case iload_n i =>
    obtain ⟨hn, hd, hX⟩ := cl_of (k := 1) hck rfl
    replace hX : (i : Nat) = x1 := of_decide_eq_true hX
    dsimp only at hn; subst hn
    dsimp only [al_step] at h
    split at h
    · rename_i x e1
      exact lv_iload_n hx hb hd hX (am_has_at hl e1) (hκ _ _ _ _ h H locs lsA _ _ ⟨hH, hJ⟩ hc1 hc2 hL hl)
    · cases h
  case aload_n i =>
    obtain ⟨hn, hd, hX⟩ := cl_of (k := 1) hck rfl
    replace hX : (i : Nat) = x1 := of_decide_eq_true hX
    dsimp only at hn; subst hn
    dsimp only [al_step] at h
    split at h
    · rename_i x e1
      have k := hκ _ _ _ _ h H locs lsA _ _ ⟨hH, hJ⟩ hc1 hc2 hL hl
      have ha := am_has_at hl e1
      rw [List.map_cons] at k
      rcases am_vref (adr := adr) fv0 x with hv | ⟨t, hv⟩ <;> rw [hv] at k ha
      · exact lv_aload_nN hx hb hd hX ha k
      · exact lv_aload_n hx hb hd hX ha k
    · cases h
  case istore_n i =>
    obtain ⟨hn, hd, hX⟩ := cl_of (k := 1) hck rfl
    dsimp only [al_ckx, am_ckx] at hX
    simp only [Bool.and_eq_true, decide_eq_true_eq] at hX
    obtain ⟨hX, hX2⟩ := hX
    dsimp only at hn; subst hn
    dsimp only [al_step] at h
    split at h
    · rename_i x st'
      split at h
      · rename_i l' h1
        exact lv_istore_n hx hb hd hX hl hX2 rfl (fun ls2 hl2 => hκ _ _ _ _ h H locs ls2 _ _ ⟨hH, hJ⟩ hc1 hc2 hL (am_has_more hl2 (am_store1 (adr := adr) (v := .int x) fv0 h1)))
      · cases h
    · cases h
  case astore_n i =>
    obtain ⟨hn, hd, hX⟩ := cl_of (k := 1) hck rfl
    dsimp only [al_ckx, am_ckx] at hX
    simp only [Bool.and_eq_true, decide_eq_true_eq] at hX
    obtain ⟨hX, hX2⟩ := hX
    dsimp only at hn; subst hn
    dsimp only [al_step] at h
    split at h
    · rename_i x st'
      split at h
      · rename_i l' h1
        have hm := am_store1 (adr := adr) (v := .ref x) fv0 h1
        rw [List.map_cons]
        rcases am_vref (adr := adr) fv0 x with hv | ⟨t, hv⟩ <;> rw [hv] at hm ⊢
        · exact lv_astore_nN hx hb hd hX hl hX2 rfl (fun ls2 hl2 => hκ _ _ _ _ h H locs ls2 _ _ ⟨hH, hJ⟩ hc1 hc2 hL (am_has_more hl2 hm))
        · exact lv_astore_n hx hb hd hX hl hX2 rfl (fun ls2 hl2 => hκ _ _ _ _ h H locs ls2 _ _ ⟨hH, hJ⟩ hc1 hc2 hL (am_has_more hl2 hm))
      · cases h
    · cases h
  case iinc i n =>
    obtain ⟨hn, hd, hX⟩ := cl_of (k := 3) hck rfl
    dsimp only [al_ckx, am_ckx] at hX
    simp only [Bool.and_eq_true, decide_eq_true_eq] at hX
    obtain ⟨hX, hX2, hX3⟩ := hX
    dsimp only at hn; subst hn; subst hX; subst hX3
    dsimp only [al_step] at h
    split at h
    · rename_i x h1
      split at h
      · rename_i l' h3
        obtain ⟨kk, hkk⟩ := List.getElem?_of_mem (List.mem_map.mpr ⟨(i, .int x), am_lk_mem h1, rfl⟩ : (i, Value.int x) ∈ am_l adr fv ls)
        exact lv_iinc hx hb hd hl hkk rfl hX2 rfl (fun ls2 hl2 => hκ _ _ _ _ h H locs ls2 _ _ ⟨hH, hJ⟩ hc1 hc2 hL (am_has_more hl2 (am_store1 (adr := adr) (v := .int (x + Int32.ofInt n)) fv0 h3)))
      · cases h
    · cases h
  case dup =>
    obtain ⟨hn, hd, -⟩ := cl_of (k := 1) hck rfl
    dsimp only at hn; subst hn
    dsimp only [al_step] at h
    split at h
    · exact lv_dup hx hb hd (am_v_cat fv0 _) (hκ _ _ _ _ h H locs lsA _ _ ⟨hH, hJ⟩ hc1 hc2 hL hl)
    · cases h
  case goto off =>
    obtain ⟨hn, hd, hX⟩ := cl_of (k := 3) hck rfl
    replace hX := of_decide_eq_true hX
    dsimp only at hn; subst hn
    exact lv_goto hx hb hd hX (hκ _ _ _ _ h H locs lsA _ _ ⟨hH, hJ⟩ hc1 hc2 hL hl)
  case if_icmp cd off =>
    obtain ⟨hn, hd, hX⟩ := cl_of (k := 3) hck rfl
    replace hX := of_decide_eq_true hX
    dsimp only at hn; subst hn
    cases cd <;> dsimp only [al_step] at h <;> first | cases h | skip
    split at h
    · exact lv_icmp_ge hx hb hd hX (fun q => hκ _ _ _ _ ((if_pos q).symm.trans h) H locs lsA _ _ ⟨hH, hJ⟩ hc1 hc2 hL hl) (fun q => hκ _ _ _ _ ((if_neg q).symm.trans h) H locs lsA _ _ ⟨hH, hJ⟩ hc1 hc2 hL hl)
    · cases h
  case getfield i =>
    obtain ⟨hn, hd, hX⟩ := cl_of (k := 3) hck rfl
    dsimp only at hn; subst hn
    dsimp only [al_step] at h
    split at h
    · rename_i a st'
      split at h
      · rename_i cc e1
        split at h
        · rename_i e2
          obtain ⟨rfl, e2⟩ := e2
          split at h
          · rename_i q e3
            dsimp only [al_ckx, am_ckx] at hX
            rw [e2] at hX
            simp only [Bool.and_eq_true, decide_eq_true_eq] at hX
            obtain ⟨hX1, ⟨hX2, hX3⟩, hX4⟩ := hX
            obtain ⟨ha, -, ek⟩ := hlt e1
            have hq := (hJ.2.1 _ (al_rl_mem e3)).2
            have hat := hH.2.2 a (am_l5 ek (by decide))
            rw [am_ce_0 ek] at hat
            have k := hκ _ _ _ _ h H locs lsA _ _ ⟨hH, hJ⟩ hc1 hc2 hL hl
            rw [List.map_cons, hv hq] at k
            rw [List.map_cons, hv ha]
            refine am_get hx hb hX2 hts hown hKN.1 hat (x2 / 10) hX3 (hts _ (p_tf _ (List.mem_of_getElem? hX1))) ?_ hd k
            rw [am_fs_at hX3, hX4, al_Rin e3]
            rfl
          · cases h
        · cases h
      · cases h
    · cases h
  case putfield i =>
    obtain ⟨hn, hd, hX⟩ := cl_of (k := 3) hck rfl
    dsimp only at hn; subst hn
    dsimp only [al_step] at h
    split at h
    · rename_i q a st'
      split at h
      · rename_i cc e1
        split at h
        · rename_i e2
          obtain ⟨rfl, e2, hq⟩ := e2
          dsimp only [al_ckx] at hX
          rw [e2] at hX
          simp only [Bool.and_eq_true, decide_eq_true_eq] at hX
          obtain ⟨hX1, ⟨hX2, hX3, rfl⟩, ⟨hX4, hX5⟩, hX6⟩ := hX
          obtain ⟨ha, -, ek⟩ := hlt e1
          have h50 : (gK (al_g g0 S) a).1 < 50 := am_l5 ek (by decide)
          have hat := hH.2.2 a h50
          rw [am_ce_0 ek] at hat
          rw [List.map_cons, List.map_cons, hv ha, hv hq]
          obtain ⟨n1, n2, -⟩ := al_isr_v hX6 (adr q)
          refine am_putF hx hb hX2 hts hown (hin hX2) hKN.1 hat (x2 / 10) hX3 (hts _ (p_tf _ (List.mem_of_getElem? hX1))) hX5 n1 n2 (by rw [am_fs_len]; exact hX3) hd fun H' j z oq hat' => ?_
          refine hκ _ _ _ _ h H' _ lsA _ _ ⟨al_H_ref hadr hB hJ hH h50 z oq ?_, al_J_ref hJ ha hq⟩ hc1 hc2 (am_locs hL (by rw [hae ha]; omega)) hl
          rw [am_ce_0 (g := al_g g0 (al_ref S a (x2 / 10) q)) ek, al_fs_ref hX3 hX4]
          exact hat'
        · cases h
      · cases h
    · rename_i x a st'
      split at h
      · rename_i cc e1
        split at h
        · rename_i e2
          obtain ⟨rfl, e2⟩ := e2
          dsimp only [al_ckx] at hX
          rw [e2] at hX
          dsimp only [am_ckx] at hX
          rw [e2] at hX
          simp only [Bool.and_eq_true, decide_eq_true_eq] at hX
          obtain ⟨hX1, ⟨hX2, hX3⟩, hX4, hX5⟩ := hX
          obtain ⟨ha, -, ek⟩ := hlt e1
          have h50 : (gK (al_g g0 S) a).1 < 50 := am_l5 ek (by decide)
          have hat := hH.2.2 a h50
          rw [am_ce_0 ek] at hat
          rw [List.map_cons, List.map_cons, hv ha]
          refine am_put hx hb hX2 hts hown hKN.1 hat (x2 / 10) hX3 (hts _ (p_tf _ (List.mem_of_getElem? hX1))) hX5 (v := .int x) (by rw [am_ft0 hX4]; rfl) (by rw [am_ft0 hX4]; rfl) (by rw [am_fs_len]; exact hX3) hd fun H' j z oq hat' => ?_
          refine hκ _ _ _ _ h H' _ lsA _ _ ⟨am_H.set hG hH h50 z oq ?_ (am_ce_wI a _ x), al_J_int hJ ha⟩ hc1 hc2 (am_locs hL (by rw [hae ha]; omega)) hl
          show va_at D am_cls (adr a, am_ce adr cA (al_g g0 S) (wI (al_m S.2.2.2.2) a (x2 / 10) x) a) H'
          rw [am_ce_0 ek, am_fs_setI hX3 (Or.inl hX4)]
          exact hat'
        · cases h
      · cases h
    · cases h
  case iastore =>
    obtain ⟨hn, hd, -⟩ := cl_of (k := 1) hck rfl
    dsimp only at hn; subst hn
    dsimp only [al_step] at h
    split at h
    · rename_i x i a st'
      split at h
      · rename_i n e1
        split at h
        · cases h
        · rename_i hi
          obtain ⟨ha, -, ek⟩ := hlt e1
          have h50 : (gK (al_g g0 S) a).1 < 50 := am_l5 ek (by decide)
          have hat := hH.2.2 a h50
          rw [am_ce_1 ek] at hat
          rw [List.map_cons, List.map_cons, List.map_cons, hv ha]
          refine am_iast hx hb (hKN.2.1 1 .int rfl).1 hat hi hd fun H' z oq hat' => ?_
          refine hκ _ _ _ _ h H' _ lsA _ _ ⟨am_H.set hG hH h50 z oq ?_ (am_ce_wI a _ x), al_J_int hJ ha⟩ hc1 hc2 (am_locs hL (by rw [hae ha]; omega)) hl
          show va_at D am_cls (adr a, am_ce adr cA (al_g g0 S) (wI (al_m S.2.2.2.2) a i.toNatClampNeg x) a) H'
          rw [am_ce_1 ek, am_wI1]
          exact hat'
      · cases h
    · cases h
  case aastore =>
    obtain ⟨hn, hd, -⟩ := cl_of (k := 1) hck rfl
    dsimp only at hn; subst hn
    dsimp only [al_step] at h
    split at h
    · rename_i q i a st'
      split at h
      · rename_i t n e1
        split at h
        · rename_i ci e2
          split at h
          · rename_i e3
            obtain ⟨rfl, hci, hi⟩ := e3
            obtain ⟨ha, ht, ek⟩ := hlt e1
            obtain ⟨hq, -, eq⟩ := hlt e2
            have h50 : (gK (al_g g0 S) a).1 < 50 := by rw [ek]; exact ht
            have hat := hH.2.2 a h50
            rw [am_ce_q ek (by omega)] at hat
            have hqt := hH.2.2 q (am_l5 eq (by decide))
            rw [am_ce_0 eq] at hqt
            rw [List.map_cons, List.map_cons, List.map_cons, hv ha, hv hq]
            obtain ⟨ty, hty, -⟩ := (hJ.1 _ (al_kl_mem e1)).2.2 (by show 4 ≤ 4 + ci; omega)
            have hty' : am_ty (4 + ci) = some (.object (mO ci)) := by
              have hty : am_ty (4 + ci) = some ty := hty
              rcases (show ci = 0 ∨ ci = 1 ∨ ci = 2 ∨ ci = 3 ∨ ci = 4 ∨ ci = 5 ∨ ci = 6 ∨ ci = 7 ∨ ci = 8 ∨ ci = 9 ∨ ci = 10 ∨ ci = 11 ∨ ci = 12 by omega) with rfl | rfl | rfl | rfl | rfl | rfl | rfl | rfl | rfl | rfl | rfl | rfl | rfl <;> first | rfl | cases hty
            refine am_aast hx hb hci hKN.1 (hKN.2.1 _ _ hty').2 hat hqt hi hd fun H' z oq hat' => ?_
            refine hκ _ _ _ _ h H' _ lsA _ _ ⟨al_H_ref hadr hB hJ hH h50 z oq ?_, al_J_ref hJ ha hq⟩ hc1 hc2 (am_locs hL (by rw [hae ha]; omega)) hl
            rw [am_ce_q (g := al_g g0 (al_ref S a i.toNatClampNeg q)) ek (by omega)]
            have hf : (fun j => (gR (al_g g0 (al_ref S a i.toNatClampNeg q)) a j).map adr) = va_up (fun j => (gR (al_g g0 S) a j).map adr) i.toNatClampNeg (some (adr q)) := by
              funext j
              rw [al_R_ref]
              unfold va_up
              by_cases hj : j = i.toNatClampNeg
              · rw [if_pos ⟨rfl, hj⟩, if_pos hj]; rfl
              · rw [if_neg (fun x => hj x.2), if_neg hj]
            rw [hf]
            exact hat'
          · cases h
        · cases h
      · cases h
    · cases h
  case new i =>
    obtain ⟨hn, hd, hX⟩ := cl_of (k := 3) hck rfl
    dsimp only at hn; subst hn
    obtain ⟨hX1, hX2⟩ := of_decide_eq_true hX
    dsimp only [al_step] at h
    obtain ⟨h1, h⟩ := al_bif h
    obtain ⟨r1, r2, r3⟩ := al_rm_iv h1
    have hin1 : Cond.instantiable (mO x1) (am_nf x1) ∈ lw_g := by
      have key : ∀ c : Nat, c < 13 → (c, am_nf c) ∈ ti := by decide +kernel
      exact p_ti (x1, am_nf x1) (key x1 hX2)
    refine am_new hx hb hX2 hts hown (hts _ (p_nw _ (List.mem_of_getElem? hX1))) (hts _ hin1) (hts _ (am_ini _ (by omega))) hKN.1 (fs := am_fs adr (al_g g0 (al_add S (0, x1) (am_nf x1))) (al_m S.2.2.2.2) S.1 x1) (fun j hj => al_fs_new hX2 (fun k => ?_) (al_m_lt hJ.2.2.1 (Nat.le_refl _)).1 (al_m_lt hJ.2.2.1 (Nat.le_refl _)).2 j hj) (by omega) (by omega) hd fun H1 z1 o1 hat => ?_
    · exact al_R_new hB hJ (Nat.le_refl _) (by omega) k
    · have k := hκ _ _ _ _ h H1 locs lsA (cells + 1) (slots + am_nf x1) ⟨al_H_add hadr hB hJ (k := (0, x1)) r3 hH z1 o1 (by rw [am_ce_0 (g := al_g g0 (al_add S (0, x1) (am_nf x1))) (by rw [al_K_add, if_pos rfl])]; exact hat), al_J_add hJ r3 (by show 0 < 50; decide) (fun q => absurd q (by show ¬ 4 ≤ 0; decide))⟩ (by show S.1 + 1 = _; omega) (by show S.2.1 + am_nf x1 = _; omega) hL hl
      rw [List.map_cons, hvn.resolve_right (fun q => q (by omega))] at k
      exact k
  case newarray t =>
    obtain ⟨hn, hd, hX⟩ := cl_of (k := 2) hck rfl
    dsimp only at hn; subst hn
    dsimp only [al_step] at h
    split at h
    · rename_i n st'
      obtain ⟨⟨hn0, hn1⟩, h⟩ := iv_if h
      obtain ⟨h1, h⟩ := al_bif h
      obtain ⟨r1, r2, r3⟩ := al_rm_iv h1
      have hM1 : (al_m S.2.2.2.2).1 S.1 = fun _ => 0 := funext (al_m_lt hJ.2.2.1 (Nat.le_refl _)).1
      have hM2 : (al_m S.2.2.2.2).2 S.1 = fun _ => 0 := funext (al_m_lt hJ.2.2.1 (Nat.le_refl _)).2
      have fin : ∀ (H1 : Heap), x1 < 4 → H1.size = H.size + 1 → (∀ q : Nat, q < H.size → H1[q]? = H[q]?) → va_at D am_cls (H.size, am_ce adr cA (al_g g0 (al_add S (x1, n.toNatClampNeg) n.toNatClampNeg)) (al_m S.2.2.2.2) S.1) H1 → W p l e R s m args below meth c H1 locs (cells + 1) (slots + n.toNatClampNeg) Q (F0 m (pc + 2) lsA (.ref H.size :: st'.map (am_v adr fv))) := by
        intro H1 hx4 z1 o1 hat
        have k := hκ _ _ _ _ h H1 locs lsA (cells + 1) (slots + n.toNatClampNeg) ⟨al_H_add hadr hB hJ (k := (x1, n.toNatClampNeg)) r3 hH z1 o1 hat, al_J_add hJ r3 (by show x1 < 50; omega) (fun q => absurd q (by show ¬ 4 ≤ x1; omega))⟩ (by show S.1 + 1 = _; omega) (by show S.2.1 + n.toNatClampNeg = _; omega) hL hl
        rw [List.map_cons, hvn.resolve_right (fun q => q (by omega))] at k
        exact k
      cases t <;> dsimp only [al_ckx] at hX <;> first | cases hX | (replace hX := of_decide_eq_true hX; subst hX)
      · refine va_newaK (atype := .boolean) hx hb (hts _ sp_aboolean) rfl hd rfl hn0 rfl (by show n.toNatClampNeg * 1 ≤ _; omega) (by omega) (by omega) rfl fun H1 c1 e1 z1 o1 _ hc => ?_
        have hc2 : s.vm.findClass ("[" ++ FieldType.boolean.toString) = some (cA 2) := (hKN.2.1 2 .boolean rfl).2
        cases hc2.symm.trans hc
        refine fin H1 (by decide) z1 o1 ?_
        rw [am_ce_2 (n := n.toNatClampNeg) (by rw [al_K_add, if_pos rfl]), hM1]
        exact e1
      · refine va_newaK (atype := .int) hx hb (hts _ sp_aint) rfl hd rfl hn0 rfl (by show n.toNatClampNeg * 4 ≤ _; omega) (by omega) (by omega) rfl fun H1 c1 e1 z1 o1 _ hc => ?_
        have hc2 : s.vm.findClass ("[" ++ FieldType.int.toString) = some (cA 1) := (hKN.2.1 1 .int rfl).2
        cases hc2.symm.trans hc
        refine fin H1 (by decide) z1 o1 ?_
        rw [am_ce_1 (n := n.toNatClampNeg) (by rw [al_K_add, if_pos rfl]), hM1]
        exact e1
      · refine va_newaK (atype := .long) hx hb (hts _ sp_along) rfl hd rfl hn0 rfl (by show n.toNatClampNeg * 8 ≤ _; omega) (by omega) (by omega) rfl fun H1 c1 e1 z1 o1 _ hc => ?_
        have hc2 : s.vm.findClass ("[" ++ FieldType.long.toString) = some (cA 3) := (hKN.2.1 3 .long rfl).2
        cases hc2.symm.trans hc
        refine fin H1 (by decide) z1 o1 ?_
        rw [am_ce_3 (n := n.toNatClampNeg) (by rw [al_K_add, if_pos rfl]), hM2]
        exact e1
    · cases h
  case anewarray i =>
    obtain ⟨hn, hd, hX⟩ := cl_of (k := 3) hck rfl
    dsimp only at hn; subst hn
    dsimp only [al_ckx] at hX
    simp only [Bool.and_eq_true, decide_eq_true_eq] at hX
    obtain ⟨hX1, hX2⟩ := hX
    dsimp only [al_step] at h
    split at h
    · rename_i n st'
      obtain ⟨⟨hn0, hn1⟩, h⟩ := iv_if h
      obtain ⟨h1, h⟩ := al_bif h
      obtain ⟨r1, r2, r3⟩ := al_rm_iv h1
      have hc5 : x1 - 4 = 1 ∨ x1 - 4 = 5 ∨ x1 - 4 = 6 ∨ x1 - 4 = 7 ∨ x1 - 4 = 8 := by omega
      have hx4 : x1 = 4 + (x1 - 4) := by omega
      have hty := al_tys _ hc5
      rw [← hx4] at hty
      obtain ⟨kA, comp, -, -, -, hf⟩ := (hKN.2.1 _ _ hty).2
      refine am_newq hx hb hown (hts _ (p_nw _ (List.mem_of_getElem? hX1))) (hAO.1 _ hc5) hf hn0 (by omega) (by omega) (by omega) hd fun H1 z1 o1 hat => ?_
      have k := hκ _ _ _ _ h H1 locs lsA (cells + 1) (slots + n.toNatClampNeg) ⟨al_H_add hadr hB hJ (k := (x1, n.toNatClampNeg)) r3 hH z1 o1 ?_, al_J_add hJ r3 (by show x1 < 50; omega) (fun _ => ⟨_, hty, rfl⟩)⟩ (by show S.1 + 1 = _; omega) (by show S.2.1 + n.toNatClampNeg = _; omega) hL hl
      · rw [List.map_cons, hvn.resolve_right (fun q => q (by omega))] at k
        exact k
      · rw [am_ce_q (g := al_g g0 (al_add S (x1, n.toNatClampNeg) n.toNatClampNeg)) (t := x1) (n := n.toNatClampNeg) (by rw [al_K_add, if_pos rfl]) (by omega)]
        have hf : (fun j => (gR (al_g g0 (al_add S (x1, n.toNatClampNeg) n.toNatClampNeg)) S.1 j).map adr) = fun _ => none := by
          funext j
          have e : gR (al_g g0 (al_add S (x1, n.toNatClampNeg) n.toNatClampNeg)) S.1 j = none := al_R_new hB hJ (Nat.le_refl _) (by omega) j
          rw [e]; rfl
        rw [hf]
        exact hat
    · cases h
  case multianewarray i d =>
    obtain ⟨hn, hd, hX⟩ := cl_of (k := 4) hck rfl
    dsimp only at hn; subst hn
    obtain ⟨rfl, rfl, rfl⟩ := of_decide_eq_true hX
    dsimp only [al_step] at h
    split at h
    · rename_i k n st'
      obtain ⟨⟨hn0, hk0, hn1, hk1⟩, h⟩ := iv_if h
      obtain ⟨h1, h⟩ := al_bif h
      obtain ⟨r1, r2, r3⟩ := al_rm_iv h1
      refine hmul hx hb hown (hts _ sp_mul) hAO.2 (hts _ sp_aint) (hKN.2.1 1 .int rfl).2 (hKN.2.1 40 (.array .int) rfl).2 hn0 hk0 hn1 hk1 (by omega) (by omega) hd fun H1 z1 o1 e1 e2 => ?_
      have kk := hκ _ _ _ _ h H1 locs lsA (cells + 1 + n.toNatClampNeg) (slots + n.toNatClampNeg + n.toNatClampNeg * k.toNatClampNeg) ⟨al_H_mul hadr hB hJ (by omega) hH z1 o1 e1 e2, al_J_mul hJ (by omega)⟩ (by show S.1 + 1 + n.toNatClampNeg = _; omega) (by show S.2.1 + n.toNatClampNeg + n.toNatClampNeg * k.toNatClampNeg = _; omega) hL hl
      rw [List.map_cons, hvn.resolve_right (fun q => q (by omega))] at kk
      exact kk
    · cases h
  case return_ =>
    obtain ⟨hn, hd, -⟩ := cl_of (k := 1) hck rfl
    dsimp only at hn; subst hn
    dsimp only [al_step] at h
    split at h
    · exact hEnd _ _ _ _ _ _ _ hd h ⟨hH, hJ⟩ hc1 hc2 hL
    · cases h
  case invokespecial i =>
    obtain ⟨hn, hd, hX⟩ := cl_of (k := 3) hck rfl
    dsimp only at hn; subst hn
    dsimp only [al_ckx] at hX
    dsimp only [al_step] at h
    split at h
    · replace hX : ob[hw]? = some (o, i) := of_decide_eq_true hX
      split at h
      · rename_i a st'
        obtain ⟨h1, h⟩ := al_bif h
        rw [Bool.and_eq_true] at h1
        have hlen : st'.length ≤ 4 := Nat.le_of_ble_eq_true h1.1
        have ha : a < S.1 := Nat.le_of_ble_eq_true h1.2
        have hra := hR 0 hrk
        rw [List.map_cons, hv ha]
        have h8 : ((st'.map (am_v adr fv)).map fun v => v.category).sum ≤ 8 := by have := am_words (st'.map (am_v adr fv)); rw [List.length_map] at this; omega
        refine W.objInit hx hb hown (hts _ (p_ob _ (List.mem_of_getElem? hX))) (hts _ sp_obi) (hts _ sp_obc) rfl (hl.1.trans hml.symm) rfl hd hra.1 (Nat.le_trans (Nat.add_le_add_right (lv_room h8) 12) (Nat.le_trans (by decide : 8 + 12 ≤ 40 + 40 * 0) hra.2)) ?_
        exact hκ _ _ _ _ h H locs lsA _ _ ⟨hH, hJ⟩ hc1 hc2 hL hl
      · cases h
    · rename_i hne
      split at hX
      · exact absurd rfl hne
      · simp only [Bool.and_eq_true, decide_eq_true_eq] at hX
        obtain ⟨hX1, hz, hrk', hnp⟩ := hX
        split at h
        · rename_i a As st' e3
          obtain ⟨h1, h⟩ := al_bif h
          simp only [Bool.and_eq_true] at h1
          obtain ⟨hf1, hf0, hf2, hrm⟩ := h1
          have hlen : st'.length ≤ 4 := Nat.le_of_ble_eq_true hf1
          have ha : a < S.1 := Nat.le_of_ble_eq_true hf0
          have hwd : am_wds (.ref a :: As) ≤ iL x1 := Nat.le_of_ble_eq_true hf2
          obtain ⟨r1, r2, r3⟩ := al_rm_iv hrm
          split at h
          · rename_i S' e4
            obtain ⟨h2, h⟩ := al_bif h
            rw [Bool.and_eq_true] at h2
            have q1 : S'.1 = S.1 + (cz x1).1 := Nat.eq_of_beq_eq_true h2.1
            have q2 : S'.2.1 = S.2.1 + (cz x1).2 := Nat.eq_of_beq_eq_true h2.2
            obtain ⟨t, ht1, ht2, ht3⟩ := am_pop_iv e3
            rw [List.append_nil] at ht3
            have ht4 : t = As.reverse ++ [.ref a] := by
              have := congrArg List.reverse ht3
              rw [List.reverse_reverse, List.reverse_cons] at this
              exact this.symm
            have hM := hΓ x1 (.ref a :: As) S S' hz hrk' hwd e4
            obtain ⟨w1, w2⟩ := al_tz_in hz
            have hra := hR _ hrk'
            have hHs : ∀ q : Nat, q < B → H[q]? = s.heap[q]? := fun q hq => by rw [hH.2.1 q hq, hs3 q hq]
            have hln : As.length = iP x1 := by
              have := congrArg List.length ht4
              rw [ht1, List.length_append, List.length_reverse] at this
              have e : [Value.ref a].length = 1 := rfl
              omega
            have hstk : st.map (am_v adr fv) = (As.map (am_v adr fv)).reverse ++ .ref (adr a) :: st'.map (am_v adr fv) := by
              rw [ht2, ht4, ← hv ha]; simp
            have hLl := al_Lle x1 hz
            have cb : CallB R s args (mO o) i (iN x1) (iB x1) (iL x1) none (iws x1) (irm x1) (cz x1).1 (cz x1).2 (iP x1) :=
              ⟨rfl, rfl, hra.1, by show 8 + (iL x1 + 11) + 40 * iK x1 ≤ R.locals; omega, fun w hw a' U hW => word_at hW (am_good w (al_iws_in hz w hw)) (hts w (al_iws_in hz w hw)), List.mem_cons_self, hts _ w1, hts _ (am_ini _ (by omega)), am_mh _ (by omega), fun sig hs => by have h9 := al_par x1 hz; rw [hs] at h9; exact (Option.some.inj h9).symm, hts _ (p_nl _ (List.mem_of_getElem? hX1))⟩
            refine am_call (rest := st'.map (am_v adr fv)) (W.runI (b := adr a) (As := As.map (am_v adr fv)) (Pc := al_Pc adr fv B H0 D cA g0 (.ref a :: As) S) ⟨hx, hb, hml, hown, hts⟩ hM ⟨cb, rfl, hts _ w2⟩ ⟨fun a U gg mk q => ⟨q.1, q.2.1, q.2.2.1.same rfl, q.2.2.2.moved (Vm.Alike.refl _)⟩, fun U hU hW => ⟨by rw [List.map_cons, hv ha], by rw [hU]; exact ⟨hH, hJ⟩, by rw [hU]; exact (hKN.heap hHs).warm hW, hAO.moved hW.alike⟩⟩ rfl (by rw [List.length_map]; exact hln) hl.1 hstk (lv_room (by have := am_words (st'.map (am_v adr fv)); rw [List.length_map] at this; omega)) hd ⟨by omega, by omega⟩) fun v st0 t' L _ hq hL' => ?_
            obtain ⟨hv', hSt'⟩ := hq
            cases hv'
            exact hκ _ _ _ _ h t'.heap (locs ++ L) lsA _ _ hSt' (by omega) (by omega) (fun q hq => by
              rcases List.mem_append.mp hq with hq | hq
              · exact hL q hq
              · exact hL' q hq) hl
          · cases h
        · cases h
  all_goals (dsimp only [al_step] at h; cases h)
end AlO
