/-! what is known of the graph; rules by which the equations are specialised to it (by program) -/
def am_bro (i : Nat) : Int32 := match i with
  | 0 => -1
  | 1 => 0
  | 2 => 0
  | 3 => 1
  | 4 => 2
  | _ => 4
def st_len (k : Nat) : Nat := match k with
  | 0 => 5
  | 1 => 4
  | 2 => 4
  | 3 => 5
  | 4 => 4
  | 5 => 5
  | 6 => 4
  | 7 => 3
  | 8 => 1
  | 9 => 1
  | 10 => 1
  | _ => 1
def st_byt (k i : Nat) : Int32 := match k with
  | 0 => ([116, 97, 107, 101, 32] : List Int32).getD i 0
  | 1 => ([32, 105, 102, 32] : List Int32).getD i 0
  | 2 => ([115, 97, 105, 100] : List Int32).getD i 0
  | 3 => ([119, 114, 111, 110, 103] : List Int32).getD i 0
  | 4 => ([111, 118, 101, 114] : List Int32).getD i 0
  | 5 => ([116, 117, 114, 110, 115] : List Int32).getD i 0
  | 6 => ([102, 101, 101, 116] : List Int32).getD i 0
  | 7 => ([100, 97, 121] : List Int32).getD i 0
  | 8 => ([61] : List Int32).getD i 0
  | 9 => ([60] : List Int32).getD i 0
  | 10 => ([62] : List Int32).getD i 0
  | _ => ([38] : List Int32).getD i 0
/-- the graph: the objects made; the static row; the strings (their bytes have the numbers 1000100 and on) -/
def GG (g : am_G) : Prop := (∀ (a : Nat) (k : Nat × Nat), al_kl kdl a = some k → gK g a = k) ∧ (∀ a k q : Nat, al_rl rdl a k = some q → gR g a k = some q) ∧ gK g 1000000 = (51, 6) ∧ (∀ i : Nat, gO g 1000000 i = am_bro i) ∧ ∀ k : Nat, k < 12 → gK g (1000001 + k) = (60, 13) ∧ gO g (1000001 + k) 1 = 0 ∧ gR g (1000001 + k) 0 = some (1000100 + k) ∧ gK g (1000100 + k) = (52, st_len k) ∧ ∀ i : Nat, gO g (1000100 + k) i = st_byt k i
def isRt (g : am_G) (a : Nat) : Prop := gK g a = (0, 6) ∧ gR g a 4 = some (a + 1) ∧ gK g (a + 1) = (1, 81)
def isPu (g : am_G) (a : Nat) : Prop := gK g a = (0, 5) ∧ gR g a 1 = some (a + 1) ∧ gK g (a + 1) = (1, 200) ∧ gR g a 2 = some (a + 2) ∧ gK g (a + 2) = (1, 200)
def isRu (g : am_G) (a : Nat) : Prop := gK g a = (0, 7) ∧ gR g a 2 = some (a + 1) ∧ gK g (a + 1) = (1, 3) ∧ gR g a 3 = some (a + 2) ∧ gK g (a + 2) = (1, 3) ∧ gR g a 4 = some (a + 3) ∧ gK g (a + 3) = (1, 3)
def isEx (g : am_G) (a : Nat) : Prop := gK g a = (0, 1) ∧ gR g a 5 = some (a + 1) ∧ isRt g (a + 1)
def isSh (g : am_G) (a : Nat) : Prop := gK g a = (0, 8) ∧ gR g a 2 = some (a + 1) ∧ gK g (a + 1) = (1, 100)
section Cl
variable {β : Type} {r : β} {g : am_G} {M : am_M}
def am_ok (n : Nat) (i : Int32) (A : Option β) : Option β := if i < 0 ∨ n ≤ i.toNatClampNeg then none else A
def okb (x : Int32) (A : Option β) : Option β := if x = 0 ∨ x = 1 then A else none
def fI (M : am_M) (a : Nat) (k : Int) : Int32 := rI M a k.toNat
def fJ (M : am_M) (a : Nat) (k : Int) : Int64 := rJ M a k.toNat
def fW (M : am_M) (a : Nat) (k : Int) (x : Int32) : am_M := wI M a k.toNat x
def fX (M : am_M) (a : Nat) (k : Int) (x : Int64) : am_M := wJ M a k.toNat x
def am_lt (M : am_M) (f : am_M → Option β) : Option β := f M
theorem iv_lt {M : am_M} {f : am_M → Option β} (h : am_lt M f = some r) : f M = some r := h
theorem iv_ok {n : Nat} {i : Int32} {A : Option β} (h : am_ok n i A = some r) : ¬ am_oob i n ∧ A = some r := by
  unfold am_ok at h; split at h
  · cases h
  · exact ⟨by assumption, h⟩
theorem iv_okb {x : Int32} {A : Option β} (h : okb x A = some r) : (x = 0 ∨ x = 1) ∧ A = some r := by
  unfold okb at h; split at h
  · exact ⟨by assumption, h⟩
  · cases h
theorem iv_ite {c : Prop} [Decidable c] {A B : Option β} (h : (if c then A else B) = some r) : (c ∧ A = some r) ∨ (¬ c ∧ B = some r) := by
  split at h
  · exact Or.inl ⟨by assumption, h⟩
  · exact Or.inr ⟨by assumption, h⟩
theorem cl_gI {a c k : Nat} {κ : Int32 → Option β} (h : gK g a = (0, c)) : am_gI g M a c k κ = κ (rI M a k) := if_pos h
theorem cl_gJ {a c k : Nat} {κ : Int64 → Option β} (h : gK g a = (0, c)) : am_gJ g M a c k κ = κ (rJ M a k) := if_pos h
theorem cl_gR {a c k q : Nat} {κ : Nat → Option β} (h : gK g a = (0, c)) (hq : gR g a k = some q) : am_gR g a c k κ = κ q := cl_ib h hq
theorem cl_pI {a c k : Nat} {x : Int32} {κ : am_M → Option β} (h : gK g a = (0, c)) : am_pI g M a c k x κ = κ (wI M a k x) := if_pos h
theorem cl_pZ {a c k : Nat} {x : Int32} {κ : am_M → Option β} (hx : x = 0 ∨ x = 1) (h : gK g a = (0, c)) : am_pZ g M a c k x κ = κ (wI M a k x) := if_pos ⟨h, hx⟩
theorem cl_pJ {a c k : Nat} {x : Int64} {κ : am_M → Option β} (h : gK g a = (0, c)) : am_pJ g M a c k x κ = κ (wJ M a k x) := if_pos h
theorem cl_rc {a c : Nat} {A : Option β} (h : gK g a = (0, c)) : am_rc g a c A = A := if_pos (Or.inl h)
theorem cl_ln {a t n : Nat} {κ : Int32 → Option β} (h : gK g a = (t, n)) (ht : (1 ≤ t ∧ t < 50) ∨ t = 51 ∨ t = 52) : am_ln g a κ = κ (Int32.ofNat n) := by
  unfold am_ln; rw [h]; exact if_pos ht
theorem cl_ia51b {a n : Nat} {i v : Int32} {κ : Int32 → Option β} (hk : gK g a = (51, n)) (hi : ¬ am_oob i n) (ho : gO g a i.toNatClampNeg = v) : am_ia g M a i κ = κ v := by
  rw [cl_ia51 hk hi, ho]
theorem cl_ci {q : Option am_R} {x : Int32} {M' : am_M} {κ : Int32 → am_M → Option β} (h : q = some (some (.int x), M')) : am_ci q κ = κ x M' := by rw [h]; rfl
theorem cl_cj {q : Option am_R} {x : Int64} {M' : am_M} {κ : Int64 → am_M → Option β} (h : q = some (some (.long x), M')) : am_cj q κ = κ x M' := by rw [h]; rfl
theorem cl_cv {q : Option am_R} {M' : am_M} {κ : am_M → Option β} (h : q = some (none, M')) : am_cv q κ = κ M' := by rw [h]; rfl
end Cl
section Gr
variable {g : am_G}
theorem gk_0 (hg : GG g) : gK g 0 = (0, 11) := hg.1 0 _ (by decide +kernel)
theorem gk_1 (hg : GG g) : gK g 1 = (0, 0) := hg.1 1 _ (by decide +kernel)
theorem gk_2 (hg : GG g) : gK g 2 = (1, 24) := hg.1 2 _ (by decide +kernel)
theorem gk_3 (hg : GG g) : gK g 3 = (1, 24) := hg.1 3 _ (by decide +kernel)
theorem gk_4 (hg : GG g) : gK g 4 = (1, 24) := hg.1 4 _ (by decide +kernel)
theorem gk_5 (hg : GG g) : gK g 5 = (1, 40) := hg.1 5 _ (by decide +kernel)
theorem gk_6 (hg : GG g) : gK g 6 = (1, 40) := hg.1 6 _ (by decide +kernel)
theorem gk_7 (hg : GG g) : gK g 7 = (1, 40) := hg.1 7 _ (by decide +kernel)
theorem gk_8 (hg : GG g) : gK g 8 = (1, 80) := hg.1 8 _ (by decide +kernel)
theorem gk_9 (hg : GG g) : gK g 9 = (1, 80) := hg.1 9 _ (by decide +kernel)
theorem gk_10 (hg : GG g) : gK g 10 = (1, 80) := hg.1 10 _ (by decide +kernel)
theorem gk_11 (hg : GG g) : gK g 11 = (1, 8) := hg.1 11 _ (by decide +kernel)
theorem gk_12 (hg : GG g) : gK g 12 = (1, 8) := hg.1 12 _ (by decide +kernel)
theorem gk_13 (hg : GG g) : gK g 13 = (1, 8) := hg.1 13 _ (by decide +kernel)
theorem gk_14 (hg : GG g) : gK g 14 = (1, 72) := hg.1 14 _ (by decide +kernel)
theorem gk_15 (hg : GG g) : gK g 15 = (1, 72) := hg.1 15 _ (by decide +kernel)
theorem gk_16 (hg : GG g) : gK g 16 = (1, 960) := hg.1 16 _ (by decide +kernel)
theorem gk_17 (hg : GG g) : gK g 17 = (1, 24) := hg.1 17 _ (by decide +kernel)
theorem gk_18 (hg : GG g) : gK g 18 = (0, 3) := hg.1 18 _ (by decide +kernel)
theorem gk_19 (hg : GG g) : gK g 19 = (1, 60) := hg.1 19 _ (by decide +kernel)
theorem gk_20 (hg : GG g) : gK g 20 = (1, 60) := hg.1 20 _ (by decide +kernel)
theorem gk_21 (hg : GG g) : gK g 21 = (3, 60) := hg.1 21 _ (by decide +kernel)
theorem gk_22 (hg : GG g) : gK g 22 = (1, 40) := hg.1 22 _ (by decide +kernel)
theorem gk_23 (hg : GG g) : gK g 23 = (1, 40) := hg.1 23 _ (by decide +kernel)
theorem gk_24 (hg : GG g) : gK g 24 = (1, 40) := hg.1 24 _ (by decide +kernel)
theorem gk_25 (hg : GG g) : gK g 25 = (1, 40) := hg.1 25 _ (by decide +kernel)
theorem gk_26 (hg : GG g) : gK g 26 = (1, 40) := hg.1 26 _ (by decide +kernel)
theorem gk_27 (hg : GG g) : gK g 27 = (1, 40) := hg.1 27 _ (by decide +kernel)
theorem gk_28 (hg : GG g) : gK g 28 = (1, 40) := hg.1 28 _ (by decide +kernel)
theorem gk_29 (hg : GG g) : gK g 29 = (1, 40) := hg.1 29 _ (by decide +kernel)
theorem gk_30 (hg : GG g) : gK g 30 = (1, 40) := hg.1 30 _ (by decide +kernel)
theorem gk_31 (hg : GG g) : gK g 31 = (1, 40) := hg.1 31 _ (by decide +kernel)
theorem gk_32 (hg : GG g) : gK g 32 = (0, 2) := hg.1 32 _ (by decide +kernel)
theorem gk_33 (hg : GG g) : gK g 33 = (2, 80) := hg.1 33 _ (by decide +kernel)
theorem gk_34 (hg : GG g) : gK g 34 = (1, 40) := hg.1 34 _ (by decide +kernel)
theorem gk_35 (hg : GG g) : gK g 35 = (2, 6400) := hg.1 35 _ (by decide +kernel)
theorem gk_36 (hg : GG g) : gK g 36 = (1, 200) := hg.1 36 _ (by decide +kernel)
theorem gk_37 (hg : GG g) : gK g 37 = (1, 24) := hg.1 37 _ (by decide +kernel)
theorem gk_38 (hg : GG g) : gK g 38 = (3, 80) := hg.1 38 _ (by decide +kernel)
theorem gk_39 (hg : GG g) : gK g 39 = (3, 80) := hg.1 39 _ (by decide +kernel)
theorem gk_40 (hg : GG g) : gK g 40 = (3, 80) := hg.1 40 _ (by decide +kernel)
theorem gk_41 (hg : GG g) : gK g 41 = (2, 80) := hg.1 41 _ (by decide +kernel)
theorem gk_42 (hg : GG g) : gK g 42 = (0, 4) := hg.1 42 _ (by decide +kernel)
theorem gk_43 (hg : GG g) : gK g 43 = (1, 200) := hg.1 43 _ (by decide +kernel)
theorem gk_44 (hg : GG g) : gK g 44 = (1, 200) := hg.1 44 _ (by decide +kernel)
theorem gk_45 (hg : GG g) : gK g 45 = (1, 6400) := hg.1 45 _ (by decide +kernel)
theorem gk_46 (hg : GG g) : gK g 46 = (40, 10) := hg.1 46 _ (by decide +kernel)
theorem gk_47 (hg : GG g) : gK g 47 = (1, 20) := hg.1 47 _ (by decide +kernel)
theorem gk_48 (hg : GG g) : gK g 48 = (1, 20) := hg.1 48 _ (by decide +kernel)
theorem gk_49 (hg : GG g) : gK g 49 = (1, 20) := hg.1 49 _ (by decide +kernel)
theorem gk_50 (hg : GG g) : gK g 50 = (1, 20) := hg.1 50 _ (by decide +kernel)
theorem gk_51 (hg : GG g) : gK g 51 = (1, 20) := hg.1 51 _ (by decide +kernel)
theorem gk_52 (hg : GG g) : gK g 52 = (1, 20) := hg.1 52 _ (by decide +kernel)
theorem gk_53 (hg : GG g) : gK g 53 = (1, 20) := hg.1 53 _ (by decide +kernel)
theorem gk_54 (hg : GG g) : gK g 54 = (1, 20) := hg.1 54 _ (by decide +kernel)
theorem gk_55 (hg : GG g) : gK g 55 = (1, 20) := hg.1 55 _ (by decide +kernel)
theorem gk_56 (hg : GG g) : gK g 56 = (1, 20) := hg.1 56 _ (by decide +kernel)
theorem gk_57 (hg : GG g) : gK g 57 = (1, 10) := hg.1 57 _ (by decide +kernel)
theorem gk_58 (hg : GG g) : gK g 58 = (1, 4) := hg.1 58 _ (by decide +kernel)
theorem gk_59 (hg : GG g) : gK g 59 = (1, 200) := hg.1 59 _ (by decide +kernel)
theorem gk_60 (hg : GG g) : gK g 60 = (1, 4) := hg.1 60 _ (by decide +kernel)
theorem gk_61 (hg : GG g) : gK g 61 = (0, 10) := hg.1 61 _ (by decide +kernel)
theorem gk_62 (hg : GG g) : gK g 62 = (1, 160) := hg.1 62 _ (by decide +kernel)
theorem gk_63 (hg : GG g) : gK g 63 = (0, 9) := hg.1 63 _ (by decide +kernel)
theorem gk_64 (hg : GG g) : gK g 64 = (1, 20) := hg.1 64 _ (by decide +kernel)
theorem gk_65 (hg : GG g) : gK g 65 = (3, 20) := hg.1 65 _ (by decide +kernel)
theorem gk_66 (hg : GG g) : gK g 66 = (0, 6) := hg.1 66 _ (by decide +kernel)
theorem gk_67 (hg : GG g) : gK g 67 = (1, 81) := hg.1 67 _ (by decide +kernel)
theorem gk_68 (hg : GG g) : gK g 68 = (10, 4) := hg.1 68 _ (by decide +kernel)
theorem gk_69 (hg : GG g) : gK g 69 = (9, 4) := hg.1 69 _ (by decide +kernel)
theorem gk_70 (hg : GG g) : gK g 70 = (0, 6) := hg.1 70 _ (by decide +kernel)
theorem gk_71 (hg : GG g) : gK g 71 = (1, 81) := hg.1 71 _ (by decide +kernel)
theorem gk_72 (hg : GG g) : gK g 72 = (0, 5) := hg.1 72 _ (by decide +kernel)
theorem gk_73 (hg : GG g) : gK g 73 = (1, 200) := hg.1 73 _ (by decide +kernel)
theorem gk_74 (hg : GG g) : gK g 74 = (1, 200) := hg.1 74 _ (by decide +kernel)
theorem gk_75 (hg : GG g) : gK g 75 = (0, 6) := hg.1 75 _ (by decide +kernel)
theorem gk_76 (hg : GG g) : gK g 76 = (1, 81) := hg.1 76 _ (by decide +kernel)
theorem gk_77 (hg : GG g) : gK g 77 = (0, 5) := hg.1 77 _ (by decide +kernel)
theorem gk_78 (hg : GG g) : gK g 78 = (1, 200) := hg.1 78 _ (by decide +kernel)
theorem gk_79 (hg : GG g) : gK g 79 = (1, 200) := hg.1 79 _ (by decide +kernel)
theorem gk_80 (hg : GG g) : gK g 80 = (0, 6) := hg.1 80 _ (by decide +kernel)
theorem gk_81 (hg : GG g) : gK g 81 = (1, 81) := hg.1 81 _ (by decide +kernel)
theorem gk_82 (hg : GG g) : gK g 82 = (0, 5) := hg.1 82 _ (by decide +kernel)
theorem gk_83 (hg : GG g) : gK g 83 = (1, 200) := hg.1 83 _ (by decide +kernel)
theorem gk_84 (hg : GG g) : gK g 84 = (1, 200) := hg.1 84 _ (by decide +kernel)
theorem gk_85 (hg : GG g) : gK g 85 = (0, 6) := hg.1 85 _ (by decide +kernel)
theorem gk_86 (hg : GG g) : gK g 86 = (1, 81) := hg.1 86 _ (by decide +kernel)
theorem gk_87 (hg : GG g) : gK g 87 = (0, 5) := hg.1 87 _ (by decide +kernel)
theorem gk_88 (hg : GG g) : gK g 88 = (1, 200) := hg.1 88 _ (by decide +kernel)
theorem gk_89 (hg : GG g) : gK g 89 = (1, 200) := hg.1 89 _ (by decide +kernel)
theorem gk_90 (hg : GG g) : gK g 90 = (10, 10) := hg.1 90 _ (by decide +kernel)
theorem gk_91 (hg : GG g) : gK g 91 = (0, 6) := hg.1 91 _ (by decide +kernel)
theorem gk_92 (hg : GG g) : gK g 92 = (1, 81) := hg.1 92 _ (by decide +kernel)
theorem gk_93 (hg : GG g) : gK g 93 = (0, 6) := hg.1 93 _ (by decide +kernel)
theorem gk_94 (hg : GG g) : gK g 94 = (1, 81) := hg.1 94 _ (by decide +kernel)
theorem gk_95 (hg : GG g) : gK g 95 = (0, 6) := hg.1 95 _ (by decide +kernel)
theorem gk_96 (hg : GG g) : gK g 96 = (1, 81) := hg.1 96 _ (by decide +kernel)
theorem gk_97 (hg : GG g) : gK g 97 = (0, 6) := hg.1 97 _ (by decide +kernel)
theorem gk_98 (hg : GG g) : gK g 98 = (1, 81) := hg.1 98 _ (by decide +kernel)
theorem gk_99 (hg : GG g) : gK g 99 = (0, 6) := hg.1 99 _ (by decide +kernel)
theorem gk_100 (hg : GG g) : gK g 100 = (1, 81) := hg.1 100 _ (by decide +kernel)
theorem gk_101 (hg : GG g) : gK g 101 = (0, 6) := hg.1 101 _ (by decide +kernel)
theorem gk_102 (hg : GG g) : gK g 102 = (1, 81) := hg.1 102 _ (by decide +kernel)
theorem gk_103 (hg : GG g) : gK g 103 = (0, 6) := hg.1 103 _ (by decide +kernel)
theorem gk_104 (hg : GG g) : gK g 104 = (1, 81) := hg.1 104 _ (by decide +kernel)
theorem gk_105 (hg : GG g) : gK g 105 = (0, 6) := hg.1 105 _ (by decide +kernel)
theorem gk_106 (hg : GG g) : gK g 106 = (1, 81) := hg.1 106 _ (by decide +kernel)
theorem gk_107 (hg : GG g) : gK g 107 = (0, 6) := hg.1 107 _ (by decide +kernel)
theorem gk_108 (hg : GG g) : gK g 108 = (1, 81) := hg.1 108 _ (by decide +kernel)
theorem gk_109 (hg : GG g) : gK g 109 = (0, 6) := hg.1 109 _ (by decide +kernel)
theorem gk_110 (hg : GG g) : gK g 110 = (1, 81) := hg.1 110 _ (by decide +kernel)
theorem gk_111 (hg : GG g) : gK g 111 = (11, 6) := hg.1 111 _ (by decide +kernel)
theorem gk_112 (hg : GG g) : gK g 112 = (0, 7) := hg.1 112 _ (by decide +kernel)
theorem gk_113 (hg : GG g) : gK g 113 = (1, 3) := hg.1 113 _ (by decide +kernel)
theorem gk_114 (hg : GG g) : gK g 114 = (1, 3) := hg.1 114 _ (by decide +kernel)
theorem gk_115 (hg : GG g) : gK g 115 = (1, 3) := hg.1 115 _ (by decide +kernel)
theorem gk_116 (hg : GG g) : gK g 116 = (0, 7) := hg.1 116 _ (by decide +kernel)
theorem gk_117 (hg : GG g) : gK g 117 = (1, 3) := hg.1 117 _ (by decide +kernel)
theorem gk_118 (hg : GG g) : gK g 118 = (1, 3) := hg.1 118 _ (by decide +kernel)
theorem gk_119 (hg : GG g) : gK g 119 = (1, 3) := hg.1 119 _ (by decide +kernel)
theorem gk_120 (hg : GG g) : gK g 120 = (0, 7) := hg.1 120 _ (by decide +kernel)
theorem gk_121 (hg : GG g) : gK g 121 = (1, 3) := hg.1 121 _ (by decide +kernel)
theorem gk_122 (hg : GG g) : gK g 122 = (1, 3) := hg.1 122 _ (by decide +kernel)
theorem gk_123 (hg : GG g) : gK g 123 = (1, 3) := hg.1 123 _ (by decide +kernel)
theorem gk_124 (hg : GG g) : gK g 124 = (0, 7) := hg.1 124 _ (by decide +kernel)
theorem gk_125 (hg : GG g) : gK g 125 = (1, 3) := hg.1 125 _ (by decide +kernel)
theorem gk_126 (hg : GG g) : gK g 126 = (1, 3) := hg.1 126 _ (by decide +kernel)
theorem gk_127 (hg : GG g) : gK g 127 = (1, 3) := hg.1 127 _ (by decide +kernel)
theorem gk_128 (hg : GG g) : gK g 128 = (0, 7) := hg.1 128 _ (by decide +kernel)
theorem gk_129 (hg : GG g) : gK g 129 = (1, 3) := hg.1 129 _ (by decide +kernel)
theorem gk_130 (hg : GG g) : gK g 130 = (1, 3) := hg.1 130 _ (by decide +kernel)
theorem gk_131 (hg : GG g) : gK g 131 = (1, 3) := hg.1 131 _ (by decide +kernel)
theorem gk_132 (hg : GG g) : gK g 132 = (0, 7) := hg.1 132 _ (by decide +kernel)
theorem gk_133 (hg : GG g) : gK g 133 = (1, 3) := hg.1 133 _ (by decide +kernel)
theorem gk_134 (hg : GG g) : gK g 134 = (1, 3) := hg.1 134 _ (by decide +kernel)
theorem gk_135 (hg : GG g) : gK g 135 = (1, 3) := hg.1 135 _ (by decide +kernel)
theorem gk_136 (hg : GG g) : gK g 136 = (5, 24) := hg.1 136 _ (by decide +kernel)
theorem gk_137 (hg : GG g) : gK g 137 = (0, 1) := hg.1 137 _ (by decide +kernel)
theorem gk_138 (hg : GG g) : gK g 138 = (0, 6) := hg.1 138 _ (by decide +kernel)
theorem gk_139 (hg : GG g) : gK g 139 = (1, 81) := hg.1 139 _ (by decide +kernel)
theorem gk_140 (hg : GG g) : gK g 140 = (0, 1) := hg.1 140 _ (by decide +kernel)
theorem gk_141 (hg : GG g) : gK g 141 = (0, 6) := hg.1 141 _ (by decide +kernel)
theorem gk_142 (hg : GG g) : gK g 142 = (1, 81) := hg.1 142 _ (by decide +kernel)
theorem gk_143 (hg : GG g) : gK g 143 = (0, 1) := hg.1 143 _ (by decide +kernel)
theorem gk_144 (hg : GG g) : gK g 144 = (0, 6) := hg.1 144 _ (by decide +kernel)
theorem gk_145 (hg : GG g) : gK g 145 = (1, 81) := hg.1 145 _ (by decide +kernel)
theorem gk_146 (hg : GG g) : gK g 146 = (0, 1) := hg.1 146 _ (by decide +kernel)
theorem gk_147 (hg : GG g) : gK g 147 = (0, 6) := hg.1 147 _ (by decide +kernel)
theorem gk_148 (hg : GG g) : gK g 148 = (1, 81) := hg.1 148 _ (by decide +kernel)
theorem gk_149 (hg : GG g) : gK g 149 = (0, 1) := hg.1 149 _ (by decide +kernel)
theorem gk_150 (hg : GG g) : gK g 150 = (0, 6) := hg.1 150 _ (by decide +kernel)
theorem gk_151 (hg : GG g) : gK g 151 = (1, 81) := hg.1 151 _ (by decide +kernel)
theorem gk_152 (hg : GG g) : gK g 152 = (0, 1) := hg.1 152 _ (by decide +kernel)
theorem gk_153 (hg : GG g) : gK g 153 = (0, 6) := hg.1 153 _ (by decide +kernel)
theorem gk_154 (hg : GG g) : gK g 154 = (1, 81) := hg.1 154 _ (by decide +kernel)
theorem gk_155 (hg : GG g) : gK g 155 = (0, 1) := hg.1 155 _ (by decide +kernel)
theorem gk_156 (hg : GG g) : gK g 156 = (0, 6) := hg.1 156 _ (by decide +kernel)
theorem gk_157 (hg : GG g) : gK g 157 = (1, 81) := hg.1 157 _ (by decide +kernel)
theorem gk_158 (hg : GG g) : gK g 158 = (0, 1) := hg.1 158 _ (by decide +kernel)
theorem gk_159 (hg : GG g) : gK g 159 = (0, 6) := hg.1 159 _ (by decide +kernel)
theorem gk_160 (hg : GG g) : gK g 160 = (1, 81) := hg.1 160 _ (by decide +kernel)
theorem gk_161 (hg : GG g) : gK g 161 = (0, 1) := hg.1 161 _ (by decide +kernel)
theorem gk_162 (hg : GG g) : gK g 162 = (0, 6) := hg.1 162 _ (by decide +kernel)
theorem gk_163 (hg : GG g) : gK g 163 = (1, 81) := hg.1 163 _ (by decide +kernel)
theorem gk_164 (hg : GG g) : gK g 164 = (0, 1) := hg.1 164 _ (by decide +kernel)
theorem gk_165 (hg : GG g) : gK g 165 = (0, 6) := hg.1 165 _ (by decide +kernel)
theorem gk_166 (hg : GG g) : gK g 166 = (1, 81) := hg.1 166 _ (by decide +kernel)
theorem gk_167 (hg : GG g) : gK g 167 = (0, 1) := hg.1 167 _ (by decide +kernel)
theorem gk_168 (hg : GG g) : gK g 168 = (0, 6) := hg.1 168 _ (by decide +kernel)
theorem gk_169 (hg : GG g) : gK g 169 = (1, 81) := hg.1 169 _ (by decide +kernel)
theorem gk_170 (hg : GG g) : gK g 170 = (0, 1) := hg.1 170 _ (by decide +kernel)
theorem gk_171 (hg : GG g) : gK g 171 = (0, 6) := hg.1 171 _ (by decide +kernel)
theorem gk_172 (hg : GG g) : gK g 172 = (1, 81) := hg.1 172 _ (by decide +kernel)
theorem gk_173 (hg : GG g) : gK g 173 = (0, 1) := hg.1 173 _ (by decide +kernel)
theorem gk_174 (hg : GG g) : gK g 174 = (0, 6) := hg.1 174 _ (by decide +kernel)
theorem gk_175 (hg : GG g) : gK g 175 = (1, 81) := hg.1 175 _ (by decide +kernel)
theorem gk_176 (hg : GG g) : gK g 176 = (0, 1) := hg.1 176 _ (by decide +kernel)
theorem gk_177 (hg : GG g) : gK g 177 = (0, 6) := hg.1 177 _ (by decide +kernel)
theorem gk_178 (hg : GG g) : gK g 178 = (1, 81) := hg.1 178 _ (by decide +kernel)
theorem gk_179 (hg : GG g) : gK g 179 = (0, 1) := hg.1 179 _ (by decide +kernel)
theorem gk_180 (hg : GG g) : gK g 180 = (0, 6) := hg.1 180 _ (by decide +kernel)
theorem gk_181 (hg : GG g) : gK g 181 = (1, 81) := hg.1 181 _ (by decide +kernel)
theorem gk_182 (hg : GG g) : gK g 182 = (0, 1) := hg.1 182 _ (by decide +kernel)
theorem gk_183 (hg : GG g) : gK g 183 = (0, 6) := hg.1 183 _ (by decide +kernel)
theorem gk_184 (hg : GG g) : gK g 184 = (1, 81) := hg.1 184 _ (by decide +kernel)
theorem gk_185 (hg : GG g) : gK g 185 = (0, 1) := hg.1 185 _ (by decide +kernel)
theorem gk_186 (hg : GG g) : gK g 186 = (0, 6) := hg.1 186 _ (by decide +kernel)
theorem gk_187 (hg : GG g) : gK g 187 = (1, 81) := hg.1 187 _ (by decide +kernel)
theorem gk_188 (hg : GG g) : gK g 188 = (0, 1) := hg.1 188 _ (by decide +kernel)
theorem gk_189 (hg : GG g) : gK g 189 = (0, 6) := hg.1 189 _ (by decide +kernel)
theorem gk_190 (hg : GG g) : gK g 190 = (1, 81) := hg.1 190 _ (by decide +kernel)
theorem gk_191 (hg : GG g) : gK g 191 = (0, 1) := hg.1 191 _ (by decide +kernel)
theorem gk_192 (hg : GG g) : gK g 192 = (0, 6) := hg.1 192 _ (by decide +kernel)
theorem gk_193 (hg : GG g) : gK g 193 = (1, 81) := hg.1 193 _ (by decide +kernel)
theorem gk_194 (hg : GG g) : gK g 194 = (0, 1) := hg.1 194 _ (by decide +kernel)
theorem gk_195 (hg : GG g) : gK g 195 = (0, 6) := hg.1 195 _ (by decide +kernel)
theorem gk_196 (hg : GG g) : gK g 196 = (1, 81) := hg.1 196 _ (by decide +kernel)
theorem gk_197 (hg : GG g) : gK g 197 = (0, 1) := hg.1 197 _ (by decide +kernel)
theorem gk_198 (hg : GG g) : gK g 198 = (0, 6) := hg.1 198 _ (by decide +kernel)
theorem gk_199 (hg : GG g) : gK g 199 = (1, 81) := hg.1 199 _ (by decide +kernel)
theorem gk_200 (hg : GG g) : gK g 200 = (0, 1) := hg.1 200 _ (by decide +kernel)
theorem gk_201 (hg : GG g) : gK g 201 = (0, 6) := hg.1 201 _ (by decide +kernel)
theorem gk_202 (hg : GG g) : gK g 202 = (1, 81) := hg.1 202 _ (by decide +kernel)
theorem gk_203 (hg : GG g) : gK g 203 = (0, 1) := hg.1 203 _ (by decide +kernel)
theorem gk_204 (hg : GG g) : gK g 204 = (0, 6) := hg.1 204 _ (by decide +kernel)
theorem gk_205 (hg : GG g) : gK g 205 = (1, 81) := hg.1 205 _ (by decide +kernel)
theorem gk_206 (hg : GG g) : gK g 206 = (0, 1) := hg.1 206 _ (by decide +kernel)
theorem gk_207 (hg : GG g) : gK g 207 = (0, 6) := hg.1 207 _ (by decide +kernel)
theorem gk_208 (hg : GG g) : gK g 208 = (1, 81) := hg.1 208 _ (by decide +kernel)
theorem gk_209 (hg : GG g) : gK g 209 = (12, 4) := hg.1 209 _ (by decide +kernel)
theorem gk_210 (hg : GG g) : gK g 210 = (0, 8) := hg.1 210 _ (by decide +kernel)
theorem gk_211 (hg : GG g) : gK g 211 = (1, 100) := hg.1 211 _ (by decide +kernel)
theorem gk_212 (hg : GG g) : gK g 212 = (0, 8) := hg.1 212 _ (by decide +kernel)
theorem gk_213 (hg : GG g) : gK g 213 = (1, 100) := hg.1 213 _ (by decide +kernel)
theorem gk_214 (hg : GG g) : gK g 214 = (0, 8) := hg.1 214 _ (by decide +kernel)
theorem gk_215 (hg : GG g) : gK g 215 = (1, 100) := hg.1 215 _ (by decide +kernel)
theorem gk_216 (hg : GG g) : gK g 216 = (0, 8) := hg.1 216 _ (by decide +kernel)
theorem gk_217 (hg : GG g) : gK g 217 = (1, 100) := hg.1 217 _ (by decide +kernel)
theorem gk_218 (hg : GG g) : gK g 218 = (1, 4) := hg.1 218 _ (by decide +kernel)
theorem gk_219 (hg : GG g) : gK g 219 = (0, 12) := hg.1 219 _ (by decide +kernel)
theorem gk_220 (hg : GG g) : gK g 220 = (1, 24) := hg.1 220 _ (by decide +kernel)
theorem gk_221 (hg : GG g) : gK g 221 = (1, 24) := hg.1 221 _ (by decide +kernel)
theorem gk_222 (hg : GG g) : gK g 222 = (2, 24) := hg.1 222 _ (by decide +kernel)
theorem gk_223 (hg : GG g) : gK g 223 = (1, 40) := hg.1 223 _ (by decide +kernel)
theorem gk_224 (hg : GG g) : gK g 224 = (1, 40) := hg.1 224 _ (by decide +kernel)
theorem gk_225 (hg : GG g) : gK g 225 = (1, 40) := hg.1 225 _ (by decide +kernel)
theorem gk_226 (hg : GG g) : gK g 226 = (1, 40) := hg.1 226 _ (by decide +kernel)
theorem gk_227 (hg : GG g) : gK g 227 = (2, 40) := hg.1 227 _ (by decide +kernel)
theorem gk_228 (hg : GG g) : gK g 228 = (1, 8) := hg.1 228 _ (by decide +kernel)
theorem gk_229 (hg : GG g) : gK g 229 = (1, 8) := hg.1 229 _ (by decide +kernel)
theorem gk_230 (hg : GG g) : gK g 230 = (1, 8) := hg.1 230 _ (by decide +kernel)
theorem gk_231 (hg : GG g) : gK g 231 = (1, 60) := hg.1 231 _ (by decide +kernel)
theorem gk_232 (hg : GG g) : gK g 232 = (3, 60) := hg.1 232 _ (by decide +kernel)
theorem gk_233 (hg : GG g) : gK g 233 = (1, 60) := hg.1 233 _ (by decide +kernel)
theorem gk_234 (hg : GG g) : gK g 234 = (1, 40) := hg.1 234 _ (by decide +kernel)
theorem gk_235 (hg : GG g) : gK g 235 = (1, 40) := hg.1 235 _ (by decide +kernel)
theorem gk_236 (hg : GG g) : gK g 236 = (1, 40) := hg.1 236 _ (by decide +kernel)
theorem gk_237 (hg : GG g) : gK g 237 = (1, 40) := hg.1 237 _ (by decide +kernel)
theorem gk_238 (hg : GG g) : gK g 238 = (1, 40) := hg.1 238 _ (by decide +kernel)
theorem gk_239 (hg : GG g) : gK g 239 = (1, 40) := hg.1 239 _ (by decide +kernel)
theorem gk_240 (hg : GG g) : gK g 240 = (1, 40) := hg.1 240 _ (by decide +kernel)
theorem gk_241 (hg : GG g) : gK g 241 = (1, 40) := hg.1 241 _ (by decide +kernel)
theorem gk_242 (hg : GG g) : gK g 242 = (1, 40) := hg.1 242 _ (by decide +kernel)
theorem gk_243 (hg : GG g) : gK g 243 = (1, 40) := hg.1 243 _ (by decide +kernel)
theorem gk_244 (hg : GG g) : gK g 244 = (1, 72) := hg.1 244 _ (by decide +kernel)
theorem gk_245 (hg : GG g) : gK g 245 = (1, 72) := hg.1 245 _ (by decide +kernel)
theorem gk_246 (hg : GG g) : gK g 246 = (1, 160) := hg.1 246 _ (by decide +kernel)
theorem gk_247 (hg : GG g) : gK g 247 = (1, 10) := hg.1 247 _ (by decide +kernel)
theorem gk_248 (hg : GG g) : gK g 248 = (1, 210) := hg.1 248 _ (by decide +kernel)
theorem gk_249 (hg : GG g) : gK g 249 = (1, 60) := hg.1 249 _ (by decide +kernel)
theorem gk_250 (hg : GG g) : gK g 250 = (1, 4) := hg.1 250 _ (by decide +kernel)
theorem gk_251 (hg : GG g) : gK g 251 = (1, 25600) := hg.1 251 _ (by decide +kernel)
theorem gk_252 (hg : GG g) : gK g 252 = (1, 25600) := hg.1 252 _ (by decide +kernel)
theorem gk_253 (hg : GG g) : gK g 253 = (1, 6) := hg.1 253 _ (by decide +kernel)
theorem gk_254 (hg : GG g) : gK g 254 = (1, 6) := hg.1 254 _ (by decide +kernel)
theorem gk_255 (hg : GG g) : gK g 255 = (1, 18) := hg.1 255 _ (by decide +kernel)
theorem gk_256 (hg : GG g) : gK g 256 = (1, 192) := hg.1 256 _ (by decide +kernel)
theorem gk_257 (hg : GG g) : gK g 257 = (1, 1920) := hg.1 257 _ (by decide +kernel)
theorem gk_258 (hg : GG g) : gK g 258 = (3, 24) := hg.1 258 _ (by decide +kernel)
theorem gk_259 (hg : GG g) : gK g 259 = (1, 4) := hg.1 259 _ (by decide +kernel)
theorem gk_260 (hg : GG g) : gK g 260 = (1, 4) := hg.1 260 _ (by decide +kernel)
theorem gk_261 (hg : GG g) : gK g 261 = (1, 400) := hg.1 261 _ (by decide +kernel)
theorem gk_262 (hg : GG g) : gK g 262 = (3, 80) := hg.1 262 _ (by decide +kernel)
theorem gk_263 (hg : GG g) : gK g 263 = (3, 80) := hg.1 263 _ (by decide +kernel)
theorem gk_264 (hg : GG g) : gK g 264 = (1, 80) := hg.1 264 _ (by decide +kernel)
theorem gk_265 (hg : GG g) : gK g 265 = (1, 80) := hg.1 265 _ (by decide +kernel)
theorem gk_266 (hg : GG g) : gK g 266 = (1, 20) := hg.1 266 _ (by decide +kernel)
theorem gk_267 (hg : GG g) : gK g 267 = (3, 20) := hg.1 267 _ (by decide +kernel)
theorem gk_268 (hg : GG g) : gK g 268 = (1, 21) := hg.1 268 _ (by decide +kernel)
theorem gk_269 (hg : GG g) : gK g 269 = (1, 6400) := hg.1 269 _ (by decide +kernel)
theorem gk_270 (hg : GG g) : gK g 270 = (1, 6400) := hg.1 270 _ (by decide +kernel)
theorem gk_271 (hg : GG g) : gK g 271 = (1, 4) := hg.1 271 _ (by decide +kernel)
theorem gk_272 (hg : GG g) : gK g 272 = (1, 4) := hg.1 272 _ (by decide +kernel)
theorem gk_273 (hg : GG g) : gK g 273 = (1, 4) := hg.1 273 _ (by decide +kernel)
theorem gk_274 (hg : GG g) : gK g 274 = (1, 4) := hg.1 274 _ (by decide +kernel)
theorem gk_275 (hg : GG g) : gK g 275 = (1, 320) := hg.1 275 _ (by decide +kernel)
theorem gk_276 (hg : GG g) : gK g 276 = (3, 6) := hg.1 276 _ (by decide +kernel)
theorem gr_0_0 (hg : GG g) : gR g 0 0 = some 1 := hg.2.1 0 0 _ (by decide +kernel)
theorem gr_0_1 (hg : GG g) : gR g 0 1 = some 18 := hg.2.1 0 1 _ (by decide +kernel)
theorem gr_0_2 (hg : GG g) : gR g 0 2 = some 32 := hg.2.1 0 2 _ (by decide +kernel)
theorem gr_0_3 (hg : GG g) : gR g 0 3 = some 42 := hg.2.1 0 3 _ (by decide +kernel)
theorem gr_0_4 (hg : GG g) : gR g 0 4 = some 61 := hg.2.1 0 4 _ (by decide +kernel)
theorem gr_0_5 (hg : GG g) : gR g 0 5 = some 63 := hg.2.1 0 5 _ (by decide +kernel)
theorem gr_0_6 (hg : GG g) : gR g 0 6 = some 66 := hg.2.1 0 6 _ (by decide +kernel)
theorem gr_0_7 (hg : GG g) : gR g 0 7 = some 68 := hg.2.1 0 7 _ (by decide +kernel)
theorem gr_0_8 (hg : GG g) : gR g 0 8 = some 90 := hg.2.1 0 8 _ (by decide +kernel)
theorem gr_0_10 (hg : GG g) : gR g 0 10 = some 69 := hg.2.1 0 10 _ (by decide +kernel)
theorem gr_0_12 (hg : GG g) : gR g 0 12 = some 111 := hg.2.1 0 12 _ (by decide +kernel)
theorem gr_0_14 (hg : GG g) : gR g 0 14 = some 136 := hg.2.1 0 14 _ (by decide +kernel)
theorem gr_0_16 (hg : GG g) : gR g 0 16 = some 209 := hg.2.1 0 16 _ (by decide +kernel)
theorem gr_0_17 (hg : GG g) : gR g 0 17 = some 218 := hg.2.1 0 17 _ (by decide +kernel)
theorem gr_1_0 (hg : GG g) : gR g 1 0 = some 2 := hg.2.1 1 0 _ (by decide +kernel)
theorem gr_1_1 (hg : GG g) : gR g 1 1 = some 3 := hg.2.1 1 1 _ (by decide +kernel)
theorem gr_1_2 (hg : GG g) : gR g 1 2 = some 4 := hg.2.1 1 2 _ (by decide +kernel)
theorem gr_1_4 (hg : GG g) : gR g 1 4 = some 5 := hg.2.1 1 4 _ (by decide +kernel)
theorem gr_1_5 (hg : GG g) : gR g 1 5 = some 6 := hg.2.1 1 5 _ (by decide +kernel)
theorem gr_1_6 (hg : GG g) : gR g 1 6 = some 7 := hg.2.1 1 6 _ (by decide +kernel)
theorem gr_1_8 (hg : GG g) : gR g 1 8 = some 8 := hg.2.1 1 8 _ (by decide +kernel)
theorem gr_1_9 (hg : GG g) : gR g 1 9 = some 9 := hg.2.1 1 9 _ (by decide +kernel)
theorem gr_1_10 (hg : GG g) : gR g 1 10 = some 10 := hg.2.1 1 10 _ (by decide +kernel)
theorem gr_1_11 (hg : GG g) : gR g 1 11 = some 11 := hg.2.1 1 11 _ (by decide +kernel)
theorem gr_1_12 (hg : GG g) : gR g 1 12 = some 12 := hg.2.1 1 12 _ (by decide +kernel)
theorem gr_1_13 (hg : GG g) : gR g 1 13 = some 13 := hg.2.1 1 13 _ (by decide +kernel)
theorem gr_1_15 (hg : GG g) : gR g 1 15 = some 14 := hg.2.1 1 15 _ (by decide +kernel)
theorem gr_1_16 (hg : GG g) : gR g 1 16 = some 15 := hg.2.1 1 16 _ (by decide +kernel)
theorem gr_1_18 (hg : GG g) : gR g 1 18 = some 16 := hg.2.1 1 18 _ (by decide +kernel)
theorem gr_1_19 (hg : GG g) : gR g 1 19 = some 17 := hg.2.1 1 19 _ (by decide +kernel)
theorem gr_18_1 (hg : GG g) : gR g 18 1 = some 19 := hg.2.1 18 1 _ (by decide +kernel)
theorem gr_18_2 (hg : GG g) : gR g 18 2 = some 20 := hg.2.1 18 2 _ (by decide +kernel)
theorem gr_18_3 (hg : GG g) : gR g 18 3 = some 21 := hg.2.1 18 3 _ (by decide +kernel)
theorem gr_18_5 (hg : GG g) : gR g 18 5 = some 22 := hg.2.1 18 5 _ (by decide +kernel)
theorem gr_18_6 (hg : GG g) : gR g 18 6 = some 23 := hg.2.1 18 6 _ (by decide +kernel)
theorem gr_18_7 (hg : GG g) : gR g 18 7 = some 24 := hg.2.1 18 7 _ (by decide +kernel)
theorem gr_18_8 (hg : GG g) : gR g 18 8 = some 25 := hg.2.1 18 8 _ (by decide +kernel)
theorem gr_18_10 (hg : GG g) : gR g 18 10 = some 26 := hg.2.1 18 10 _ (by decide +kernel)
theorem gr_18_11 (hg : GG g) : gR g 18 11 = some 27 := hg.2.1 18 11 _ (by decide +kernel)
theorem gr_18_12 (hg : GG g) : gR g 18 12 = some 28 := hg.2.1 18 12 _ (by decide +kernel)
theorem gr_18_13 (hg : GG g) : gR g 18 13 = some 29 := hg.2.1 18 13 _ (by decide +kernel)
theorem gr_18_14 (hg : GG g) : gR g 18 14 = some 30 := hg.2.1 18 14 _ (by decide +kernel)
theorem gr_18_15 (hg : GG g) : gR g 18 15 = some 31 := hg.2.1 18 15 _ (by decide +kernel)
theorem gr_32_0 (hg : GG g) : gR g 32 0 = some 1 := hg.2.1 32 0 _ (by decide +kernel)
theorem gr_32_1 (hg : GG g) : gR g 32 1 = some 18 := hg.2.1 32 1 _ (by decide +kernel)
theorem gr_32_2 (hg : GG g) : gR g 32 2 = some 33 := hg.2.1 32 2 _ (by decide +kernel)
theorem gr_32_3 (hg : GG g) : gR g 32 3 = some 34 := hg.2.1 32 3 _ (by decide +kernel)
theorem gr_32_4 (hg : GG g) : gR g 32 4 = some 35 := hg.2.1 32 4 _ (by decide +kernel)
theorem gr_32_5 (hg : GG g) : gR g 32 5 = some 36 := hg.2.1 32 5 _ (by decide +kernel)
theorem gr_32_8 (hg : GG g) : gR g 32 8 = some 37 := hg.2.1 32 8 _ (by decide +kernel)
theorem gr_32_9 (hg : GG g) : gR g 32 9 = some 38 := hg.2.1 32 9 _ (by decide +kernel)
theorem gr_32_10 (hg : GG g) : gR g 32 10 = some 39 := hg.2.1 32 10 _ (by decide +kernel)
theorem gr_32_11 (hg : GG g) : gR g 32 11 = some 40 := hg.2.1 32 11 _ (by decide +kernel)
theorem gr_32_12 (hg : GG g) : gR g 32 12 = some 41 := hg.2.1 32 12 _ (by decide +kernel)
theorem gr_42_0 (hg : GG g) : gR g 42 0 = some 43 := hg.2.1 42 0 _ (by decide +kernel)
theorem gr_42_1 (hg : GG g) : gR g 42 1 = some 44 := hg.2.1 42 1 _ (by decide +kernel)
theorem gr_42_3 (hg : GG g) : gR g 42 3 = some 45 := hg.2.1 42 3 _ (by decide +kernel)
theorem gr_42_4 (hg : GG g) : gR g 42 4 = some 46 := hg.2.1 42 4 _ (by decide +kernel)
theorem gr_42_5 (hg : GG g) : gR g 42 5 = some 57 := hg.2.1 42 5 _ (by decide +kernel)
theorem gr_42_6 (hg : GG g) : gR g 42 6 = some 58 := hg.2.1 42 6 _ (by decide +kernel)
theorem gr_42_8 (hg : GG g) : gR g 42 8 = some 59 := hg.2.1 42 8 _ (by decide +kernel)
theorem gr_42_9 (hg : GG g) : gR g 42 9 = some 60 := hg.2.1 42 9 _ (by decide +kernel)
theorem gr_61_0 (hg : GG g) : gR g 61 0 = some 62 := hg.2.1 61 0 _ (by decide +kernel)
theorem gr_63_3 (hg : GG g) : gR g 63 3 = some 64 := hg.2.1 63 3 _ (by decide +kernel)
theorem gr_63_4 (hg : GG g) : gR g 63 4 = some 65 := hg.2.1 63 4 _ (by decide +kernel)
theorem gr_66_4 (hg : GG g) : gR g 66 4 = some 67 := hg.2.1 66 4 _ (by decide +kernel)
theorem gr_70_4 (hg : GG g) : gR g 70 4 = some 71 := hg.2.1 70 4 _ (by decide +kernel)
theorem gr_72_1 (hg : GG g) : gR g 72 1 = some 73 := hg.2.1 72 1 _ (by decide +kernel)
theorem gr_72_2 (hg : GG g) : gR g 72 2 = some 74 := hg.2.1 72 2 _ (by decide +kernel)
theorem gr_75_4 (hg : GG g) : gR g 75 4 = some 76 := hg.2.1 75 4 _ (by decide +kernel)
theorem gr_77_1 (hg : GG g) : gR g 77 1 = some 78 := hg.2.1 77 1 _ (by decide +kernel)
theorem gr_77_2 (hg : GG g) : gR g 77 2 = some 79 := hg.2.1 77 2 _ (by decide +kernel)
theorem gr_80_4 (hg : GG g) : gR g 80 4 = some 81 := hg.2.1 80 4 _ (by decide +kernel)
theorem gr_82_1 (hg : GG g) : gR g 82 1 = some 83 := hg.2.1 82 1 _ (by decide +kernel)
theorem gr_82_2 (hg : GG g) : gR g 82 2 = some 84 := hg.2.1 82 2 _ (by decide +kernel)
theorem gr_85_4 (hg : GG g) : gR g 85 4 = some 86 := hg.2.1 85 4 _ (by decide +kernel)
theorem gr_87_1 (hg : GG g) : gR g 87 1 = some 88 := hg.2.1 87 1 _ (by decide +kernel)
theorem gr_87_2 (hg : GG g) : gR g 87 2 = some 89 := hg.2.1 87 2 _ (by decide +kernel)
theorem gr_91_4 (hg : GG g) : gR g 91 4 = some 92 := hg.2.1 91 4 _ (by decide +kernel)
theorem gr_93_4 (hg : GG g) : gR g 93 4 = some 94 := hg.2.1 93 4 _ (by decide +kernel)
theorem gr_95_4 (hg : GG g) : gR g 95 4 = some 96 := hg.2.1 95 4 _ (by decide +kernel)
theorem gr_97_4 (hg : GG g) : gR g 97 4 = some 98 := hg.2.1 97 4 _ (by decide +kernel)
theorem gr_99_4 (hg : GG g) : gR g 99 4 = some 100 := hg.2.1 99 4 _ (by decide +kernel)
theorem gr_101_4 (hg : GG g) : gR g 101 4 = some 102 := hg.2.1 101 4 _ (by decide +kernel)
theorem gr_103_4 (hg : GG g) : gR g 103 4 = some 104 := hg.2.1 103 4 _ (by decide +kernel)
theorem gr_105_4 (hg : GG g) : gR g 105 4 = some 106 := hg.2.1 105 4 _ (by decide +kernel)
theorem gr_107_4 (hg : GG g) : gR g 107 4 = some 108 := hg.2.1 107 4 _ (by decide +kernel)
theorem gr_109_4 (hg : GG g) : gR g 109 4 = some 110 := hg.2.1 109 4 _ (by decide +kernel)
theorem gr_112_2 (hg : GG g) : gR g 112 2 = some 113 := hg.2.1 112 2 _ (by decide +kernel)
theorem gr_112_3 (hg : GG g) : gR g 112 3 = some 114 := hg.2.1 112 3 _ (by decide +kernel)
theorem gr_112_4 (hg : GG g) : gR g 112 4 = some 115 := hg.2.1 112 4 _ (by decide +kernel)
theorem gr_116_2 (hg : GG g) : gR g 116 2 = some 117 := hg.2.1 116 2 _ (by decide +kernel)
theorem gr_116_3 (hg : GG g) : gR g 116 3 = some 118 := hg.2.1 116 3 _ (by decide +kernel)
theorem gr_116_4 (hg : GG g) : gR g 116 4 = some 119 := hg.2.1 116 4 _ (by decide +kernel)
theorem gr_120_2 (hg : GG g) : gR g 120 2 = some 121 := hg.2.1 120 2 _ (by decide +kernel)
theorem gr_120_3 (hg : GG g) : gR g 120 3 = some 122 := hg.2.1 120 3 _ (by decide +kernel)
theorem gr_120_4 (hg : GG g) : gR g 120 4 = some 123 := hg.2.1 120 4 _ (by decide +kernel)
theorem gr_124_2 (hg : GG g) : gR g 124 2 = some 125 := hg.2.1 124 2 _ (by decide +kernel)
theorem gr_124_3 (hg : GG g) : gR g 124 3 = some 126 := hg.2.1 124 3 _ (by decide +kernel)
theorem gr_124_4 (hg : GG g) : gR g 124 4 = some 127 := hg.2.1 124 4 _ (by decide +kernel)
theorem gr_128_2 (hg : GG g) : gR g 128 2 = some 129 := hg.2.1 128 2 _ (by decide +kernel)
theorem gr_128_3 (hg : GG g) : gR g 128 3 = some 130 := hg.2.1 128 3 _ (by decide +kernel)
theorem gr_128_4 (hg : GG g) : gR g 128 4 = some 131 := hg.2.1 128 4 _ (by decide +kernel)
theorem gr_132_2 (hg : GG g) : gR g 132 2 = some 133 := hg.2.1 132 2 _ (by decide +kernel)
theorem gr_132_3 (hg : GG g) : gR g 132 3 = some 134 := hg.2.1 132 3 _ (by decide +kernel)
theorem gr_132_4 (hg : GG g) : gR g 132 4 = some 135 := hg.2.1 132 4 _ (by decide +kernel)
theorem gr_137_5 (hg : GG g) : gR g 137 5 = some 138 := hg.2.1 137 5 _ (by decide +kernel)
theorem gr_138_4 (hg : GG g) : gR g 138 4 = some 139 := hg.2.1 138 4 _ (by decide +kernel)
theorem gr_140_5 (hg : GG g) : gR g 140 5 = some 141 := hg.2.1 140 5 _ (by decide +kernel)
theorem gr_141_4 (hg : GG g) : gR g 141 4 = some 142 := hg.2.1 141 4 _ (by decide +kernel)
theorem gr_143_5 (hg : GG g) : gR g 143 5 = some 144 := hg.2.1 143 5 _ (by decide +kernel)
theorem gr_144_4 (hg : GG g) : gR g 144 4 = some 145 := hg.2.1 144 4 _ (by decide +kernel)
theorem gr_146_5 (hg : GG g) : gR g 146 5 = some 147 := hg.2.1 146 5 _ (by decide +kernel)
theorem gr_147_4 (hg : GG g) : gR g 147 4 = some 148 := hg.2.1 147 4 _ (by decide +kernel)
theorem gr_149_5 (hg : GG g) : gR g 149 5 = some 150 := hg.2.1 149 5 _ (by decide +kernel)
theorem gr_150_4 (hg : GG g) : gR g 150 4 = some 151 := hg.2.1 150 4 _ (by decide +kernel)
theorem gr_152_5 (hg : GG g) : gR g 152 5 = some 153 := hg.2.1 152 5 _ (by decide +kernel)
theorem gr_153_4 (hg : GG g) : gR g 153 4 = some 154 := hg.2.1 153 4 _ (by decide +kernel)
theorem gr_155_5 (hg : GG g) : gR g 155 5 = some 156 := hg.2.1 155 5 _ (by decide +kernel)
theorem gr_156_4 (hg : GG g) : gR g 156 4 = some 157 := hg.2.1 156 4 _ (by decide +kernel)
theorem gr_158_5 (hg : GG g) : gR g 158 5 = some 159 := hg.2.1 158 5 _ (by decide +kernel)
theorem gr_159_4 (hg : GG g) : gR g 159 4 = some 160 := hg.2.1 159 4 _ (by decide +kernel)
theorem gr_161_5 (hg : GG g) : gR g 161 5 = some 162 := hg.2.1 161 5 _ (by decide +kernel)
theorem gr_162_4 (hg : GG g) : gR g 162 4 = some 163 := hg.2.1 162 4 _ (by decide +kernel)
theorem gr_164_5 (hg : GG g) : gR g 164 5 = some 165 := hg.2.1 164 5 _ (by decide +kernel)
theorem gr_165_4 (hg : GG g) : gR g 165 4 = some 166 := hg.2.1 165 4 _ (by decide +kernel)
theorem gr_167_5 (hg : GG g) : gR g 167 5 = some 168 := hg.2.1 167 5 _ (by decide +kernel)
theorem gr_168_4 (hg : GG g) : gR g 168 4 = some 169 := hg.2.1 168 4 _ (by decide +kernel)
theorem gr_170_5 (hg : GG g) : gR g 170 5 = some 171 := hg.2.1 170 5 _ (by decide +kernel)
theorem gr_171_4 (hg : GG g) : gR g 171 4 = some 172 := hg.2.1 171 4 _ (by decide +kernel)
theorem gr_173_5 (hg : GG g) : gR g 173 5 = some 174 := hg.2.1 173 5 _ (by decide +kernel)
theorem gr_174_4 (hg : GG g) : gR g 174 4 = some 175 := hg.2.1 174 4 _ (by decide +kernel)
theorem gr_176_5 (hg : GG g) : gR g 176 5 = some 177 := hg.2.1 176 5 _ (by decide +kernel)
theorem gr_177_4 (hg : GG g) : gR g 177 4 = some 178 := hg.2.1 177 4 _ (by decide +kernel)
theorem gr_179_5 (hg : GG g) : gR g 179 5 = some 180 := hg.2.1 179 5 _ (by decide +kernel)
theorem gr_180_4 (hg : GG g) : gR g 180 4 = some 181 := hg.2.1 180 4 _ (by decide +kernel)
theorem gr_182_5 (hg : GG g) : gR g 182 5 = some 183 := hg.2.1 182 5 _ (by decide +kernel)
theorem gr_183_4 (hg : GG g) : gR g 183 4 = some 184 := hg.2.1 183 4 _ (by decide +kernel)
theorem gr_185_5 (hg : GG g) : gR g 185 5 = some 186 := hg.2.1 185 5 _ (by decide +kernel)
theorem gr_186_4 (hg : GG g) : gR g 186 4 = some 187 := hg.2.1 186 4 _ (by decide +kernel)
theorem gr_188_5 (hg : GG g) : gR g 188 5 = some 189 := hg.2.1 188 5 _ (by decide +kernel)
theorem gr_189_4 (hg : GG g) : gR g 189 4 = some 190 := hg.2.1 189 4 _ (by decide +kernel)
theorem gr_191_5 (hg : GG g) : gR g 191 5 = some 192 := hg.2.1 191 5 _ (by decide +kernel)
theorem gr_192_4 (hg : GG g) : gR g 192 4 = some 193 := hg.2.1 192 4 _ (by decide +kernel)
theorem gr_194_5 (hg : GG g) : gR g 194 5 = some 195 := hg.2.1 194 5 _ (by decide +kernel)
theorem gr_195_4 (hg : GG g) : gR g 195 4 = some 196 := hg.2.1 195 4 _ (by decide +kernel)
theorem gr_197_5 (hg : GG g) : gR g 197 5 = some 198 := hg.2.1 197 5 _ (by decide +kernel)
theorem gr_198_4 (hg : GG g) : gR g 198 4 = some 199 := hg.2.1 198 4 _ (by decide +kernel)
theorem gr_200_5 (hg : GG g) : gR g 200 5 = some 201 := hg.2.1 200 5 _ (by decide +kernel)
theorem gr_201_4 (hg : GG g) : gR g 201 4 = some 202 := hg.2.1 201 4 _ (by decide +kernel)
theorem gr_203_5 (hg : GG g) : gR g 203 5 = some 204 := hg.2.1 203 5 _ (by decide +kernel)
theorem gr_204_4 (hg : GG g) : gR g 204 4 = some 205 := hg.2.1 204 4 _ (by decide +kernel)
theorem gr_206_5 (hg : GG g) : gR g 206 5 = some 207 := hg.2.1 206 5 _ (by decide +kernel)
theorem gr_207_4 (hg : GG g) : gR g 207 4 = some 208 := hg.2.1 207 4 _ (by decide +kernel)
theorem gr_210_2 (hg : GG g) : gR g 210 2 = some 211 := hg.2.1 210 2 _ (by decide +kernel)
theorem gr_212_2 (hg : GG g) : gR g 212 2 = some 213 := hg.2.1 212 2 _ (by decide +kernel)
theorem gr_214_2 (hg : GG g) : gR g 214 2 = some 215 := hg.2.1 214 2 _ (by decide +kernel)
theorem gr_216_2 (hg : GG g) : gR g 216 2 = some 217 := hg.2.1 216 2 _ (by decide +kernel)
theorem gr_219_1 (hg : GG g) : gR g 219 1 = some 220 := hg.2.1 219 1 _ (by decide +kernel)
theorem gr_219_2 (hg : GG g) : gR g 219 2 = some 221 := hg.2.1 219 2 _ (by decide +kernel)
theorem gr_219_3 (hg : GG g) : gR g 219 3 = some 222 := hg.2.1 219 3 _ (by decide +kernel)
theorem gr_219_5 (hg : GG g) : gR g 219 5 = some 223 := hg.2.1 219 5 _ (by decide +kernel)
theorem gr_219_6 (hg : GG g) : gR g 219 6 = some 224 := hg.2.1 219 6 _ (by decide +kernel)
theorem gr_219_7 (hg : GG g) : gR g 219 7 = some 225 := hg.2.1 219 7 _ (by decide +kernel)
theorem gr_219_8 (hg : GG g) : gR g 219 8 = some 226 := hg.2.1 219 8 _ (by decide +kernel)
theorem gr_219_9 (hg : GG g) : gR g 219 9 = some 227 := hg.2.1 219 9 _ (by decide +kernel)
theorem gr_219_11 (hg : GG g) : gR g 219 11 = some 228 := hg.2.1 219 11 _ (by decide +kernel)
theorem gr_219_12 (hg : GG g) : gR g 219 12 = some 229 := hg.2.1 219 12 _ (by decide +kernel)
theorem gr_219_13 (hg : GG g) : gR g 219 13 = some 230 := hg.2.1 219 13 _ (by decide +kernel)
theorem gr_219_16 (hg : GG g) : gR g 219 16 = some 231 := hg.2.1 219 16 _ (by decide +kernel)
theorem gr_219_17 (hg : GG g) : gR g 219 17 = some 232 := hg.2.1 219 17 _ (by decide +kernel)
theorem gr_219_18 (hg : GG g) : gR g 219 18 = some 233 := hg.2.1 219 18 _ (by decide +kernel)
theorem gr_219_20 (hg : GG g) : gR g 219 20 = some 234 := hg.2.1 219 20 _ (by decide +kernel)
theorem gr_219_21 (hg : GG g) : gR g 219 21 = some 235 := hg.2.1 219 21 _ (by decide +kernel)
theorem gr_219_22 (hg : GG g) : gR g 219 22 = some 236 := hg.2.1 219 22 _ (by decide +kernel)
theorem gr_219_23 (hg : GG g) : gR g 219 23 = some 237 := hg.2.1 219 23 _ (by decide +kernel)
theorem gr_219_25 (hg : GG g) : gR g 219 25 = some 238 := hg.2.1 219 25 _ (by decide +kernel)
theorem gr_219_26 (hg : GG g) : gR g 219 26 = some 239 := hg.2.1 219 26 _ (by decide +kernel)
theorem gr_219_27 (hg : GG g) : gR g 219 27 = some 240 := hg.2.1 219 27 _ (by decide +kernel)
theorem gr_219_28 (hg : GG g) : gR g 219 28 = some 241 := hg.2.1 219 28 _ (by decide +kernel)
theorem gr_219_29 (hg : GG g) : gR g 219 29 = some 242 := hg.2.1 219 29 _ (by decide +kernel)
theorem gr_219_30 (hg : GG g) : gR g 219 30 = some 243 := hg.2.1 219 30 _ (by decide +kernel)
theorem gr_219_32 (hg : GG g) : gR g 219 32 = some 244 := hg.2.1 219 32 _ (by decide +kernel)
theorem gr_219_33 (hg : GG g) : gR g 219 33 = some 245 := hg.2.1 219 33 _ (by decide +kernel)
theorem gr_219_35 (hg : GG g) : gR g 219 35 = some 246 := hg.2.1 219 35 _ (by decide +kernel)
theorem gr_219_38 (hg : GG g) : gR g 219 38 = some 247 := hg.2.1 219 38 _ (by decide +kernel)
theorem gr_219_39 (hg : GG g) : gR g 219 39 = some 248 := hg.2.1 219 39 _ (by decide +kernel)
theorem gr_219_40 (hg : GG g) : gR g 219 40 = some 249 := hg.2.1 219 40 _ (by decide +kernel)
theorem gr_219_42 (hg : GG g) : gR g 219 42 = some 250 := hg.2.1 219 42 _ (by decide +kernel)
theorem gr_219_43 (hg : GG g) : gR g 219 43 = some 251 := hg.2.1 219 43 _ (by decide +kernel)
theorem gr_219_44 (hg : GG g) : gR g 219 44 = some 252 := hg.2.1 219 44 _ (by decide +kernel)
theorem gr_219_46 (hg : GG g) : gR g 219 46 = some 253 := hg.2.1 219 46 _ (by decide +kernel)
theorem gr_219_47 (hg : GG g) : gR g 219 47 = some 254 := hg.2.1 219 47 _ (by decide +kernel)
theorem gr_219_48 (hg : GG g) : gR g 219 48 = some 255 := hg.2.1 219 48 _ (by decide +kernel)
theorem gr_219_50 (hg : GG g) : gR g 219 50 = some 256 := hg.2.1 219 50 _ (by decide +kernel)
theorem gr_219_51 (hg : GG g) : gR g 219 51 = some 257 := hg.2.1 219 51 _ (by decide +kernel)
theorem gr_219_52 (hg : GG g) : gR g 219 52 = some 258 := hg.2.1 219 52 _ (by decide +kernel)
theorem gr_219_53 (hg : GG g) : gR g 219 53 = some 259 := hg.2.1 219 53 _ (by decide +kernel)
theorem gr_219_54 (hg : GG g) : gR g 219 54 = some 260 := hg.2.1 219 54 _ (by decide +kernel)
theorem gr_219_55 (hg : GG g) : gR g 219 55 = some 261 := hg.2.1 219 55 _ (by decide +kernel)
theorem gr_219_61 (hg : GG g) : gR g 219 61 = some 262 := hg.2.1 219 61 _ (by decide +kernel)
theorem gr_219_62 (hg : GG g) : gR g 219 62 = some 263 := hg.2.1 219 62 _ (by decide +kernel)
theorem gr_219_63 (hg : GG g) : gR g 219 63 = some 264 := hg.2.1 219 63 _ (by decide +kernel)
theorem gr_219_71 (hg : GG g) : gR g 219 71 = some 265 := hg.2.1 219 71 _ (by decide +kernel)
theorem gr_219_79 (hg : GG g) : gR g 219 79 = some 266 := hg.2.1 219 79 _ (by decide +kernel)
theorem gr_219_80 (hg : GG g) : gR g 219 80 = some 267 := hg.2.1 219 80 _ (by decide +kernel)
theorem gr_219_83 (hg : GG g) : gR g 219 83 = some 268 := hg.2.1 219 83 _ (by decide +kernel)
theorem gr_219_84 (hg : GG g) : gR g 219 84 = some 269 := hg.2.1 219 84 _ (by decide +kernel)
theorem gr_219_85 (hg : GG g) : gR g 219 85 = some 270 := hg.2.1 219 85 _ (by decide +kernel)
theorem gr_219_86 (hg : GG g) : gR g 219 86 = some 271 := hg.2.1 219 86 _ (by decide +kernel)
theorem gr_219_87 (hg : GG g) : gR g 219 87 = some 272 := hg.2.1 219 87 _ (by decide +kernel)
theorem gr_219_88 (hg : GG g) : gR g 219 88 = some 273 := hg.2.1 219 88 _ (by decide +kernel)
theorem gr_219_90 (hg : GG g) : gR g 219 90 = some 274 := hg.2.1 219 90 _ (by decide +kernel)
theorem gr_219_91 (hg : GG g) : gR g 219 91 = some 275 := hg.2.1 219 91 _ (by decide +kernel)
theorem gr_219_93 (hg : GG g) : gR g 219 93 = some 276 := hg.2.1 219 93 _ (by decide +kernel)
theorem gq_of (hg : GG g) {b s n a : Nat} (h : (List.range n).all (fun j => decide (al_rl rdl a j = some (b + s * j))) = true) {i : Int32} (hi : ¬ am_oob i n) : gR g a i.toNatClampNeg = some (b + s * i.toNatClampNeg) :=
  hg.2.1 _ _ _ (of_decide_eq_true (List.all_eq_true.mp h _ (List.mem_range.mpr (Nat.not_le.mp fun q => hi (Or.inr q)))))
theorem go_of {P : Nat → Prop} {n : Nat} {i : Int32} (h : ∀ j : Nat, j < n → P j) (hi : ¬ am_oob i n) : P i.toNatClampNeg := h _ (Nat.not_le.mp fun q => hi (Or.inr q))
theorem rt_66 (hg : GG g) : isRt g 66 := ⟨hg.1 66 _ (by decide +kernel), hg.2.1 66 4 _ (by decide +kernel), hg.1 (66 + 1) _ (by decide +kernel)⟩
theorem gq_46 (hg : GG g) {i : Int32} (hi : ¬ am_oob i 10) : gR g 46 i.toNatClampNeg = some (47 + 1 * i.toNatClampNeg) := gq_of hg (by decide +kernel) hi
theorem gj_46 (hg : GG g) : ∀ j : Nat, j < 10 → gK g (47 + 1 * j) = (1, 20)
  | 0, _ => hg.1 47 _ (by decide +kernel)
  | 1, _ => hg.1 48 _ (by decide +kernel)
  | 2, _ => hg.1 49 _ (by decide +kernel)
  | 3, _ => hg.1 50 _ (by decide +kernel)
  | 4, _ => hg.1 51 _ (by decide +kernel)
  | 5, _ => hg.1 52 _ (by decide +kernel)
  | 6, _ => hg.1 53 _ (by decide +kernel)
  | 7, _ => hg.1 54 _ (by decide +kernel)
  | 8, _ => hg.1 55 _ (by decide +kernel)
  | 9, _ => hg.1 56 _ (by decide +kernel)
  | j + 10, h => absurd h (by omega)
theorem go_46 (hg : GG g) {i : Int32} (hi : ¬ am_oob i 10) : gK g (47 + 1 * i.toNatClampNeg) = (1, 20) := go_of (gj_46 hg) hi
theorem gq_68 (hg : GG g) {i : Int32} (hi : ¬ am_oob i 4) : gR g 68 i.toNatClampNeg = some (70 + 5 * i.toNatClampNeg) := gq_of hg (by decide +kernel) hi
theorem gj_68 (hg : GG g) : ∀ j : Nat, j < 4 → isRt g (70 + 5 * j)
  | 0, _ => ⟨hg.1 70 _ (by decide +kernel), hg.2.1 70 4 _ (by decide +kernel), hg.1 (70 + 1) _ (by decide +kernel)⟩
  | 1, _ => ⟨hg.1 75 _ (by decide +kernel), hg.2.1 75 4 _ (by decide +kernel), hg.1 (75 + 1) _ (by decide +kernel)⟩
  | 2, _ => ⟨hg.1 80 _ (by decide +kernel), hg.2.1 80 4 _ (by decide +kernel), hg.1 (80 + 1) _ (by decide +kernel)⟩
  | 3, _ => ⟨hg.1 85 _ (by decide +kernel), hg.2.1 85 4 _ (by decide +kernel), hg.1 (85 + 1) _ (by decide +kernel)⟩
  | j + 4, h => absurd h (by omega)
theorem go_68 (hg : GG g) {i : Int32} (hi : ¬ am_oob i 4) : isRt g (70 + 5 * i.toNatClampNeg) := go_of (gj_68 hg) hi
theorem gq_69 (hg : GG g) {i : Int32} (hi : ¬ am_oob i 4) : gR g 69 i.toNatClampNeg = some (72 + 5 * i.toNatClampNeg) := gq_of hg (by decide +kernel) hi
theorem gj_69 (hg : GG g) : ∀ j : Nat, j < 4 → isPu g (72 + 5 * j)
  | 0, _ => ⟨hg.1 72 _ (by decide +kernel), hg.2.1 72 1 _ (by decide +kernel), hg.1 (72 + 1) _ (by decide +kernel), hg.2.1 72 2 _ (by decide +kernel), hg.1 (72 + 2) _ (by decide +kernel)⟩
  | 1, _ => ⟨hg.1 77 _ (by decide +kernel), hg.2.1 77 1 _ (by decide +kernel), hg.1 (77 + 1) _ (by decide +kernel), hg.2.1 77 2 _ (by decide +kernel), hg.1 (77 + 2) _ (by decide +kernel)⟩
  | 2, _ => ⟨hg.1 82 _ (by decide +kernel), hg.2.1 82 1 _ (by decide +kernel), hg.1 (82 + 1) _ (by decide +kernel), hg.2.1 82 2 _ (by decide +kernel), hg.1 (82 + 2) _ (by decide +kernel)⟩
  | 3, _ => ⟨hg.1 87 _ (by decide +kernel), hg.2.1 87 1 _ (by decide +kernel), hg.1 (87 + 1) _ (by decide +kernel), hg.2.1 87 2 _ (by decide +kernel), hg.1 (87 + 2) _ (by decide +kernel)⟩
  | j + 4, h => absurd h (by omega)
theorem go_69 (hg : GG g) {i : Int32} (hi : ¬ am_oob i 4) : isPu g (72 + 5 * i.toNatClampNeg) := go_of (gj_69 hg) hi
theorem gq_90 (hg : GG g) {i : Int32} (hi : ¬ am_oob i 10) : gR g 90 i.toNatClampNeg = some (91 + 2 * i.toNatClampNeg) := gq_of hg (by decide +kernel) hi
theorem gj_90 (hg : GG g) : ∀ j : Nat, j < 10 → isRt g (91 + 2 * j)
  | 0, _ => ⟨hg.1 91 _ (by decide +kernel), hg.2.1 91 4 _ (by decide +kernel), hg.1 (91 + 1) _ (by decide +kernel)⟩
  | 1, _ => ⟨hg.1 93 _ (by decide +kernel), hg.2.1 93 4 _ (by decide +kernel), hg.1 (93 + 1) _ (by decide +kernel)⟩
  | 2, _ => ⟨hg.1 95 _ (by decide +kernel), hg.2.1 95 4 _ (by decide +kernel), hg.1 (95 + 1) _ (by decide +kernel)⟩
  | 3, _ => ⟨hg.1 97 _ (by decide +kernel), hg.2.1 97 4 _ (by decide +kernel), hg.1 (97 + 1) _ (by decide +kernel)⟩
  | 4, _ => ⟨hg.1 99 _ (by decide +kernel), hg.2.1 99 4 _ (by decide +kernel), hg.1 (99 + 1) _ (by decide +kernel)⟩
  | 5, _ => ⟨hg.1 101 _ (by decide +kernel), hg.2.1 101 4 _ (by decide +kernel), hg.1 (101 + 1) _ (by decide +kernel)⟩
  | 6, _ => ⟨hg.1 103 _ (by decide +kernel), hg.2.1 103 4 _ (by decide +kernel), hg.1 (103 + 1) _ (by decide +kernel)⟩
  | 7, _ => ⟨hg.1 105 _ (by decide +kernel), hg.2.1 105 4 _ (by decide +kernel), hg.1 (105 + 1) _ (by decide +kernel)⟩
  | 8, _ => ⟨hg.1 107 _ (by decide +kernel), hg.2.1 107 4 _ (by decide +kernel), hg.1 (107 + 1) _ (by decide +kernel)⟩
  | 9, _ => ⟨hg.1 109 _ (by decide +kernel), hg.2.1 109 4 _ (by decide +kernel), hg.1 (109 + 1) _ (by decide +kernel)⟩
  | j + 10, h => absurd h (by omega)
theorem go_90 (hg : GG g) {i : Int32} (hi : ¬ am_oob i 10) : isRt g (91 + 2 * i.toNatClampNeg) := go_of (gj_90 hg) hi
theorem gq_111 (hg : GG g) {i : Int32} (hi : ¬ am_oob i 6) : gR g 111 i.toNatClampNeg = some (112 + 4 * i.toNatClampNeg) := gq_of hg (by decide +kernel) hi
theorem gj_111 (hg : GG g) : ∀ j : Nat, j < 6 → isRu g (112 + 4 * j)
  | 0, _ => ⟨hg.1 112 _ (by decide +kernel), hg.2.1 112 2 _ (by decide +kernel), hg.1 (112 + 1) _ (by decide +kernel), hg.2.1 112 3 _ (by decide +kernel), hg.1 (112 + 2) _ (by decide +kernel), hg.2.1 112 4 _ (by decide +kernel), hg.1 (112 + 3) _ (by decide +kernel)⟩
  | 1, _ => ⟨hg.1 116 _ (by decide +kernel), hg.2.1 116 2 _ (by decide +kernel), hg.1 (116 + 1) _ (by decide +kernel), hg.2.1 116 3 _ (by decide +kernel), hg.1 (116 + 2) _ (by decide +kernel), hg.2.1 116 4 _ (by decide +kernel), hg.1 (116 + 3) _ (by decide +kernel)⟩
  | 2, _ => ⟨hg.1 120 _ (by decide +kernel), hg.2.1 120 2 _ (by decide +kernel), hg.1 (120 + 1) _ (by decide +kernel), hg.2.1 120 3 _ (by decide +kernel), hg.1 (120 + 2) _ (by decide +kernel), hg.2.1 120 4 _ (by decide +kernel), hg.1 (120 + 3) _ (by decide +kernel)⟩
  | 3, _ => ⟨hg.1 124 _ (by decide +kernel), hg.2.1 124 2 _ (by decide +kernel), hg.1 (124 + 1) _ (by decide +kernel), hg.2.1 124 3 _ (by decide +kernel), hg.1 (124 + 2) _ (by decide +kernel), hg.2.1 124 4 _ (by decide +kernel), hg.1 (124 + 3) _ (by decide +kernel)⟩
  | 4, _ => ⟨hg.1 128 _ (by decide +kernel), hg.2.1 128 2 _ (by decide +kernel), hg.1 (128 + 1) _ (by decide +kernel), hg.2.1 128 3 _ (by decide +kernel), hg.1 (128 + 2) _ (by decide +kernel), hg.2.1 128 4 _ (by decide +kernel), hg.1 (128 + 3) _ (by decide +kernel)⟩
  | 5, _ => ⟨hg.1 132 _ (by decide +kernel), hg.2.1 132 2 _ (by decide +kernel), hg.1 (132 + 1) _ (by decide +kernel), hg.2.1 132 3 _ (by decide +kernel), hg.1 (132 + 2) _ (by decide +kernel), hg.2.1 132 4 _ (by decide +kernel), hg.1 (132 + 3) _ (by decide +kernel)⟩
  | j + 6, h => absurd h (by omega)
theorem go_111 (hg : GG g) {i : Int32} (hi : ¬ am_oob i 6) : isRu g (112 + 4 * i.toNatClampNeg) := go_of (gj_111 hg) hi
theorem gq_136 (hg : GG g) {i : Int32} (hi : ¬ am_oob i 24) : gR g 136 i.toNatClampNeg = some (137 + 3 * i.toNatClampNeg) := gq_of hg (by decide +kernel) hi
theorem gj_136 (hg : GG g) : ∀ j : Nat, j < 24 → isEx g (137 + 3 * j)
  | 0, _ => ⟨hg.1 137 _ (by decide +kernel), hg.2.1 137 5 _ (by decide +kernel), hg.1 (137 + 1) _ (by decide +kernel), hg.2.1 (137 + 1) 4 _ (by decide +kernel), hg.1 (137 + 1 + 1) _ (by decide +kernel)⟩
  | 1, _ => ⟨hg.1 140 _ (by decide +kernel), hg.2.1 140 5 _ (by decide +kernel), hg.1 (140 + 1) _ (by decide +kernel), hg.2.1 (140 + 1) 4 _ (by decide +kernel), hg.1 (140 + 1 + 1) _ (by decide +kernel)⟩
  | 2, _ => ⟨hg.1 143 _ (by decide +kernel), hg.2.1 143 5 _ (by decide +kernel), hg.1 (143 + 1) _ (by decide +kernel), hg.2.1 (143 + 1) 4 _ (by decide +kernel), hg.1 (143 + 1 + 1) _ (by decide +kernel)⟩
  | 3, _ => ⟨hg.1 146 _ (by decide +kernel), hg.2.1 146 5 _ (by decide +kernel), hg.1 (146 + 1) _ (by decide +kernel), hg.2.1 (146 + 1) 4 _ (by decide +kernel), hg.1 (146 + 1 + 1) _ (by decide +kernel)⟩
  | 4, _ => ⟨hg.1 149 _ (by decide +kernel), hg.2.1 149 5 _ (by decide +kernel), hg.1 (149 + 1) _ (by decide +kernel), hg.2.1 (149 + 1) 4 _ (by decide +kernel), hg.1 (149 + 1 + 1) _ (by decide +kernel)⟩
  | 5, _ => ⟨hg.1 152 _ (by decide +kernel), hg.2.1 152 5 _ (by decide +kernel), hg.1 (152 + 1) _ (by decide +kernel), hg.2.1 (152 + 1) 4 _ (by decide +kernel), hg.1 (152 + 1 + 1) _ (by decide +kernel)⟩
  | 6, _ => ⟨hg.1 155 _ (by decide +kernel), hg.2.1 155 5 _ (by decide +kernel), hg.1 (155 + 1) _ (by decide +kernel), hg.2.1 (155 + 1) 4 _ (by decide +kernel), hg.1 (155 + 1 + 1) _ (by decide +kernel)⟩
  | 7, _ => ⟨hg.1 158 _ (by decide +kernel), hg.2.1 158 5 _ (by decide +kernel), hg.1 (158 + 1) _ (by decide +kernel), hg.2.1 (158 + 1) 4 _ (by decide +kernel), hg.1 (158 + 1 + 1) _ (by decide +kernel)⟩
  | 8, _ => ⟨hg.1 161 _ (by decide +kernel), hg.2.1 161 5 _ (by decide +kernel), hg.1 (161 + 1) _ (by decide +kernel), hg.2.1 (161 + 1) 4 _ (by decide +kernel), hg.1 (161 + 1 + 1) _ (by decide +kernel)⟩
  | 9, _ => ⟨hg.1 164 _ (by decide +kernel), hg.2.1 164 5 _ (by decide +kernel), hg.1 (164 + 1) _ (by decide +kernel), hg.2.1 (164 + 1) 4 _ (by decide +kernel), hg.1 (164 + 1 + 1) _ (by decide +kernel)⟩
  | 10, _ => ⟨hg.1 167 _ (by decide +kernel), hg.2.1 167 5 _ (by decide +kernel), hg.1 (167 + 1) _ (by decide +kernel), hg.2.1 (167 + 1) 4 _ (by decide +kernel), hg.1 (167 + 1 + 1) _ (by decide +kernel)⟩
  | 11, _ => ⟨hg.1 170 _ (by decide +kernel), hg.2.1 170 5 _ (by decide +kernel), hg.1 (170 + 1) _ (by decide +kernel), hg.2.1 (170 + 1) 4 _ (by decide +kernel), hg.1 (170 + 1 + 1) _ (by decide +kernel)⟩
  | 12, _ => ⟨hg.1 173 _ (by decide +kernel), hg.2.1 173 5 _ (by decide +kernel), hg.1 (173 + 1) _ (by decide +kernel), hg.2.1 (173 + 1) 4 _ (by decide +kernel), hg.1 (173 + 1 + 1) _ (by decide +kernel)⟩
  | 13, _ => ⟨hg.1 176 _ (by decide +kernel), hg.2.1 176 5 _ (by decide +kernel), hg.1 (176 + 1) _ (by decide +kernel), hg.2.1 (176 + 1) 4 _ (by decide +kernel), hg.1 (176 + 1 + 1) _ (by decide +kernel)⟩
  | 14, _ => ⟨hg.1 179 _ (by decide +kernel), hg.2.1 179 5 _ (by decide +kernel), hg.1 (179 + 1) _ (by decide +kernel), hg.2.1 (179 + 1) 4 _ (by decide +kernel), hg.1 (179 + 1 + 1) _ (by decide +kernel)⟩
  | 15, _ => ⟨hg.1 182 _ (by decide +kernel), hg.2.1 182 5 _ (by decide +kernel), hg.1 (182 + 1) _ (by decide +kernel), hg.2.1 (182 + 1) 4 _ (by decide +kernel), hg.1 (182 + 1 + 1) _ (by decide +kernel)⟩
  | 16, _ => ⟨hg.1 185 _ (by decide +kernel), hg.2.1 185 5 _ (by decide +kernel), hg.1 (185 + 1) _ (by decide +kernel), hg.2.1 (185 + 1) 4 _ (by decide +kernel), hg.1 (185 + 1 + 1) _ (by decide +kernel)⟩
  | 17, _ => ⟨hg.1 188 _ (by decide +kernel), hg.2.1 188 5 _ (by decide +kernel), hg.1 (188 + 1) _ (by decide +kernel), hg.2.1 (188 + 1) 4 _ (by decide +kernel), hg.1 (188 + 1 + 1) _ (by decide +kernel)⟩
  | 18, _ => ⟨hg.1 191 _ (by decide +kernel), hg.2.1 191 5 _ (by decide +kernel), hg.1 (191 + 1) _ (by decide +kernel), hg.2.1 (191 + 1) 4 _ (by decide +kernel), hg.1 (191 + 1 + 1) _ (by decide +kernel)⟩
  | 19, _ => ⟨hg.1 194 _ (by decide +kernel), hg.2.1 194 5 _ (by decide +kernel), hg.1 (194 + 1) _ (by decide +kernel), hg.2.1 (194 + 1) 4 _ (by decide +kernel), hg.1 (194 + 1 + 1) _ (by decide +kernel)⟩
  | 20, _ => ⟨hg.1 197 _ (by decide +kernel), hg.2.1 197 5 _ (by decide +kernel), hg.1 (197 + 1) _ (by decide +kernel), hg.2.1 (197 + 1) 4 _ (by decide +kernel), hg.1 (197 + 1 + 1) _ (by decide +kernel)⟩
  | 21, _ => ⟨hg.1 200 _ (by decide +kernel), hg.2.1 200 5 _ (by decide +kernel), hg.1 (200 + 1) _ (by decide +kernel), hg.2.1 (200 + 1) 4 _ (by decide +kernel), hg.1 (200 + 1 + 1) _ (by decide +kernel)⟩
  | 22, _ => ⟨hg.1 203 _ (by decide +kernel), hg.2.1 203 5 _ (by decide +kernel), hg.1 (203 + 1) _ (by decide +kernel), hg.2.1 (203 + 1) 4 _ (by decide +kernel), hg.1 (203 + 1 + 1) _ (by decide +kernel)⟩
  | 23, _ => ⟨hg.1 206 _ (by decide +kernel), hg.2.1 206 5 _ (by decide +kernel), hg.1 (206 + 1) _ (by decide +kernel), hg.2.1 (206 + 1) 4 _ (by decide +kernel), hg.1 (206 + 1 + 1) _ (by decide +kernel)⟩
  | j + 24, h => absurd h (by omega)
theorem go_136 (hg : GG g) {i : Int32} (hi : ¬ am_oob i 24) : isEx g (137 + 3 * i.toNatClampNeg) := go_of (gj_136 hg) hi
theorem gq_209 (hg : GG g) {i : Int32} (hi : ¬ am_oob i 4) : gR g 209 i.toNatClampNeg = some (210 + 2 * i.toNatClampNeg) := gq_of hg (by decide +kernel) hi
theorem gj_209 (hg : GG g) : ∀ j : Nat, j < 4 → isSh g (210 + 2 * j)
  | 0, _ => ⟨hg.1 210 _ (by decide +kernel), hg.2.1 210 2 _ (by decide +kernel), hg.1 (210 + 1) _ (by decide +kernel)⟩
  | 1, _ => ⟨hg.1 212 _ (by decide +kernel), hg.2.1 212 2 _ (by decide +kernel), hg.1 (212 + 1) _ (by decide +kernel)⟩
  | 2, _ => ⟨hg.1 214 _ (by decide +kernel), hg.2.1 214 2 _ (by decide +kernel), hg.1 (214 + 1) _ (by decide +kernel)⟩
  | 3, _ => ⟨hg.1 216 _ (by decide +kernel), hg.2.1 216 2 _ (by decide +kernel), hg.1 (216 + 1) _ (by decide +kernel)⟩
  | j + 4, h => absurd h (by omega)
theorem go_209 (hg : GG g) {i : Int32} (hi : ¬ am_oob i 4) : isSh g (210 + 2 * i.toNatClampNeg) := go_of (gj_209 hg) hi
end Gr
