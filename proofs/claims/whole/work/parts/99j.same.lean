/-! THE SAME CITY AND LEDGER: what is said of the one holds of the other -/
def Sm (M X : am_M) : Prop := A X 219 0 = A M 219 0 ∧ A X 219 4 = A M 219 4 ∧ A X 219 10 = A M 219 10 ∧ A X 219 14 = A M 219 14 ∧ A X 219 15 = A M 219 15 ∧ A X 219 19 = A M 219 19 ∧ A X 219 24 = A M 219 24 ∧ (∀ z : Int, A X 220 z = A M 220 z) ∧ (∀ z : Int, A X 221 z = A M 221 z) ∧ (∀ z : Int, A X 222 z = A M 222 z) ∧ (∀ z : Int, A X 223 z = A M 223 z) ∧ (∀ z : Int, A X 224 z = A M 224 z) ∧ (∀ z : Int, A X 225 z = A M 225 z) ∧ (∀ z : Int, A X 226 z = A M 226 z) ∧ (∀ z : Int, A X 227 z = A M 227 z) ∧ (∀ z : Int, A X 228 z = A M 228 z) ∧ (∀ z : Int, A X 229 z = A M 229 z) ∧ (∀ z : Int, A X 230 z = A M 230 z) ∧ (∀ z : Int, A X 231 z = A M 231 z) ∧ (∀ z : Int, A X 233 z = A M 233 z) ∧ (∀ z : Int, A X 234 z = A M 234 z) ∧ (∀ z : Int, A X 235 z = A M 235 z) ∧ (∀ z : Int, A X 236 z = A M 236 z) ∧ (∀ z : Int, A X 237 z = A M 237 z) ∧ (∀ z : Int, A X 238 z = A M 238 z) ∧ (∀ z : Int, A X 239 z = A M 239 z) ∧ (∀ z : Int, A X 240 z = A M 240 z) ∧ (∀ z : Int, A X 241 z = A M 241 z) ∧ (∀ z : Int, A X 242 z = A M 242 z) ∧ (∀ z : Int, A X 243 z = A M 243 z) ∧ (∀ z : Int, A X 250 z = A M 250 z) ∧ (∀ z : Int, A X 251 z = A M 251 z) ∧ (∀ z : Int, A X 252 z = A M 252 z) ∧ ∀ z : Int, J X 232 z = J M 232 z
section Sms
variable {M X : am_M} {W : List Nat} {Q : List (Nat × Nat)}
theorem Ch.sm (c : Ch W Q M X) (hc : okc [220, 221, 222, 223, 224, 225, 226, 227, 228, 229, 230, 231, 233, 234, 235, 236, 237, 238, 239, 240, 241, 242, 243, 250, 251, 252, 232] [(219, 0), (219, 4), (219, 10), (219, 14), (219, 15), (219, 19), (219, 24)] W Q = true) : Sm M X :=
  ⟨c.r _ _ hc (Or.inr (by decide)), c.r _ _ hc (Or.inr (by decide)), c.r _ _ hc (Or.inr (by decide)), c.r _ _ hc (Or.inr (by decide)), c.r _ _ hc (Or.inr (by decide)), c.r _ _ hc (Or.inr (by decide)), c.r _ _ hc (Or.inr (by decide)), fun z => c.r _ _ hc (Or.inl (by decide)), fun z => c.r _ _ hc (Or.inl (by decide)), fun z => c.r _ _ hc (Or.inl (by decide)), fun z => c.r _ _ hc (Or.inl (by decide)), fun z => c.r _ _ hc (Or.inl (by decide)), fun z => c.r _ _ hc (Or.inl (by decide)), fun z => c.r _ _ hc (Or.inl (by decide)), fun z => c.r _ _ hc (Or.inl (by decide)), fun z => c.r _ _ hc (Or.inl (by decide)), fun z => c.r _ _ hc (Or.inl (by decide)), fun z => c.r _ _ hc (Or.inl (by decide)), fun z => c.r _ _ hc (Or.inl (by decide)), fun z => c.r _ _ hc (Or.inl (by decide)), fun z => c.r _ _ hc (Or.inl (by decide)), fun z => c.r _ _ hc (Or.inl (by decide)), fun z => c.r _ _ hc (Or.inl (by decide)), fun z => c.r _ _ hc (Or.inl (by decide)), fun z => c.r _ _ hc (Or.inl (by decide)), fun z => c.r _ _ hc (Or.inl (by decide)), fun z => c.r _ _ hc (Or.inl (by decide)), fun z => c.r _ _ hc (Or.inl (by decide)), fun z => c.r _ _ hc (Or.inl (by decide)), fun z => c.r _ _ hc (Or.inl (by decide)), fun z => c.r _ _ hc (Or.inl (by decide)), fun z => c.r _ _ hc (Or.inl (by decide)), fun z => c.r _ _ hc (Or.inl (by decide)), fun z => c.rj _ _ hc (Or.inl (by decide)) rfl⟩
theorem Sm.nWE (h : Sm M X) : nW X = nW M := by
  obtain ⟨f0, f4, f10, f14, f15, f19, f24, r220, r221, r222, r223, r224, r225, r226, r227, r228, r229, r230, r231, r233, r234, r235, r236, r237, r238, r239, r240, r241, r242, r243, r250, r251, r252, j232⟩ := h
  unfold nW
  simp only [f0, f4, f10, f14, f15, f19, f24, r220, r221, r222, r223, r224, r225, r226, r227, r228, r229, r230, r231, r233, r234, r235, r236, r237, r238, r239, r240, r241, r242, r243, r250, r251, r252, j232]
theorem Sm.nDE (h : Sm M X) : nD X = nD M := by
  obtain ⟨f0, f4, f10, f14, f15, f19, f24, r220, r221, r222, r223, r224, r225, r226, r227, r228, r229, r230, r231, r233, r234, r235, r236, r237, r238, r239, r240, r241, r242, r243, r250, r251, r252, j232⟩ := h
  unfold nD
  simp only [f0, f4, f10, f14, f15, f19, f24, r220, r221, r222, r223, r224, r225, r226, r227, r228, r229, r230, r231, r233, r234, r235, r236, r237, r238, r239, r240, r241, r242, r243, r250, r251, r252, j232]
theorem Sm.toDE (h : Sm M X) : toD X = toD M := by
  obtain ⟨f0, f4, f10, f14, f15, f19, f24, r220, r221, r222, r223, r224, r225, r226, r227, r228, r229, r230, r231, r233, r234, r235, r236, r237, r238, r239, r240, r241, r242, r243, r250, r251, r252, j232⟩ := h
  unfold toD
  simp only [f0, f4, f10, f14, f15, f19, f24, r220, r221, r222, r223, r224, r225, r226, r227, r228, r229, r230, r231, r233, r234, r235, r236, r237, r238, r239, r240, r241, r242, r243, r250, r251, r252, j232]
theorem Sm.bgE (h : Sm M X) : bg X = bg M := by
  obtain ⟨f0, f4, f10, f14, f15, f19, f24, r220, r221, r222, r223, r224, r225, r226, r227, r228, r229, r230, r231, r233, r234, r235, r236, r237, r238, r239, r240, r241, r242, r243, r250, r251, r252, j232⟩ := h
  funext x0
  unfold bg
  simp only [f0, f4, f10, f14, f15, f19, f24, r220, r221, r222, r223, r224, r225, r226, r227, r228, r229, r230, r231, r233, r234, r235, r236, r237, r238, r239, r240, r241, r242, r243, r250, r251, r252, j232]
theorem Sm.enE (h : Sm M X) : en X = en M := by
  obtain ⟨f0, f4, f10, f14, f15, f19, f24, r220, r221, r222, r223, r224, r225, r226, r227, r228, r229, r230, r231, r233, r234, r235, r236, r237, r238, r239, r240, r241, r242, r243, r250, r251, r252, j232⟩ := h
  funext x0
  unfold en
  simp only [f0, f4, f10, f14, f15, f19, f24, r220, r221, r222, r223, r224, r225, r226, r227, r228, r229, r230, r231, r233, r234, r235, r236, r237, r238, r239, r240, r241, r242, r243, r250, r251, r252, j232]
theorem Sm.prcE (h : Sm M X) : prc X = prc M := by
  obtain ⟨f0, f4, f10, f14, f15, f19, f24, r220, r221, r222, r223, r224, r225, r226, r227, r228, r229, r230, r231, r233, r234, r235, r236, r237, r238, r239, r240, r241, r242, r243, r250, r251, r252, j232⟩ := h
  funext x0 x1
  unfold prc kd ft
  simp only [f0, f4, f10, f14, f15, f19, f24, r220, r221, r222, r223, r224, r225, r226, r227, r228, r229, r230, r231, r233, r234, r235, r236, r237, r238, r239, r240, r241, r242, r243, r250, r251, r252, j232]
theorem Sm.pasE (h : Sm M X) : pas X = pas M := by
  obtain ⟨f0, f4, f10, f14, f15, f19, f24, r220, r221, r222, r223, r224, r225, r226, r227, r228, r229, r230, r231, r233, r234, r235, r236, r237, r238, r239, r240, r241, r242, r243, r250, r251, r252, j232⟩ := h
  funext x0 x1
  unfold pas opn kd on
  simp only [f0, f4, f10, f14, f15, f19, f24, r220, r221, r222, r223, r224, r225, r226, r227, r228, r229, r230, r231, r233, r234, r235, r236, r237, r238, r239, r240, r241, r242, r243, r250, r251, r252, j232]
theorem Sm.shuE (h : Sm M X) : shu X = shu M := by
  obtain ⟨f0, f4, f10, f14, f15, f19, f24, r220, r221, r222, r223, r224, r225, r226, r227, r228, r229, r230, r231, r233, r234, r235, r236, r237, r238, r239, r240, r241, r242, r243, r250, r251, r252, j232⟩ := h
  funext x0 x1 x2
  unfold shu
  simp only [f0, f4, f10, f14, f15, f19, f24, r220, r221, r222, r223, r224, r225, r226, r227, r228, r229, r230, r231, r233, r234, r235, r236, r237, r238, r239, r240, r241, r242, r243, r250, r251, r252, j232]
theorem Sm.bndE (h : Sm M X) : bnd X = bnd M := by
  obtain ⟨f0, f4, f10, f14, f15, f19, f24, r220, r221, r222, r223, r224, r225, r226, r227, r228, r229, r230, r231, r233, r234, r235, r236, r237, r238, r239, r240, r241, r242, r243, r250, r251, r252, j232⟩ := h
  funext x0 x1 x2 x3
  unfold bnd onb
  simp only [f0, f4, f10, f14, f15, f19, f24, r220, r221, r222, r223, r224, r225, r226, r227, r228, r229, r230, r231, r233, r234, r235, r236, r237, r238, r239, r240, r241, r242, r243, r250, r251, r252, j232]
theorem Sm.ansE (h : Sm M X) : ans X = ans M := by
  obtain ⟨f0, f4, f10, f14, f15, f19, f24, r220, r221, r222, r223, r224, r225, r226, r227, r228, r229, r230, r231, r233, r234, r235, r236, r237, r238, r239, r240, r241, r242, r243, r250, r251, r252, j232⟩ := h
  funext x0 x1 x2
  unfold ans
  simp only [f0, f4, f10, f14, f15, f19, f24, r220, r221, r222, r223, r224, r225, r226, r227, r228, r229, r230, r231, r233, r234, r235, r236, r237, r238, r239, r240, r241, r242, r243, r250, r251, r252, j232]
theorem Sm.hldE (h : Sm M X) : hld X = hld M := by
  obtain ⟨f0, f4, f10, f14, f15, f19, f24, r220, r221, r222, r223, r224, r225, r226, r227, r228, r229, r230, r231, r233, r234, r235, r236, r237, r238, r239, r240, r241, r242, r243, r250, r251, r252, j232⟩ := h
  funext x0 x1 x2 x3
  unfold hld
  simp only [f0, f4, f10, f14, f15, f19, f24, r220, r221, r222, r223, r224, r225, r226, r227, r228, r229, r230, r231, r233, r234, r235, r236, r237, r238, r239, r240, r241, r242, r243, r250, r251, r252, j232]
theorem Sm.tdrE (h : Sm M X) : tdr X = tdr M := by
  obtain ⟨f0, f4, f10, f14, f15, f19, f24, r220, r221, r222, r223, r224, r225, r226, r227, r228, r229, r230, r231, r233, r234, r235, r236, r237, r238, r239, r240, r241, r242, r243, r250, r251, r252, j232⟩ := h
  funext x0 x1
  unfold tdr ft
  simp only [f0, f4, f10, f14, f15, f19, f24, r220, r221, r222, r223, r224, r225, r226, r227, r228, r229, r230, r231, r233, r234, r235, r236, r237, r238, r239, r240, r241, r242, r243, r250, r251, r252, j232]
theorem Sm.fdrE (h : Sm M X) : fdr X = fdr M := by
  obtain ⟨f0, f4, f10, f14, f15, f19, f24, r220, r221, r222, r223, r224, r225, r226, r227, r228, r229, r230, r231, r233, r234, r235, r236, r237, r238, r239, r240, r241, r242, r243, r250, r251, r252, j232⟩ := h
  funext x0 x1
  unfold fdr ft
  simp only [f0, f4, f10, f14, f15, f19, f24, r220, r221, r222, r223, r224, r225, r226, r227, r228, r229, r230, r231, r233, r234, r235, r236, r237, r238, r239, r240, r241, r242, r243, r250, r251, r252, j232]
theorem Sm.golE (h : Sm M X) : gol X = gol M := by
  obtain ⟨f0, f4, f10, f14, f15, f19, f24, r220, r221, r222, r223, r224, r225, r226, r227, r228, r229, r230, r231, r233, r234, r235, r236, r237, r238, r239, r240, r241, r242, r243, r250, r251, r252, j232⟩ := h
  funext x0 x1
  unfold gol
  simp only [f0, f4, f10, f14, f15, f19, f24, r220, r221, r222, r223, r224, r225, r226, r227, r228, r229, r230, r231, r233, r234, r235, r236, r237, r238, r239, r240, r241, r242, r243, r250, r251, r252, j232]
theorem Sm.ahd_E (h : Sm M X) : ahd_ X = ahd_ M := by
  obtain ⟨f0, f4, f10, f14, f15, f19, f24, r220, r221, r222, r223, r224, r225, r226, r227, r228, r229, r230, r231, r233, r234, r235, r236, r237, r238, r239, r240, r241, r242, r243, r250, r251, r252, j232⟩ := h
  funext x0 x1 x2
  unfold ahd_
  simp only [f0, f4, f10, f14, f15, f19, f24, r220, r221, r222, r223, r224, r225, r226, r227, r228, r229, r230, r231, r233, r234, r235, r236, r237, r238, r239, r240, r241, r242, r243, r250, r251, r252, j232]
theorem Sm.folE (h : Sm M X) : fol X = fol M := by
  have h' := h
  obtain ⟨f0, f4, f10, f14, f15, f19, f24, r220, r221, r222, r223, r224, r225, r226, r227, r228, r229, r230, r231, r233, r234, r235, r236, r237, r238, r239, r240, r241, r242, r243, r250, r251, r252, j232⟩ := h'
  funext x0 x1
  unfold fol
  simp only [h.bgE, h.enE, f0, f4, f10, f14, f15, f19, f24, r220, r221, r222, r223, r224, r225, r226, r227, r228, r229, r230, r231, r233, r234, r235, r236, r237, r238, r239, r240, r241, r242, r243, r250, r251, r252, j232]
theorem Sm.drvE (h : Sm M X) : drv X = drv M := by
  have h' := h
  obtain ⟨f0, f4, f10, f14, f15, f19, f24, r220, r221, r222, r223, r224, r225, r226, r227, r228, r229, r230, r231, r233, r234, r235, r236, r237, r238, r239, r240, r241, r242, r243, r250, r251, r252, j232⟩ := h'
  funext x0 x1 x2 x3
  unfold drv
  simp only [h.pasE, h.shuE, f0, f4, f10, f14, f15, f19, f24, r220, r221, r222, r223, r224, r225, r226, r227, r228, r229, r230, r231, r233, r234, r235, r236, r237, r238, r239, r240, r241, r242, r243, r250, r251, r252, j232]
theorem Sm.mgoE (h : Sm M X) : mgo X = mgo M := by
  have h' := h
  obtain ⟨f0, f4, f10, f14, f15, f19, f24, r220, r221, r222, r223, r224, r225, r226, r227, r228, r229, r230, r231, r233, r234, r235, r236, r237, r238, r239, r240, r241, r242, r243, r250, r251, r252, j232⟩ := h'
  funext x0 x1
  unfold mgo
  simp only [h.drvE, h.pasE, f0, f4, f10, f14, f15, f19, f24, r220, r221, r222, r223, r224, r225, r226, r227, r228, r229, r230, r231, r233, r234, r235, r236, r237, r238, r239, r240, r241, r242, r243, r250, r251, r252, j232]
theorem Sm.mkdE (h : Sm M X) : mkd X = mkd M := by
  have h' := h
  obtain ⟨f0, f4, f10, f14, f15, f19, f24, r220, r221, r222, r223, r224, r225, r226, r227, r228, r229, r230, r231, r233, r234, r235, r236, r237, r238, r239, r240, r241, r242, r243, r250, r251, r252, j232⟩ := h'
  funext x0 x1 x2
  unfold mkd
  simp only [h.bndE, h.hldE, h.toDE, f0, f4, f10, f14, f15, f19, f24, r220, r221, r222, r223, r224, r225, r226, r227, r228, r229, r230, r231, r233, r234, r235, r236, r237, r238, r239, r240, r241, r242, r243, r250, r251, r252, j232]
theorem Sm.mayE (h : Sm M X) : may X = may M := by
  have h' := h
  obtain ⟨f0, f4, f10, f14, f15, f19, f24, r220, r221, r222, r223, r224, r225, r226, r227, r228, r229, r230, r231, r233, r234, r235, r236, r237, r238, r239, r240, r241, r242, r243, r250, r251, r252, j232⟩ := h'
  funext x0 x1 x2
  unfold may
  simp only [h.folE, h.mgoE, h.mkdE, f0, f4, f10, f14, f15, f19, f24, r220, r221, r222, r223, r224, r225, r226, r227, r228, r229, r230, r231, r233, r234, r235, r236, r237, r238, r239, r240, r241, r242, r243, r250, r251, r252, j232]
theorem Sm.strgE (h : Sm M X) : strg X = strg M := by
  have h' := h
  obtain ⟨f0, f4, f10, f14, f15, f19, f24, r220, r221, r222, r223, r224, r225, r226, r227, r228, r229, r230, r231, r233, r234, r235, r236, r237, r238, r239, r240, r241, r242, r243, r250, r251, r252, j232⟩ := h'
  funext x0 x1 x2
  unfold strg px py
  simp only [h.bgE, f0, f4, f10, f14, f15, f19, f24, r220, r221, r222, r223, r224, r225, r226, r227, r228, r229, r230, r231, r233, r234, r235, r236, r237, r238, r239, r240, r241, r242, r243, r250, r251, r252, j232]
theorem Sm.offsE (h : Sm M X) : offs X = offs M := by
  have h' := h
  obtain ⟨f0, f4, f10, f14, f15, f19, f24, r220, r221, r222, r223, r224, r225, r226, r227, r228, r229, r230, r231, r233, r234, r235, r236, r237, r238, r239, r240, r241, r242, r243, r250, r251, r252, j232⟩ := h'
  funext x0 x1 x2
  unfold offs
  simp only [h.strgE, h.enE, f0, f4, f10, f14, f15, f19, f24, r220, r221, r222, r223, r224, r225, r226, r227, r228, r229, r230, r231, r233, r234, r235, r236, r237, r238, r239, r240, r241, r242, r243, r250, r251, r252, j232]
theorem Sm.gkkE (h : Sm M X) : gkk X = gkk M := by
  have h' := h
  obtain ⟨f0, f4, f10, f14, f15, f19, f24, r220, r221, r222, r223, r224, r225, r226, r227, r228, r229, r230, r231, r233, r234, r235, r236, r237, r238, r239, r240, r241, r242, r243, r250, r251, r252, j232⟩ := h'
  funext x0 x1 x2
  unfold gkk
  simp only [h.tdrE, f0, f4, f10, f14, f15, f19, f24, r220, r221, r222, r223, r224, r225, r226, r227, r228, r229, r230, r231, r233, r234, r235, r236, r237, r238, r239, r240, r241, r242, r243, r250, r251, r252, j232]
theorem Sm.wkkE (h : Sm M X) : wkk X = wkk M := by
  have h' := h
  obtain ⟨f0, f4, f10, f14, f15, f19, f24, r220, r221, r222, r223, r224, r225, r226, r227, r228, r229, r230, r231, r233, r234, r235, r236, r237, r238, r239, r240, r241, r242, r243, r250, r251, r252, j232⟩ := h'
  funext x0 x1 x2 x3 x4
  unfold wkk
  simp only [h.offsE, h.prcE, f0, f4, f10, f14, f15, f19, f24, r220, r221, r222, r223, r224, r225, r226, r227, r228, r229, r230, r231, r233, r234, r235, r236, r237, r238, r239, r240, r241, r242, r243, r250, r251, r252, j232]
theorem Sm.aloneE (h : Sm M X) : alone X = alone M := by
  have h' := h
  obtain ⟨f0, f4, f10, f14, f15, f19, f24, r220, r221, r222, r223, r224, r225, r226, r227, r228, r229, r230, r231, r233, r234, r235, r236, r237, r238, r239, r240, r241, r242, r243, r250, r251, r252, j232⟩ := h'
  funext x0 x1 x2 x3
  unfold alone
  simp only [h.ahd_E, f0, f4, f10, f14, f15, f19, f24, r220, r221, r222, r223, r224, r225, r226, r227, r228, r229, r230, r231, r233, r234, r235, r236, r237, r238, r239, r240, r241, r242, r243, r250, r251, r252, j232]
theorem Sm.thruE (h : Sm M X) : thru X = thru M := by
  have h' := h
  obtain ⟨f0, f4, f10, f14, f15, f19, f24, r220, r221, r222, r223, r224, r225, r226, r227, r228, r229, r230, r231, r233, r234, r235, r236, r237, r238, r239, r240, r241, r242, r243, r250, r251, r252, j232⟩ := h'
  funext x0 x1 x2 x3 x4
  unfold thru
  simp only [h.offsE, h.fdrE, f0, f4, f10, f14, f15, f19, f24, r220, r221, r222, r223, r224, r225, r226, r227, r228, r229, r230, r231, r233, r234, r235, r236, r237, r238, r239, r240, r241, r242, r243, r250, r251, r252, j232]
theorem Sm.vstE (h : Sm M X) : vst X = vst M := by
  have h' := h
  obtain ⟨f0, f4, f10, f14, f15, f19, f24, r220, r221, r222, r223, r224, r225, r226, r227, r228, r229, r230, r231, r233, r234, r235, r236, r237, r238, r239, r240, r241, r242, r243, r250, r251, r252, j232⟩ := h'
  funext x0 x1 x2 x3 x4 x5
  unfold vst
  simp only [h.mgoE, h.aloneE, h.thruE, f0, f4, f10, f14, f15, f19, f24, r220, r221, r222, r223, r224, r225, r226, r227, r228, r229, r230, r231, r233, r234, r235, r236, r237, r238, r239, r240, r241, r242, r243, r250, r251, r252, j232]
theorem Sm.sblE (h : Sm M X) : sbl X = sbl M := by
  have h' := h
  obtain ⟨f0, f4, f10, f14, f15, f19, f24, r220, r221, r222, r223, r224, r225, r226, r227, r228, r229, r230, r231, r233, r234, r235, r236, r237, r238, r239, r240, r241, r242, r243, r250, r251, r252, j232⟩ := h'
  funext x0 x1 x2 x3 x4
  unfold sbl
  simp only [h.vstE, f0, f4, f10, f14, f15, f19, f24, r220, r221, r222, r223, r224, r225, r226, r227, r228, r229, r230, r231, r233, r234, r235, r236, r237, r238, r239, r240, r241, r242, r243, r250, r251, r252, j232]
theorem Sm.bvlE (h : Sm M X) : bvl X = bvl M := by
  have h' := h
  obtain ⟨f0, f4, f10, f14, f15, f19, f24, r220, r221, r222, r223, r224, r225, r226, r227, r228, r229, r230, r231, r233, r234, r235, r236, r237, r238, r239, r240, r241, r242, r243, r250, r251, r252, j232⟩ := h'
  funext x0 x1 x2 x3 x4
  unfold bvl
  simp only [h.vstE, h.sblE, f0, f4, f10, f14, f15, f19, f24, r220, r221, r222, r223, r224, r225, r226, r227, r228, r229, r230, r231, r233, r234, r235, r236, r237, r238, r239, r240, r241, r242, r243, r250, r251, r252, j232]
theorem Sm.goodE (h : Sm M X) : good X = good M := by
  have h' := h
  obtain ⟨f0, f4, f10, f14, f15, f19, f24, r220, r221, r222, r223, r224, r225, r226, r227, r228, r229, r230, r231, r233, r234, r235, r236, r237, r238, r239, r240, r241, r242, r243, r250, r251, r252, j232⟩ := h'
  funext x0 x1 x2 x3 x4
  unfold good
  simp only [h.drvE, h.bndE, f0, f4, f10, f14, f15, f19, f24, r220, r221, r222, r223, r224, r225, r226, r227, r228, r229, r230, r231, r233, r234, r235, r236, r237, r238, r239, r240, r241, r242, r243, r250, r251, r252, j232]
theorem Sm.rspE (h : Sm M X) : rsp X = rsp M := by
  funext x0 x1 x2 x3 x4 x5 x6
  unfold rsp Pth_ pt_
  simp only [h.bvlE, h.aloneE, h.sblE, h.mayE, h.golE, h.gkkE, h.wkkE, h.nWE]
theorem Sm.cokE (h : Sm M X) : Cok X = Cok M := by
  funext x0 x1 x2 x3 x4
  unfold Cok Bel_
  simp only [h.mayE, h.golE, h.gkkE, h.wkkE, h.nWE]
theorem Sm.bstE (h : Sm M X) : Bst X = Bst M := by
  funext x0 x1 x2 x3 x4 x5 x6 x7 x8
  unfold Bst
  simp only [h.cokE, h.rspE, h.bvlE, h.toDE]
end Sms
