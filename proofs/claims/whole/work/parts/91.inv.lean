/-! What holds between two calls of the law: class and reference picture one state. -/
abbrev IM : Type := Option (TR × RWS)
def CIm (K : KT) (X : Nat → Nat → Int32) (I : IM) : Prop := match I with
  | none => X 16 3 = 0
  | some (T, w) => X 16 3 = 1 ∧ CT K X 57 T ∧ CR X 57 w
def RIm (X : Nat → Nat → Int32) (W : Nat) (I : IM) : Prop := match I with
  | none => X 141 45 = 0
  | some (T, w) => X 141 45 = 1 ∧ RI X T ∧ RRI X w ∧ RLw X W (X 141 46) (tL T)
/-- a state: the tree, its rows, the image, the text, how many walls, the trace, the tapes -/
abbrev ST : Type := TR × RWS × IM × List Int32 × Nat × List Int32 × TP
abbrev sT (S : ST) : TR := S.1
abbrev sR (S : ST) : RWS := S.2.1
abbrev sI (S : ST) : IM := S.2.2.1
abbrev sX (S : ST) : List Int32 := S.2.2.2.1
abbrev sW (S : ST) : Nat := S.2.2.2.2.1
abbrev sS (S : ST) : List Int32 := S.2.2.2.2.2.1
abbrev sP (S : ST) : TP := S.2.2.2.2.2.2
def CInv (K : KT) (X : Nat → Nat → Int32) (S : ST) : Prop :=
  CT K X 25 (sT S) ∧ CR X 25 (sR S) ∧ CIm K X (sI S) ∧ (LR (X 16 5) (X 121) (sX S) ∧ ∀ j, ∃ a, a < 128 ∧ X 121 j = nI a) ∧ X 16 6 = nI (sW S) ∧ BC X (sS S) ∧ CP K X (sP S)
def RInv (K : KT) (X : Nat → Nat → Int32) (S : ST) : Prop :=
  RT X (sT S) ∧ RLw X (sW S) (X 141 9) (tL (sT S)) ∧ RR X (sR S) ∧ RIm X (sW S) (sI S) ∧ LR (X 141 10) (X 147) (sX S) ∧ X 141 8 = nI (sW S) ∧ BD X (sS S) ∧ RP K X (sP S) ∧ X 141 27 = 9999 ∧ ∀ j, j < 12 → X 155 j = ltrs.getD j 0
def rOk (m : Nat) (w : RWS) : Prop := wB w ∧ whoOk 6 w.2.1 ∧ plOk w.2.2.1 ∧ whoOk m w.2.2.2
def POk (S : ST) : Prop := gG (sT S) ∧ rOk (tN (sT S)) (sR S) ∧ (∀ T w, sI S = some (T, w) → gG T ∧ rOk (tN T) w) ∧ (sX S).length ≤ 100 ∧ sW S ≤ 6 ∧ (sS S).length < 1000 ∧ TPok (sP S)
theorem CT_K {K K' : KT} {X : Nat → Nat → Int32} {t : Nat} {T : TR} (h : K'.2 = K.2) (g : CT K X t T) : CT K' X t T := by
  unfold CT CW kV kW kM at *
  rw [h]
  exact g
theorem CRw_fr {X Y : Nat → Nat → Int32} {t : Nat} {w : RWS} (g : ∀ q, 12 ≤ q → q ≤ 23 → Y (t + q) = X (t + q)) (h : CR X t w) : CR Y t w := by
  unfold CR at *
  rw [g 12 (by decide) (by decide), g 14 (by decide) (by decide), g 15 (by decide) (by decide), g 16 (by decide) (by decide), g 17 (by decide) (by decide), g 18 (by decide) (by decide), g 19 (by decide) (by decide), g 20 (by decide) (by decide), g 21 (by decide) (by decide), g 22 (by decide) (by decide), g 23 (by decide) (by decide)]
  exact h
theorem BC_fr {X Y : Nat → Nat → Int32} {s : List Int32} (h2 : Y 122 = X 122) (h3 : Y 123 = X 123) (h : BC X s) : BC Y s := by
  unfold BC at *
  rw [h2, h3]
  exact h
theorem CP_fr {K K' : KT} {X Y : Nat → Nat → Int32} {P : TP} (h2 : Y 139 = X 139) (h3 : Y 140 = X 140) (hj : ∀ t, t < 6 → kJ K' (133 + t) = kJ K (133 + t)) (h : CP K X P) : CP K' Y P := by
  intro t ht
  rw [h2, h3, hj t ht]
  exact h t ht
theorem CIm_fr {K : KT} {X Y : Nat → Nat → Int32} {I : IM} (f : ∀ q, 186 ≤ q → ¬ isW q → Y q = X q) (g : ∀ q, 57 ≤ q → q ≤ 80 → Y q = X q) (e : Y 16 3 = X 16 3) (h : CIm K X I) : CIm K Y I := by
  cases I with
  | none => exact e.trans h
  | some p => exact ⟨e.trans h.1, CT_fr f (fun q hq => g _ (by omega) (by omega)) h.2.1, CRw_fr (fun q a b => g _ (by omega) (by omega)) h.2.2⟩
theorem CIm_K {K K' : KT} {X : Nat → Nat → Int32} {I : IM} (h : K'.2 = K.2) (g : CIm K X I) : CIm K' X I := by
  cases I with
  | none => exact g
  | some p => exact ⟨g.1, CT_K h g.2.1, g.2.2⟩
theorem nW {q : Nat} (h : q < 186) : ¬ isW q := fun w => by unfold isW at w; omega
/-- nothing of the class changed -/
theorem C_keep {K K' : KT} {X Y : Nat → Nat → Int32} {S : ST} (f : ∀ q, q ≤ 140 ∨ 186 ≤ q → Y q = X q) (hj : ∀ t, t < 6 → kJ K' (133 + t) = kJ K (133 + t)) (h2 : K'.2 = K.2) (h : CInv K X S) : CInv K' Y S := by
  obtain ⟨h1, h3, h4, ⟨h5, h6⟩, h7, h8, h9⟩ := h
  refine ⟨CT_K h2 (CT_fr (fun q a _ => f q (Or.inr a)) (fun q hq => f _ (Or.inl (by omega))) h1), CRw_fr (fun q a b => f _ (Or.inl (by omega))) h3, CIm_K h2 (CIm_fr (fun q a _ => f q (Or.inr a)) (fun q a b => f q (Or.inl (by omega))) (by rw [f 16 (Or.inl (by decide))]) h4), ⟨?_, ?_⟩, ?_, BC_fr (f _ (Or.inl (by decide))) (f _ (Or.inl (by decide))) h8, CP_fr (f _ (Or.inl (by decide))) (f _ (Or.inl (by decide))) hj h9⟩
  · rw [f 16 (Or.inl (by decide)), f 121 (Or.inl (by decide))]; exact h5
  · rw [f 121 (Or.inl (by decide))]; exact h6
  · rw [f 16 (Or.inl (by decide))]; exact h7
/-- nothing of the reference changed -/
theorem R_keep {K K' : KT} {X Y : Nat → Nat → Int32} {S : ST} (f : ∀ q, 141 ≤ q → q ≤ 185 → Y q = X q) (hj : kJ K' 184 = kJ K 184) (h : RInv K X S) : RInv K' Y S := by
  have g : ∀ q, 141 ≤ q ∧ q ≤ 185 → Y q = X q := fun q a => f q a.1 a.2
  have f0 := g 141 (by decide)
  unfold RInv RT RR RIm RP BD LR LR2 RLs RW at *
  unfold RLw RWs RI RRI LR LR2 RLs RW at *
  rw [f0, hj, g 142 (by decide), g 143 (by decide), g 144 (by decide), g 145 (by decide), g 146 (by decide), g 147 (by decide), g 148 (by decide), g 149 (by decide), g 150 (by decide), g 151 (by decide), g 152 (by decide), g 153 (by decide), g 155 (by decide), g 160 (by decide), g 163 (by decide), g 164 (by decide), g 165 (by decide), g 166 (by decide), g 167 (by decide), g 168 (by decide), g 169 (by decide), g 170 (by decide), g 171 (by decide), g 172 (by decide), g 173 (by decide), g 174 (by decide), g 175 (by decide), g 176 (by decide), g 177 (by decide), g 178 (by decide), g 179 (by decide), g 180 (by decide), g 181 (by decide), g 182 (by decide), g 183 (by decide)]
  exact h
