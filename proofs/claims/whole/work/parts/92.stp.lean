/-! How a state is kept, part by part; the steps that change nothing of it. -/
def Inv (K : KT) (X : Nat → Nat → Int32) (S : ST) : Prop := CInv K X S ∧ RInv K X S ∧ POk S
/-- both answer v, and picture one state behind it -/
def PairV (v : Value) (r1 : Nat) (m1 : Md) (L1 : List Value) (r2 : Nat) (m2 : Md) (L2 : List Value) (K : KT) (X : Nat → Nat → Int32) (n z : Nat) : Prop :=
  ∃ K1 Y K2 Z n1 z1, E r1 m1 0 L1 [] (hp K X, n, z) = some (some v, (hp K1 Y, n1, z1)) ∧ E r2 m2 0 L2 [] (hp K1 Y, n1, z1) = some (some v, (hp K2 Z, n1, z1)) ∧ kS K1 = kS K ∧ kN K1 = kN K ∧ kS K2 = kS K ∧ kN K2 = kN K ∧ n1 = 186 + 6 * kM K2 ∧ kM K2 ≤ kM K + 1 ∧ z1 ≤ z + 420 ∧ ∃ S, Inv K2 Z S
theorem mkP {v : Value} {r1 : Nat} {m1 : Md} {L1 : List Value} {r2 : Nat} {m2 : Md} {L2 : List Value} {K K1 K2 : KT} {X Y Z : Nat → Nat → Int32} {n z : Nat} {S : ST} (hn : n = 186 + 6 * kM K) (e1 : E r1 m1 0 L1 [] (hp K X, n, z) = some (some v, (hp K1 Y, n, z))) (e2 : E r2 m2 0 L2 [] (hp K1 Y, n, z) = some (some v, (hp K2 Z, n, z))) (h1 : K1.2.2 = K.2.2) (h2 : K2.2.2 = K.2.2) (hi : Inv K2 Z S) : PairV v r1 m1 L1 r2 m2 L2 K X n z := by
  have hm : kM K2 = kM K := by unfold kM; rw [h2]
  exact ⟨K1, Y, K2, Z, n, z, e1, e2, by unfold kS; rw [h1], by unfold kN; rw [h1], by unfold kS; rw [h2], by unfold kN; rw [h2], by rw [hm]; exact hn, by omega, by omega, S, hi⟩
theorem RT_frm {X Y : Nat → Nat → Int32} {T : TR} (f : ∀ q, 142 ≤ q → q ≤ 153 → q ≠ 147 → Y q = X q) (g : Y 141 0 = X 141 0 ∧ Y 141 1 = X 141 1 ∧ Y 141 2 = X 141 2 ∧ Y 141 9 = X 141 9) (h : RT X T) : RT Y T := by
  unfold RT RLs RW at *
  rw [g.1, g.2.1, g.2.2.1, g.2.2.2, f 142 (by decide) (by decide) (by decide), f 143 (by decide) (by decide) (by decide), f 144 (by decide) (by decide) (by decide), f 145 (by decide) (by decide) (by decide), f 146 (by decide) (by decide) (by decide), f 148 (by decide) (by decide) (by decide), f 149 (by decide) (by decide) (by decide), f 150 (by decide) (by decide) (by decide), f 151 (by decide) (by decide) (by decide), f 152 (by decide) (by decide) (by decide), f 153 (by decide) (by decide) (by decide)]
  exact h
theorem RR_frm {X Y : Nat → Nat → Int32} {w : RWS} (f : ∀ q, q = 160 ∨ 163 ≤ q ∧ q ≤ 168 → Y q = X q) (g : Y 141 32 = X 141 32 ∧ Y 141 36 = X 141 36 ∧ Y 141 39 = X 141 39 ∧ Y 141 40 = X 141 40) (h : RR X w) : RR Y w := by
  unfold RR at *
  rw [g.1, g.2.1, g.2.2.1, g.2.2.2, f 160 (by decide), f 163 (by decide), f 164 (by decide), f 165 (by decide), f 166 (by decide), f 167 (by decide), f 168 (by decide)]
  exact h
theorem RIm_frm {X Y : Nat → Nat → Int32} {W : Nat} {I : IM} (f : ∀ q, 169 ≤ q ∧ q ≤ 180 ∨ 148 ≤ q ∧ q ≤ 153 → Y q = X q) (g : ∀ k, 45 ≤ k ∧ k ≤ 53 → Y 141 k = X 141 k) (h : RIm X W I) : RIm Y W I := by
  cases I with
  | none => exact (g 45 (by decide)).trans h
  | some p =>
    obtain ⟨h1, h2, h3, h4⟩ := h
    refine ⟨(g 45 (by decide)).trans h1, ?_, ?_, ?_⟩
    · unfold RI RLs RW at *
      rw [g 46 (by decide), g 47 (by decide), g 48 (by decide), g 49 (by decide), f 169 (by decide), f 170 (by decide), f 171 (by decide), f 172 (by decide), f 173 (by decide), f 148 (by decide), f 149 (by decide), f 150 (by decide), f 151 (by decide), f 152 (by decide), f 153 (by decide)]
      exact h2
    · unfold RRI at *
      rw [g 50 (by decide), g 51 (by decide), g 52 (by decide), g 53 (by decide), f 174 (by decide), f 175 (by decide), f 176 (by decide), f 177 (by decide), f 178 (by decide), f 179 (by decide), f 180 (by decide)]
      exact h3
    · rw [g 46 (by decide)]
      exact RLw_fr (fun q a b => f q (Or.inr ⟨a, b⟩)) h4
/-- but for the tree nothing of the reference changed -/
theorem R_tree {K : KT} {X Y : Nat → Nat → Int32} {S : ST} {T : TR} (hT : RT Y T) (hL : tL T = tL (sT S)) (f : ∀ q, 147 ≤ q → q ≤ 183 → q ≠ 154 → q ≠ 156 → q ≠ 157 → q ≠ 158 → q ≠ 159 → q ≠ 161 → q ≠ 162 → Y q = X q) (g : ∀ k, 8 ≤ k → k ≠ 28 → k ≠ 29 → Y 141 k = X 141 k) (h : RInv K X S) : RInv K Y (T, S.2) := by
  obtain ⟨h1, h2, h3, h4, h5, h6, h7, h8, h9, h10⟩ := h
  refine ⟨hT, ?_, RR_frm (fun q a => f q (by omega) (by omega) (by omega) (by omega) (by omega) (by omega) (by omega) (by omega) (by omega)) ⟨g _ (by decide) (by decide) (by decide), g _ (by decide) (by decide) (by decide), g _ (by decide) (by decide) (by decide), g _ (by decide) (by decide) (by decide)⟩ h3, RIm_frm (fun q a => f q (by omega) (by omega) (by omega) (by omega) (by omega) (by omega) (by omega) (by omega) (by omega)) (fun k a => g k (by omega) (by omega) (by omega)) h4, ?_, ?_, ?_, ?_, ?_, ?_⟩
  · show RLw Y (sW S) (Y 141 9) (tL T)
    rw [hL, g 9 (by decide) (by decide) (by decide)]
    exact RLw_fr (fun q a b => f q (by omega) (by omega) (by omega) (by omega) (by omega) (by omega) (by omega) (by omega) (by omega)) h2
  · rw [g 10 (by decide) (by decide) (by decide), f 147 (by decide) (by decide) (by decide) (by decide) (by decide) (by decide) (by decide) (by decide) (by decide)]; exact h5
  · rw [g 8 (by decide) (by decide) (by decide)]; exact h6
  · unfold BD at *
    rw [g 66 (by decide) (by decide) (by decide), f 181 (by decide) (by decide) (by decide) (by decide) (by decide) (by decide) (by decide) (by decide) (by decide)]; exact h7
  · unfold RP at *
    rw [f 182 (by decide) (by decide) (by decide) (by decide) (by decide) (by decide) (by decide) (by decide) (by decide), f 183 (by decide) (by decide) (by decide) (by decide) (by decide) (by decide) (by decide) (by decide) (by decide)]; exact h8
  · rw [g 27 (by decide) (by decide) (by decide)]; exact h9
  · rw [f 155 (by decide) (by decide) (by decide) (by decide) (by decide) (by decide) (by decide) (by decide) (by decide)]; exact h10
theorem R_Q {K : KT} {X Y : Nat → Nat → Int32} {S : ST} (q : Q X Y) (hT : RT Y (sT S)) (h : RInv K X S) : RInv K Y S :=
  R_tree hT rfl (fun a b c d1 d2 d3 d4 d5 d6 d7 => q.1 a (by simp; omega)) (fun k a b c => q.2 k (by simp; omega)) h
/-- but for the tree nothing of the class changed -/
theorem C_tree {K : KT} {X Y : Nat → Nat → Int32} {S : ST} {T : TR} (hT : CT K Y 25 T) (f : ∀ q, ¬ (25 ≤ q ∧ q ≤ 36) → ¬ (49 ≤ q ∧ q ≤ 56) → ¬ (89 ≤ q ∧ q ≤ 120) → ¬ (124 ≤ q ∧ q ≤ 131) → ¬ isW q → Y q = X q) (h : CInv K X S) : CInv K Y (T, S.2) := by
  obtain ⟨h1, h3, h4, ⟨h5, h6⟩, h7, h8, h9⟩ := h
  have f' : ∀ q, q ≤ 140 → ¬ (25 ≤ q ∧ q ≤ 36) → ¬ (49 ≤ q ∧ q ≤ 56) → ¬ (89 ≤ q ∧ q ≤ 120) → ¬ (124 ≤ q ∧ q ≤ 131) → Y q = X q := fun q a b c d e => f q b c d e (nW (by omega))
  have fw : ∀ q, 186 ≤ q → ¬ isW q → Y q = X q := fun q a b => f q (by omega) (by omega) (by omega) (by omega) b
  refine ⟨hT, CRw_fr (fun q a b => f' _ (by omega) (by omega) (by omega) (by omega) (by omega)) h3, CIm_fr fw (fun q a b => f' _ (by omega) (by omega) (by omega) (by omega) (by omega)) (by rw [f' 16 (by omega) (by omega) (by omega) (by omega) (by omega)]) h4, ⟨?_, ?_⟩, ?_, BC_fr (f' _ (by omega) (by omega) (by omega) (by omega) (by omega)) (f' _ (by omega) (by omega) (by omega) (by omega) (by omega)) h8, CP_fr (f' _ (by omega) (by omega) (by omega) (by omega) (by omega)) (f' _ (by omega) (by omega) (by omega) (by omega) (by omega)) (fun _ _ => rfl) h9⟩
  · rw [f' 16 (by omega) (by omega) (by omega) (by omega) (by omega), f' 121 (by omega) (by omega) (by omega) (by omega) (by omega)]; exact h5
  · rw [f' 121 (by omega) (by omega) (by omega) (by omega) (by omega)]; exact h6
  · rw [f' 16 (by omega) (by omega) (by omega) (by omega) (by omega)]; exact h7
theorem C_V {K : KT} {X : Nat → Nat → Int32} {S : ST} {v : Value} (h : CInv K X S) : CInv (setV K 89 v) X S := by
  obtain ⟨h1, h3, h4, h5⟩ := h
  refine ⟨h1, h3, ?_, h5⟩
  revert h4
  cases sI S with
  | none => exact id
  | some p => exact id
theorem C_Q {K : KT} {X Y : Nat → Nat → Int32} {S : ST} {v : Value} (q : FQ X Y) (h : CInv K X S) : CInv (setV K 89 v) Y S :=
  C_V (C_tree (T := sT S) (CT_fr (fun a b c => q a (by omega) (by omega) (by omega) c) (fun a b => q _ (by omega) (by omega) (by omega) (nW (by omega))) h.1) (fun a _ b c d e => q a b c d e) h)
theorem R_FQ {K : KT} {X Y : Nat → Nat → Int32} {S : ST} {v : Value} (q : FQ X Y) (h : RInv K X S) : RInv (setV K 89 v) Y S := R_keep (fun a b c => q a (by omega) (by omega) (by omega) (nW (by omega))) rfl h
theorem C_Qr {K : KT} {X Y : Nat → Nat → Int32} {S : ST} (q : Q X Y) (h : CInv K X S) : CInv K Y S := C_keep (fun a b => q.1 a (by simp; omega)) (fun _ _ => rfl) rfl h
/-- a question: both look, and change nothing that is pictured -/
theorem askP {v : Value} {r1 : Nat} {m1 : Md} {L1 : List Value} {r2 : Nat} {m2 : Md} {L2 : List Value} {K : KT} {X : Nat → Nat → Int32} {n z : Nat} {S : ST} (hn : n = 186 + 6 * kM K) (hi : Inv K X S) (e1 : ∃ u Y, E r1 m1 0 L1 [] (hp K X, n, z) = some (some v, (hp (setV K 89 u) Y, n, z)) ∧ FQ X Y) (e2 : ∀ (K' : KT) (Y : Nat → Nat → Int32), CInv K' Y S → RInv K' Y S → ∃ Z, E r2 m2 0 L2 [] (hp K' Y, n, z) = some (some v, (hp K' Z, n, z)) ∧ Q Y Z ∧ RT Z (sT S)) : PairV v r1 m1 L1 r2 m2 L2 K X n z := by
  obtain ⟨hC, hR, hP⟩ := hi
  obtain ⟨u, Y, e1, f⟩ := e1
  obtain ⟨Z, e2, q, hT⟩ := e2 _ _ (C_Q (v := u) f hC) (R_FQ (v := u) f hR)
  exact mkP hn e1 e2 rfl rfl ⟨C_Qr q (C_Q f hC), R_Q q hT (R_FQ f hR), hP⟩
theorem askS {v : Value} {r1 : Nat} {m1 : Md} {L1 : List Value} {K : KT} {X Y : Nat → Nat → Int32} {n z : Nat} (e : E r1 m1 0 L1 [] (hp K X, n, z) = some (some v, (hp K Y, n, z))) (f : FQ X Y) : ∃ u Y, E r1 m1 0 L1 [] (hp K X, n, z) = some (some v, (hp (setV K 89 u) Y, n, z)) ∧ FQ X Y := ⟨kV K 89, Y, by rw [setV_self]; exact e, f⟩
theorem FQ_rfl (X : Nat → Nat → Int32) : FQ X X := fun _ _ _ _ _ => rfl
theorem Q_rfl (X : Nat → Nat → Int32) : Q X X := ⟨fun _ _ => rfl, fun _ _ => rfl⟩
