/-! The steps that change rows, the text, the trace, the tapes. -/
theorem R_mk {K K' : KT} {X Y : Nat → Nat → Int32} {S S' : ST} (h : RInv K X S) (hT : sT S' = sT S) (hW : sW S' = sW S) (hI : sI S' = sI S) (f : ∀ q, q ≠ 141 → q ≠ 147 → q ≠ 160 → ¬ (163 ≤ q ∧ q ≤ 168) → q ≠ 181 → q ≠ 182 → q ≠ 183 → Y q = X q) (g : ∀ k, k ≠ 10 → k ≠ 32 → k ≠ 36 → k ≠ 39 → k ≠ 40 → k ≠ 66 → Y 141 k = X 141 k) (hw : RR Y (sR S')) (hl : LR (Y 141 10) (Y 147) (sX S')) (hs : BD Y (sS S')) (hq : RP K' Y (sP S')) : RInv K' Y S' := by
  obtain ⟨h1, h2, h3, h4, h5, h6, h7, h8, h9, h10⟩ := h
  have f' : ∀ q, 142 ≤ q → q ≤ 180 → q ≠ 147 → q ≠ 160 → ¬ (163 ≤ q ∧ q ≤ 168) → Y q = X q := fun q a b c d e => f q (by omega) c d e (by omega) (by omega) (by omega)
  have g' : ∀ k, k ≤ 9 ∨ k = 27 ∨ (45 ≤ k ∧ k ≤ 53) → Y 141 k = X 141 k := fun k a => g k (by omega) (by omega) (by omega) (by omega) (by omega) (by omega)
  refine ⟨?_, ?_, hw, ?_, hl, ?_, hs, hq, ?_, ?_⟩
  · rw [hT]
    exact RT_frm (fun q a b c => f' q (by omega) (by omega) c (by omega) (by omega)) ⟨g' _ (by decide), g' _ (by decide), g' _ (by decide), g' _ (by decide)⟩ h1
  · rw [hT, hW, g' 9 (by decide)]
    exact RLw_fr (fun q a b => f' q (by omega) (by omega) (by omega) (by omega) (by omega)) h2
  · rw [hI, hW]
    exact RIm_frm (fun q a => f' q (by omega) (by omega) (by omega) (by omega) (by omega)) (fun k a => g' k (by omega)) h4
  · rw [hW, g' 8 (by decide)]; exact h6
  · rw [g' 27 (by decide)]; exact h9
  · rw [f' 155 (by decide) (by decide) (by decide) (by decide) (by decide)]; exact h10
theorem C_mk {K K' : KT} {X Y : Nat → Nat → Int32} {S S' : ST} (h : CInv K X S) (hT : sT S' = sT S) (hW : sW S' = sW S) (hI : sI S' = sI S) (hK : K'.2 = K.2) (f : ∀ q, q ≠ 16 → ¬ (37 ≤ q ∧ q ≤ 48) → ¬ (121 ≤ q ∧ q ≤ 123) → q ≠ 139 → q ≠ 140 → Y q = X q) (g : ∀ k, k ≠ 5 → Y 16 k = X 16 k) (hw : CR Y 25 (sR S')) (hl : LR (Y 16 5) (Y 121) (sX S') ∧ ∀ j, ∃ a, a < 128 ∧ Y 121 j = nI a) (hs : BC Y (sS S')) (hq : CP K' Y (sP S')) : CInv K' Y S' := by
  obtain ⟨h1, h3, h4, h5, h7, h8, h9⟩ := h
  have fw : ∀ q, 186 ≤ q → ¬ isW q → Y q = X q := fun q a b => f q (by omega) (by omega) (by omega) (by omega) (by omega)
  refine ⟨?_, hw, ?_, hl, ?_, hs, hq⟩
  · rw [hT]
    exact CT_K hK (CT_fr fw (fun q a => f _ (by omega) (by omega) (by omega) (by omega) (by omega)) h1)
  · rw [hI]
    exact CIm_K hK (CIm_fr fw (fun q a b => f q (by omega) (by omega) (by omega) (by omega) (by omega)) (g 3 (by decide)) h4)
  · rw [hW, g 6 (by decide)]; exact h7
theorem rowP {v : Value} {r1 : Nat} {m1 : Md} {L1 : List Value} {r2 : Nat} {m2 : Md} {L2 : List Value} {K : KT} {X : Nat → Nat → Int32} {n z : Nat} {S : ST} {w : RWS} (hn : n = 186 + 6 * kM K) (hi : Inv K X S) (hg : rOk (tN (sT S)) w) (e1 : ∃ Y, E r1 m1 0 L1 [] (hp K X, n, z) = some (some v, (hp K Y, n, z)) ∧ (∀ q, ¬ (37 ≤ q ∧ q ≤ 48) → Y q = X q) ∧ CR Y 25 w) (e2 : ∀ (Y : Nat → Nat → Int32), RInv K Y S → ∃ Z, E r2 m2 0 L2 [] (hp K Y, n, z) = some (some v, (hp K Z, n, z)) ∧ (∀ q, q ≠ 141 → q ≠ 160 → ¬ (163 ≤ q ∧ q ≤ 168) → Z q = Y q) ∧ (∀ k, k ≠ 32 → k ≠ 36 → k ≠ 39 → k ≠ 40 → Z 141 k = Y 141 k) ∧ RR Z w) : PairV v r1 m1 L1 r2 m2 L2 K X n z := by
  obtain ⟨hC, hR, hP⟩ := hi
  obtain ⟨Y, e1, f, hT⟩ := e1
  have hR1 : RInv K Y S := R_keep (fun q a b => f q (by omega)) rfl hR
  obtain ⟨Z, e2, g, g1, hT2⟩ := e2 Y hR1
  have hC1 : CInv K Y (sT S, w, S.2.2) := by
    refine C_mk hC rfl rfl rfl rfl (fun q _ a _ _ _ => f q a) (fun k _ => by rw [f 16 (by omega)]) hT ⟨?_, ?_⟩ (BC_fr (f _ (by omega)) (f _ (by omega)) hC.2.2.2.2.2.1) (CP_fr (f _ (by omega)) (f _ (by omega)) (fun _ _ => rfl) hC.2.2.2.2.2.2)
    · rw [f 16 (by omega), f 121 (by omega)]; exact hC.2.2.2.1.1
    · rw [f 121 (by omega)]; exact hC.2.2.2.1.2
  refine mkP hn e1 e2 rfl rfl ⟨C_keep (fun q a => g q (by omega) (by omega) (by omega)) (fun _ _ => rfl) rfl hC1, ?_, hP.1, hg, hP.2.2⟩
  refine R_mk hR1 rfl rfl rfl (fun q a _ b c _ _ _ => g q a b c) (fun k _ a b c d _ => g1 k a b c d) hT2 ?_ ?_ ?_
  · rw [g1 10 (by decide) (by decide) (by decide) (by decide), g 147 (by decide) (by decide) (by decide)]; exact hR1.2.2.2.2.1
  · unfold BD
    rw [g1 66 (by decide) (by decide) (by decide) (by decide), g 181 (by decide) (by decide) (by decide)]; exact hR1.2.2.2.2.2.2.1
  · unfold RP
    rw [g 182 (by decide) (by decide) (by decide), g 183 (by decide) (by decide) (by decide)]; exact hR1.2.2.2.2.2.2.2.1
theorem wantL_len {l : List Int32} {h : Int32} (hl : l.length ≤ 6) : (wantL l h).length ≤ 6 := by
  unfold wantL
  split
  · simp
  · split
    · exact hl
    · split
      · exact hl
      · simp; omega
theorem tellL_len {mx m : Nat} {l : List (Int32 × Int32)} {p h : Int32} (hl : l.length ≤ mx) : (tellL mx m l p h).length ≤ mx := by
  unfold tellL
  split
  · simp
  · split
    · exact hl
    · split
      · exact hl
      · split
        · exact hl
        · simp; omega
theorem tellL_who {mx m a : Nat} {l : List (Int32 × Int32)} {p h : Int32} (hm : m ≤ 6) (ha : m ≤ a) (hl : whoOk a l) : whoOk a (tellL mx m l p h) := by
  unfold tellL
  split
  · intro x hx; cases hx
  · cases hf : isF m p with
    | false => rw [if_pos rfl]; exact hl
    | true =>
      rw [if_neg (by decide)]
      split
      · exact hl
      · split
        · exact hl
        · intro x hx
          rcases List.mem_append.mp hx with q | q
          · exact hl x q
          · obtain ⟨j, hj, e⟩ := isF_t hm hf
            have : x = (p, h) := by simpa using q
            rw [this]
            exact ⟨j, by omega, e⟩
theorem planL_len {m : Nat} {l : List (Int32 × Int32)} {p h : Int32} (hl : l.length ≤ 10) : (planL m l p h).length ≤ 10 := by
  unfold planL
  split
  · simp
  · split
    · exact hl
    · split
      · exact hl
      · simp; omega
theorem planL_ok {m : Nat} {l : List (Int32 × Int32)} {what p : Int32} (hm : m ≤ 6) (hl : plOk l) : plOk (planL m l what p) := by
  unfold planL
  split
  · intro x hx; cases hx
  · by_cases q : ¬ (0 ≤ what ∧ what ≤ 3) ∨ (0 < what ∧ isF m p = false)
    · rw [if_pos q]; exact hl
    · rw [if_neg q]
      split
      · exact hl
      · intro x hx
        rcases List.mem_append.mp hx with r | r
        · exact hl x r
        · have : x = (what, if 0 < what then p else 0) := by simpa using r
          rw [this]
          refine ⟨Decidable.byContradiction (fun a => q (Or.inl a)), ?_⟩
          show ∃ j, j < 6 ∧ (if 0 < what then p else 0) = nI j
          by_cases w0 : 0 < what
          · rw [if_pos w0]
            have ft : isF m p = true := by
              cases hf : isF m p with
              | true => rfl
              | false => exact absurd (Or.inr ⟨w0, hf⟩) q
            obtain ⟨j, hj, e⟩ := isF_t hm ft
            exact ⟨j, by omega, e⟩
          · rw [if_neg w0]; exact ⟨0, by decide, rfl⟩
section
variable {K : KT} {X : Nat → Nat → Int32} {n z : Nat} {S : ST}
theorem p_want (h : Int32) (hn : n = 186 + 6 * kM K) (hi : Inv K X S) : PairV (.int (wantA (sR S).1 h)) 2 mX11_want [.ref 16, .int h] 3 mX12_want [.ref 141, .int h] K X n z := by
  obtain ⟨⟨w1, w2⟩, w3⟩ := hi.2.2.2.1
  obtain ⟨c1, c2, c3, c4⟩ := hi.1.2.1
  obtain ⟨Y, e, f, c⟩ := x_want (K := K) (X := X) (n := n) (z := z) (hours := h) c1 w1
  refine rowP (w := (wantL (sR S).1 h, (sR S).2)) hn hi ⟨⟨wantL_len w1, w2⟩, w3⟩ ⟨Y, e, fun q a => f q (by omega), c, ?_, ?_, ?_⟩ (fun Y hR => ?_)
  · show LR2 (Y 40 2) (Y 41) (Y 42) _
    rw [f 40 (by omega), f 41 (by omega), f 42 (by omega)]; exact c2
  · show LR2 (Y 43 2) (Y 45) (Y 44) _
    rw [f 43 (by omega), f 44 (by omega), f 45 (by omega)]; exact c3
  · show LR2 (Y 46 2) (Y 47) (Y 48) _
    rw [f 46 (by omega), f 47 (by omega), f 48 (by omega)]; exact c4
  · obtain ⟨r1, r2, r3, r4⟩ := hR.2.2.1
    obtain ⟨Z, e2, f2, g2, d⟩ := c_want (K := K) (n := n) (z := z) (hours := h) r1 w1
    refine ⟨Z, e2, fun q a b _ => f2 q (by simp; omega), fun k a _ _ _ => g2 k (by simp; omega), d, ?_, ?_, ?_⟩
    · rw [g2 36 (by decide), f2 163 (by decide), f2 164 (by decide)]; exact r2
    · rw [g2 39 (by decide), f2 165 (by decide), f2 166 (by decide)]; exact r3
    · rw [g2 40 (by decide), f2 167 (by decide), f2 168 (by decide)]; exact r4
theorem p_see (p h : Int32) (hn : n = 186 + 6 * kM K) (hi : Inv K X S) : PairV (.int (tellA 5 (tN (sT S)) (sR S).2.1 p h)) 3 mX11_see [.ref 16, .int p, .int h] 3 mX12_see [.ref 141, .int p, .int h] K X n z := by
  obtain ⟨⟨w1, w2, w3⟩, w4, w5⟩ := hi.2.2.2.1
  obtain ⟨c1, c2, c3, c4⟩ := hi.1.2.1
  obtain ⟨Y, e, f, c⟩ := x_see (n := n) (z := z) (p := p) (hours := h) hi.1.1 c2 w2
  refine rowP (w := ((sR S).1, tellL 5 (tN (sT S)) (sR S).2.1 p h, (sR S).2.2)) hn hi ⟨⟨w1, tellL_len w2, w3⟩, tellL_who hi.1.1.1 hi.1.1.1 w4, w5⟩ ⟨Y, e, fun q a => f q (by omega), ?_, c, ?_, ?_⟩ (fun Y hR => ?_)
  · show LR (Y 37 2) (Y 39) _
    rw [f 37 (by omega), f 39 (by omega)]; exact c1
  · show LR2 (Y 43 2) (Y 45) (Y 44) _
    rw [f 43 (by omega), f 44 (by omega), f 45 (by omega)]; exact c3
  · show LR2 (Y 46 2) (Y 47) (Y 48) _
    rw [f 46 (by omega), f 47 (by omega), f 48 (by omega)]; exact c4
  · obtain ⟨r1, r2, r3, r4⟩ := hR.2.2.1
    obtain ⟨Z, e2, f2, g2, d⟩ := c_see (K := K) (n := n) (z := z) (p := p) (hours := h) hR.1 r2 w2
    refine ⟨Z, e2, fun q a b _ => f2 q (by simp; omega), fun k _ a _ _ => g2 k (by simp; omega), ?_, d, ?_, ?_⟩
    · rw [g2 32 (by decide), f2 160 (by decide)]; exact r1
    · rw [g2 39 (by decide), f2 165 (by decide), f2 166 (by decide)]; exact r3
    · rw [g2 40 (by decide), f2 167 (by decide), f2 168 (by decide)]; exact r4
theorem p_plan (p h : Int32) (hn : n = 186 + 6 * kM K) (hi : Inv K X S) : PairV (.int (planA (tN (sT S)) (sR S).2.2.1 p h)) 2 mX11_plan [.ref 16, .int p, .int h] 3 mX12_plan [.ref 141, .int p, .int h] K X n z := by
  obtain ⟨⟨w1, w2, w3, w6⟩, w4, w5, w7⟩ := hi.2.2.2.1
  obtain ⟨c1, c2, c3, c4⟩ := hi.1.2.1
  obtain ⟨Y, e, f, c⟩ := x_plan (n := n) (z := z) (what := p) (p := h) hi.1.1 c3 w3
  refine rowP (w := ((sR S).1, (sR S).2.1, planL (tN (sT S)) (sR S).2.2.1 p h, (sR S).2.2.2)) hn hi ⟨⟨w1, w2, planL_len w3, w6⟩, w4, planL_ok hi.1.1.1 w5, w7⟩ ⟨Y, e, fun q a => f q (by omega), ?_, ?_, c, ?_⟩ (fun Y hR => ?_)
  · show LR (Y 37 2) (Y 39) _
    rw [f 37 (by omega), f 39 (by omega)]; exact c1
  · show LR2 (Y 40 2) (Y 41) (Y 42) _
    rw [f 40 (by omega), f 41 (by omega), f 42 (by omega)]; exact c2
  · show LR2 (Y 46 2) (Y 47) (Y 48) _
    rw [f 46 (by omega), f 47 (by omega), f 48 (by omega)]; exact c4
  · obtain ⟨r1, r2, r3, r4⟩ := hR.2.2.1
    obtain ⟨Z, e2, f2, g2, d⟩ := c_plan (K := K) (n := n) (z := z) (what := p) (p := h) hR.1 r3 w3
    refine ⟨Z, e2, fun q a b _ => f2 q (by simp; omega), fun k _ _ a _ => g2 k (by simp; omega), ?_, ?_, d, ?_⟩
    · rw [g2 32 (by decide), f2 160 (by decide)]; exact r1
    · rw [g2 36 (by decide), f2 163 (by decide), f2 164 (by decide)]; exact r2
    · rw [g2 40 (by decide), f2 167 (by decide), f2 168 (by decide)]; exact r4
theorem p_book (p h : Int32) (hn : n = 186 + 6 * kM K) (hi : Inv K X S) : PairV (.int (tellA 8 (tN (sT S)) (sR S).2.2.2 p h)) 3 mX11_book [.ref 16, .int p, .int h] 3 mX12_book [.ref 141, .int p, .int h] K X n z := by
  obtain ⟨⟨w1, w2, w3, w6⟩, w4, w5, w7⟩ := hi.2.2.2.1
  obtain ⟨c1, c2, c3, c4⟩ := hi.1.2.1
  obtain ⟨Y, e, f, c⟩ := x_book (n := n) (z := z) (p := p) (hours := h) hi.1.1 c4 w6
  refine rowP (w := ((sR S).1, (sR S).2.1, (sR S).2.2.1, tellL 8 (tN (sT S)) (sR S).2.2.2 p h)) hn hi ⟨⟨w1, w2, w3, tellL_len w6⟩, w4, w5, tellL_who hi.1.1.1 (Nat.le_refl _) w7⟩ ⟨Y, e, fun q a => f q (by omega), ?_, ?_, ?_, c⟩ (fun Y hR => ?_)
  · show LR (Y 37 2) (Y 39) _
    rw [f 37 (by omega), f 39 (by omega)]; exact c1
  · show LR2 (Y 40 2) (Y 41) (Y 42) _
    rw [f 40 (by omega), f 41 (by omega), f 42 (by omega)]; exact c2
  · show LR2 (Y 43 2) (Y 45) (Y 44) _
    rw [f 43 (by omega), f 44 (by omega), f 45 (by omega)]; exact c3
  · obtain ⟨r1, r2, r3, r4⟩ := hR.2.2.1
    obtain ⟨Z, e2, f2, g2, d⟩ := c_book (K := K) (n := n) (z := z) (p := p) (hours := h) hR.1 r4 w6
    refine ⟨Z, e2, fun q a b _ => f2 q (by simp; omega), fun k _ _ _ a => g2 k (by simp; omega), ?_, ?_, ?_, d⟩
    · rw [g2 32 (by decide), f2 160 (by decide)]; exact r1
    · rw [g2 36 (by decide), f2 163 (by decide), f2 164 (by decide)]; exact r2
    · rw [g2 39 (by decide), f2 165 (by decide), f2 166 (by decide)]; exact r3
end
