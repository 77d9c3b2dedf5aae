/-! The law's loop. -/
theorem sub6_toInt {a : Nat} (ha : a ≤ 3072) : (nI a - 6).toInt = (a : Int) - 6 := by
  rw [show (6 : Int32) = nI 6 from rfl, Int32.toInt_sub, nI_toInt (by omega), nI_toInt (by omega)]
  rw [Int.bmod_def]
  split <;> omega
theorem lt_sub6 {j a : Nat} (hj : j ≤ 4000) (ha : a ≤ 3072) : nI a - 6 < nI j ↔ a < j + 6 := by
  rw [Int32.lt_iff_toInt_lt, sub6_toInt ha, nI_toInt (by omega)]
  omega
theorem law_loop : ∀ m (K : KT) (X : Nat → Nat → Int32) (S : ST) (n z i : Nat), n = 186 + 6 * kM K → Inv K X S → kN K ≤ 3072 → i ≤ 4000 → kN K < i + 6 * m + 6 → ∃ K2 Z n2 z2, E 27 mL_law 18 [.ref 0, .ref 16, .ref 141, .int (nI i)] [] (hp K X, n, z) = some (some (.int 1), (hp K2 Z, n2, z2)) ∧ n2 ≤ n + 6 * m ∧ z2 ≤ z + 420 * m := by
  intro m
  induction m with
  | zero =>
    intro K X S n z i hn hi hN h4 hL
    have k0 : kd (hp K X 0) < 12 := by show 10 < 12; decide
    have l0 : Int32.ofNat (al (hp K X 0)) = nI (kN K) := rfl
    have lt : nI (kN K) - 6 < nI i := (lt_sub6 h4 hN).mpr (by omega)
    refine ⟨K, X, n, z, ?_, by omega, by omega⟩
    simp (decide := true) only [pL_law_18, pL_law_19, pL_law_20 k0, l0, pL_law_21, pL_law_23, pL_law_24, lt, ↓reduceIte, if_true, pL_law_1271, pL_law_1272]
  | succ m ih =>
    intro K X S n z i hn hi hN h4 hL
    have k0 : kd (hp K X 0) < 12 := by show 10 < 12; decide
    have l0 : Int32.ofNat (al (hp K X 0)) = nI (kN K) := rfl
    by_cases q : kN K < i + 6
    · have lt : nI (kN K) - 6 < nI i := (lt_sub6 h4 hN).mpr q
      refine ⟨K, X, n, z, ?_, by omega, by omega⟩
      simp (decide := true) only [pL_law_18, pL_law_19, pL_law_20 k0, l0, pL_law_21, pL_law_23, pL_law_24, lt, ↓reduceIte, if_true, pL_law_1271, pL_law_1272]
    · have lt : ¬ nI (kN K) - 6 < nI i := fun a => q ((lt_sub6 h4 hN).mp a)
      have k1 : kd (hp K X 0) = 10 := rfl
      have i0 : ix (nI i) (al (hp K X 0)) = true := ix_nI (n := kN K) (by omega) (by omega)
      obtain ⟨K2, Z, n1, z1, e, s2, t2, hn1, hm, hz, S2, hi2⟩ := law_case (i := i) (z := z) (ai (hp K X 0) (cx (nI i)) &&& 63) hn hi (by omega) hN
      have j6 : nI i + 6 = nI (i + 6) := by rw [show (6 : Int32) = nI 6 from rfl, nI_add]
      obtain ⟨K3, W, n3, z3, e3, hn3, hz3⟩ := ih K2 Z S2 n1 z1 (i + 6) hn1 hi2 (by have : kN K2 = kN K := t2; omega) (by omega) (by have : kN K2 = kN K := t2; omega)
      refine ⟨K3, W, n3, z3, ?_, by omega, by omega⟩
      have e4 : E 27 mL_law 1265 [.ref 0, .ref 16, .ref 141, .int (nI i)] [] (hp K2 Z, n1, z1) = some (some (.int 1), (hp K3 W, n3, z3)) := by
        rw [pL_law_1265, pL_law_1268, j6]
        exact e3
      rw [← e4, ← e]
      conv => lhs; rw [pL_law_18]
      simp (decide := true) only [pL_law_19, pL_law_20 k0, l0, pL_law_21, pL_law_23, pL_law_24, lt, ↓reduceIte, if_false, pL_law_27, pL_law_28, pL_law_29 k1 i0, pL_law_30, pL_law_32]
