/-! The reference: small helpers. -/
def bI (b : Bool) : Int32 := if b then 1 else 0
theorem nb1 : nOk .boolean 1 = true := rfl
theorem nb0 : nOk .boolean 0 = true := rfl
theorem nbI (b : Bool) : nOk .boolean (bI b) = true := by cases b <;> rfl
theorem bI_eq0 (b : Bool) : (bI b = 0) = (b = false) := by cases b <;> decide
theorem bI_t : bI true = 1 := rfl
theorem bI_f : bI false = 0 := rfl
theorem c_in (a : Nat) (v lo hi : Int32) (w : Wd) : E 1 mX12_in 0 [.ref a, .int v, .int lo, .int hi] [] w = some (some (.int (bI (decide (lo ≤ v ∧ v ≤ hi)))), w) := by
  by_cases h1 : lo ≤ v
  · by_cases h2 : v ≤ hi
    · have e : decide (lo ≤ v ∧ v ≤ hi) = true := decide_eq_true ⟨h1, h2⟩
      rw [e]
      have h3 : ¬ v < lo := Int32.not_lt.mpr h1
      have h4 : ¬ hi < v := Int32.not_lt.mpr h2
      simp only [pX12_in_0, pX12_in_1, pX12_in_2, pX12_in_5, pX12_in_6, pX12_in_7, pX12_in_10, pX12_in_11, pX12_in_14, pX12_in_15, pX12_in_15t, pX12_in_15f, h3, h4, if_false, nb1, bI_t]
    · have e : decide (lo ≤ v ∧ v ≤ hi) = false := decide_eq_false (fun q => h2 q.2)
      rw [e]
      have h3 : ¬ v < lo := Int32.not_lt.mpr h1
      have h4 : hi < v := Int32.not_le.mp h2
      simp only [pX12_in_0, pX12_in_1, pX12_in_2, pX12_in_5, pX12_in_6, pX12_in_7, pX12_in_10, pX12_in_11, pX12_in_14, pX12_in_15, pX12_in_15t, pX12_in_15f, h3, h4, if_true, if_false, nb0, bI_f]
  · have e : decide (lo ≤ v ∧ v ≤ hi) = false := decide_eq_false (fun q => h1 q.1)
    rw [e]
    have h3 : v < lo := Int32.not_le.mp h1
    simp only [pX12_in_0, pX12_in_1, pX12_in_2, pX12_in_5, pX12_in_6, pX12_in_7, pX12_in_10, pX12_in_11, pX12_in_14, pX12_in_15, pX12_in_15t, pX12_in_15f, h3, if_true, nb0, bI_f]
def hasb (s k : Int32) : Bool := decide ((s >>> (k &&& 31)) &&& 1 = 1)
theorem c_has (a : Nat) (s k : Int32) (w : Wd) : E 1 mX12_has 0 [.ref a, .int s, .int k] [] w = some (some (.int (bI (hasb s k))), w) := by
  unfold hasb
  by_cases h : (s >>> (k &&& 31)) &&& 1 = 1
  · simp only [pX12_has_0, pX12_has_1, pX12_has_2, pX12_has_3, pX12_has_4, pX12_has_5, pX12_has_6, pX12_has_9, pX12_has_10, pX12_has_13, pX12_has_14, pX12_has_14t, pX12_has_14f, h, not_true, if_false, nb1, decide_true, bI_t]
  · simp only [pX12_has_0, pX12_has_1, pX12_has_2, pX12_has_3, pX12_has_4, pX12_has_5, pX12_has_6, pX12_has_9, pX12_has_10, pX12_has_13, pX12_has_14, pX12_has_14t, pX12_has_14f, h, not_false_eq_true, if_true, nb0, decide_false, bI_f]
theorem c_least (a : Nat) (x y : Int32) (w : Wd) : E 1 mX12_least 0 [.ref a, .int x, .int y] [] w = some (some (.int (if x < y then x else y)), w) := by
  by_cases h : x < y
  · have h2 : ¬ y ≤ x := Int32.not_le.mpr h
    simp only [pX12_least_0, pX12_least_1, pX12_least_2, pX12_least_5, pX12_least_6, pX12_least_9, pX12_least_10, h, h2, if_true, if_false]
  · have h2 : y ≤ x := Int32.not_lt.mp h
    simp only [pX12_least_0, pX12_least_1, pX12_least_2, pX12_least_5, pX12_least_6, pX12_least_9, pX12_least_10, h, h2, if_true, if_false]
theorem c_isFruit (K : KT) (X : Nat → Nat → Int32) (p : Int32) (n z : Nat) : E 2 mX12_isFruit 0 [.ref 141, .int p] [] (hp K X, n, z) = some (some (.int (bI (decide (0 ≤ p ∧ p ≤ X 141 0 - 1)))), (hp K X, n, z)) := by
  simp only [pX12_isFruit_0, pX12_isFruit_1, pX12_isFruit_2, pX12_isFruit_3, pX12_isFruit_4, pX12_isFruit_7, pX12_isFruit_8, pX12_isFruit_9, pX12_isFruit_12, pX12_isFruit_12t, pX12_isFruit_12f, kd_i0, kd_i1, kd_i2, kd_i3, kd_jA, kd_r5, kd_r6, kd_r7, al_i, al_j, al_r, ai_i, aj_j, aq_r, cls_o, fv_o, sti_i, stj_j, st2_s, st2_n, bnd_some, set1_same, set1_twice, hc_141, of_141_0, c_in, nbI]
theorem c_isHours (K : KT) (X : Nat → Nat → Int32) (p : Int32) (n z : Nat) : E 2 mX12_isHours 0 [.ref 141, .int p] [] (hp K X, n, z) = some (some (.int (bI (decide (0 ≤ p ∧ p ≤ 4095)))), (hp K X, n, z)) := by
  simp only [pX12_isHours_0, pX12_isHours_1, pX12_isHours_2, pX12_isHours_3, pX12_isHours_6, pX12_isHours_9, pX12_isHours_9t, pX12_isHours_9f, kd_i0, kd_i1, kd_i2, kd_i3, kd_jA, kd_r5, kd_r6, kd_r7, al_i, al_j, al_r, ai_i, aj_j, aq_r, cls_o, fv_o, sti_i, stj_j, st2_s, st2_n, bnd_some, set1_same, set1_twice, hc_141, c_in, nbI]
theorem c_isRipe (K : KT) (X : Nat → Nat → Int32) (p : Int32) (n z : Nat) : E 2 mX12_isRipe 0 [.ref 141, .int p] [] (hp K X, n, z) = some (some (.int (bI (decide (0 ≤ p ∧ p ≤ 9999)))), (hp K X, n, z)) := by
  simp only [pX12_isRipe_0, pX12_isRipe_1, pX12_isRipe_2, pX12_isRipe_3, pX12_isRipe_6, pX12_isRipe_9, pX12_isRipe_9t, pX12_isRipe_9f, kd_i0, kd_i1, kd_i2, kd_i3, kd_jA, kd_r5, kd_r6, kd_r7, al_i, al_j, al_r, ai_i, aj_j, aq_r, cls_o, fv_o, sti_i, stj_j, st2_s, st2_n, bnd_some, set1_same, set1_twice, hc_141, c_in, nbI]
theorem c_isTape (K : KT) (X : Nat → Nat → Int32) (p : Int32) (n z : Nat) : E 2 mX12_isTape 0 [.ref 141, .int p] [] (hp K X, n, z) = some (some (.int (bI (decide (0 ≤ p ∧ p ≤ 5)))), (hp K X, n, z)) := by
  simp only [pX12_isTape_0, pX12_isTape_1, pX12_isTape_2, pX12_isTape_3, pX12_isTape_4, pX12_isTape_7, pX12_isTape_7t, pX12_isTape_7f, kd_i0, kd_i1, kd_i2, kd_i3, kd_jA, kd_r5, kd_r6, kd_r7, al_i, al_j, al_r, ai_i, aj_j, aq_r, cls_o, fv_o, sti_i, stj_j, st2_s, st2_n, bnd_some, set1_same, set1_twice, hc_141, c_in, nbI]
/-- how many of the first k hours are in a set -/
def cntb (s : Int32) : Nat → Nat
  | 0 => 0
  | k + 1 => cntb s k + if hasb s (nI k) then 1 else 0
theorem c_bits (K : KT) (X : Nat → Nat → Int32) (s : Int32) (n z : Nat) : E 2 mX12_bits 0 [.ref 141, .int s, .null, .null] [] (hp K X, n, z) = some (some (.int (nI (cntb s 12))), (hp K X, n, z)) := by
  have loop : ∀ m k, m + k = 12 → E 2 mX12_bits 4 [.ref 141, .int s, .int (nI (cntb s k)), .int (nI k)] [] (hp K X, n, z) = some (some (.int (nI (cntb s 12))), (hp K X, n, z)) := by
    intro m
    induction m with
    | zero =>
      intro k hk
      have e : k = 12 := by omega
      subst e
      have h1 : (12 : Int32) ≤ nI 12 := by decide
      simp only [pX12_bits_0, pX12_bits_1, pX12_bits_2, pX12_bits_3, pX12_bits_4, pX12_bits_5, pX12_bits_7, pX12_bits_10, pX12_bits_11, pX12_bits_12, pX12_bits_13, pX12_bits_14, pX12_bits_17, pX12_bits_20, pX12_bits_21, pX12_bits_24, pX12_bits_25, pX12_bits_26, pX12_bits_27, pX12_bits_30, pX12_bits_33, pX12_bits_34, h1, if_true]
    | succ m ih =>
      intro k hk
      have h1 : ¬ (12 : Int32) ≤ nI k := nI_ge (a := k) (b := 12) (by omega) (by decide)
      have h2 := ih (k + 1) (by omega)
      cases hb : hasb s (nI k) with
      | true =>
        have e1 : cntb s (k + 1) = cntb s k + 1 := by simp [cntb, hb]
        rw [e1, nI_succ, nI_succ] at h2
        rw [pX12_bits_4]
        simp only [pX12_bits_0, pX12_bits_1, pX12_bits_2, pX12_bits_3, pX12_bits_5, pX12_bits_7, pX12_bits_10, pX12_bits_11, pX12_bits_12, pX12_bits_13, pX12_bits_14, pX12_bits_17, pX12_bits_20, pX12_bits_21, pX12_bits_24, pX12_bits_25, pX12_bits_26, pX12_bits_27, pX12_bits_30, pX12_bits_33, pX12_bits_34, kd_i0, kd_i1, kd_i2, kd_i3, kd_jA, kd_r5, kd_r6, kd_r7, al_i, al_j, al_r, ai_i, aj_j, aq_r, cls_o, fv_o, sti_i, stj_j, st2_s, st2_n, bnd_some, set1_same, set1_twice, hc_141, h1, if_false, c_has, hb, bI_t, show ¬ (1 : Int32) = 0 by decide]
        exact h2
      | false =>
        have e1 : cntb s (k + 1) = cntb s k := by simp [cntb, hb]
        rw [e1, nI_succ] at h2
        rw [pX12_bits_4]
        simp only [pX12_bits_0, pX12_bits_1, pX12_bits_2, pX12_bits_3, pX12_bits_5, pX12_bits_7, pX12_bits_10, pX12_bits_11, pX12_bits_12, pX12_bits_13, pX12_bits_14, pX12_bits_17, pX12_bits_20, pX12_bits_21, pX12_bits_24, pX12_bits_25, pX12_bits_26, pX12_bits_27, pX12_bits_30, pX12_bits_33, pX12_bits_34, kd_i0, kd_i1, kd_i2, kd_i3, kd_jA, kd_r5, kd_r6, kd_r7, al_i, al_j, al_r, ai_i, aj_j, aq_r, cls_o, fv_o, sti_i, stj_j, st2_s, st2_n, bnd_some, set1_same, set1_twice, hc_141, h1, if_false, if_true, c_has, hb, bI_f, Int32.add_zero]
        exact h2
  have := loop 12 0 rfl
  simp only [pX12_bits_0, pX12_bits_1, pX12_bits_2, pX12_bits_3, pX12_bits_5, pX12_bits_7, pX12_bits_10, pX12_bits_11, pX12_bits_12, pX12_bits_13, pX12_bits_14, pX12_bits_17, pX12_bits_20, pX12_bits_21, pX12_bits_24, pX12_bits_25, pX12_bits_26, pX12_bits_27, pX12_bits_30, pX12_bits_33, pX12_bits_34]
  exact this
theorem zz6 : ix 3 6 = true := by simp (decide := true) only
theorem zz7 (f : Nat → Int32) : upd f 3 5 4 = f 4 := by simp only [pk_un, ne_eq, Nat.reduceEqDiff, not_false_eq_true]
theorem zz8 (X : Nat → Nat → Int32) (f : Nat → Int32) : set1 X 3 f 4 = X 4 := by simp (decide := true) only [set1_ne]
theorem zz9 : cx 3 = 3 := by simp (decide := true) only
