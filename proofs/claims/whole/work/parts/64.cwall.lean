/-! The class: a wall's cells; what its steps give a fruit. -/
theorem wc_0 {K : KT} {X : Nat → Nat → Int32} {i : Nat} (h : i < kM K) : hp K X (186 + 6 * i) = ob 10 (ofl K X (186 + 6 * i) 10) := hp_o (wshp_0 h)
theorem wc_1 {K : KT} {X : Nat → Nat → Int32} {i : Nat} (h : i < kM K) : hp K X (186 + 6 * i + 1) = iA 1 (kW K i) (X (186 + 6 * i + 1)) := hp_i (wshp_1 h)
theorem ww_1 {K : KT} {X : Nat → Nat → Int32} {i : Nat} {f : Nat → Int32} (h : i < kM K) : uph (hp K X) (186 + 6 * i + 1) (iA 1 (kW K i) f) = hp K (set1 X (186 + 6 * i + 1) f) := hw_i (wshp_1 h)
theorem wc_2 {K : KT} {X : Nat → Nat → Int32} {i : Nat} (h : i < kM K) : hp K X (186 + 6 * i + 2) = iA 0 11 (X (186 + 6 * i + 2)) := hp_i (wshp_2 h)
theorem ww_2 {K : KT} {X : Nat → Nat → Int32} {i : Nat} {f : Nat → Int32} (h : i < kM K) : uph (hp K X) (186 + 6 * i + 2) (iA 0 11 f) = hp K (set1 X (186 + 6 * i + 2) f) := hw_i (wshp_2 h)
theorem wc_3 {K : KT} {X : Nat → Nat → Int32} {i : Nat} (h : i < kM K) : hp K X (186 + 6 * i + 3) = iA 2 (kW K i) (X (186 + 6 * i + 3)) := hp_i (wshp_3 h)
theorem ww_3 {K : KT} {X : Nat → Nat → Int32} {i : Nat} {f : Nat → Int32} (h : i < kM K) : uph (hp K X) (186 + 6 * i + 3) (iA 2 (kW K i) f) = hp K (set1 X (186 + 6 * i + 3) f) := hw_i (wshp_3 h)
theorem wc_4 {K : KT} {X : Nat → Nat → Int32} {i : Nat} (h : i < kM K) : hp K X (186 + 6 * i + 4) = iA 2 (kW K i) (X (186 + 6 * i + 4)) := hp_i (wshp_4 h)
theorem ww_4 {K : KT} {X : Nat → Nat → Int32} {i : Nat} {f : Nat → Int32} (h : i < kM K) : uph (hp K X) (186 + 6 * i + 4) (iA 2 (kW K i) f) = hp K (set1 X (186 + 6 * i + 4) f) := hw_i (wshp_4 h)
theorem wc_5 {K : KT} {X : Nat → Nat → Int32} {i : Nat} (h : i < kM K) : hp K X (186 + 6 * i + 5) = iA 0 (kW K i) (X (186 + 6 * i + 5)) := hp_i (wshp_5 h)
theorem ww_5 {K : KT} {X : Nat → Nat → Int32} {i : Nat} {f : Nat → Int32} (h : i < kM K) : uph (hp K X) (186 + 6 * i + 5) (iA 0 (kW K i) f) = hp K (set1 X (186 + 6 * i + 5) f) := hw_i (wshp_5 h)
theorem wo_0 {K : KT} {X : Nat → Nat → Int32} {i : Nat} : ofl K X (186 + 6 * i) 10 0 = .ref (186 + 6 * i + 1) := rfl
theorem wo_1 {K : KT} {X : Nat → Nat → Int32} {i : Nat} : ofl K X (186 + 6 * i) 10 1 = .int (X (186 + 6 * i) 1) := rfl
theorem wo_2 {K : KT} {X : Nat → Nat → Int32} {i : Nat} : ofl K X (186 + 6 * i) 10 2 = .int (X (186 + 6 * i) 2) := rfl
theorem wo_3 {K : KT} {X : Nat → Nat → Int32} {i : Nat} : ofl K X (186 + 6 * i) 10 3 = .int (X (186 + 6 * i) 3) := rfl
theorem wo_4 {K : KT} {X : Nat → Nat → Int32} {i : Nat} : ofl K X (186 + 6 * i) 10 4 = .ref (186 + 6 * i + 3) := rfl
theorem wo_5 {K : KT} {X : Nat → Nat → Int32} {i : Nat} : ofl K X (186 + 6 * i) 10 5 = .ref (186 + 6 * i + 4) := rfl
theorem wo_6 {K : KT} {X : Nat → Nat → Int32} {i : Nat} : ofl K X (186 + 6 * i) 10 6 = .ref (186 + 6 * i + 5) := rfl
theorem wo_7 {K : KT} {X : Nat → Nat → Int32} {i : Nat} : ofl K X (186 + 6 * i) 10 7 = .int (X (186 + 6 * i) 7) := rfl
theorem wo_8 {K : KT} {X : Nat → Nat → Int32} {i : Nat} : ofl K X (186 + 6 * i) 10 8 = .ref (186 + 6 * i + 2) := rfl
theorem wow_1 {K : KT} {X : Nat → Nat → Int32} {i : Nat} {x : Int32} (h : i < kM K) : uph (hp K X) (186 + 6 * i) (stf (ob 10 (ofl K X (186 + 6 * i) 10)) 1 (.int x)) = hp K (set1 X (186 + 6 * i) (upd (X (186 + 6 * i)) 1 x)) := hw_o (wshp_0 h) rfl
theorem wow_2 {K : KT} {X : Nat → Nat → Int32} {i : Nat} {x : Int32} (h : i < kM K) : uph (hp K X) (186 + 6 * i) (stf (ob 10 (ofl K X (186 + 6 * i) 10)) 2 (.int x)) = hp K (set1 X (186 + 6 * i) (upd (X (186 + 6 * i)) 2 x)) := hw_o (wshp_0 h) rfl
theorem wow_3 {K : KT} {X : Nat → Nat → Int32} {i : Nat} {x : Int32} (h : i < kM K) : uph (hp K X) (186 + 6 * i) (stf (ob 10 (ofl K X (186 + 6 * i) 10)) 3 (.int x)) = hp K (set1 X (186 + 6 * i) (upd (X (186 + 6 * i)) 3 x)) := hw_o (wshp_0 h) rfl
theorem wow_7 {K : KT} {X : Nat → Nat → Int32} {i : Nat} {x : Int32} (h : i < kM K) : uph (hp K X) (186 + 6 * i) (stf (ob 10 (ofl K X (186 + 6 * i) 10)) 7 (.int x)) = hp K (set1 X (186 + 6 * i) (upd (X (186 + 6 * i)) 7 x)) := hw_o (wshp_0 h) rfl
theorem d_addAt {K : KT} {X : Nat → Nat → Int32} {n z q : Nat} {m x : Int32} (hq : shp K q = (1, 0, 12, 0)) :
    ∃ f, E 1 mX10_addAt 0 [.ref q, .int m, .int x, .null] [] (hp K X, n, z) = some (none, (hp K (set1 X q f), n, z)) ∧ ∀ h, h < 12 → f h = if hasb m (nI h) = true then X q h + x else X q h := by
  have hc : ∀ Y, hp K Y q = iA 0 12 (Y q) := fun Y => hp_i hq
  have hw : ∀ Y f, uph (hp K Y) q (iA 0 12 f) = hp K (set1 Y q f) := fun Y f => hw_i hq
  obtain ⟨L, Y, e, eL, ⟨f, rfl⟩, hlo, hhi⟩ := loopI (r := 1) (md := mX10_addAt) (pc := 2) (N := 12) (K := K) (n := n) (z := z)
    (fun k L Y => L = [.ref q, .int m, .int x, .int (nI k)] ∧ (∃ f, Y = set1 X q f) ∧ (∀ h, h < k → Y q h = if hasb m (nI h) = true then X q h + x else X q h) ∧ ∀ h, k ≤ h → Y q h = X q h)
    (by
      rintro k L Y hk ⟨rfl, ⟨f, rfl⟩, hlo, hhi⟩
      have h1 : ¬ (12 : Int32) ≤ nI k := nI_ge (a := k) (b := 12) hk (by omega)
      simp only [set1_same] at hlo hhi
      cases hb : hasb m (nI k) with
      | false =>
        have h2 := isC_has.mpr hb
        refine ⟨_, set1 X q f, ?_, rfl, ⟨f, rfl⟩, ?_, ?_⟩
        · rw [pX10_addAt_2]
          simp only [pX10_addAt_0, pX10_addAt_1, pX10_addAt_3, pX10_addAt_5, pX10_addAt_8, pX10_addAt_9, pX10_addAt_10, pX10_addAt_11, pX10_addAt_12, pX10_addAt_13, pX10_addAt_16, pX10_addAt_17, pX10_addAt_18, pX10_addAt_19, pX10_addAt_20, pX10_addAt_21, pX10_addAt_22, pX10_addAt_23, pX10_addAt_26, pX10_addAt_29, kd_i0, kd_i1, kd_i2, kd_i3, kd_jA, kd_r5, kd_r6, kd_r7, al_i, al_j, al_r, ai_i, aj_j, aq_r, cls_o, fv_o, sti_i, stj_j, st2_s, st2_n, bnd_some, set1_same, set1_twice, ↓reduceIte, set1_ne, ne_eq, Nat.reduceEqDiff, not_false_eq_true, not_true_eq_false, if_true, if_false, ite_Ei, bI_eq0, pk_us, ix4, cx4, ix5, cx5, ix6, cx6, ix7, cx7, ix8, cx8, ix10, cx10, ix11, cx11, ix12, cx12, ix20, cx20, ix24, cx24, ix60, cx60, ix64, cx64, ix100, cx100, ix101, cx101, ix360, cx360, ix600, cx600, hc, hw, h1, h2, nI_1]
        · intro h hh
          rw [set1_same]
          by_cases e : h = k
          · rw [e, hhi k (Nat.le_refl k), hb, if_neg (by decide)]
          · exact hlo h (by omega)
        · intro h hh
          rw [set1_same]
          exact hhi h (by omega)
      | true =>
        have h2 : ¬ (m >>> (nI k &&& 31)) &&& 1 = 0 := fun q => by rw [isC_has.mp q] at hb; cases hb
        refine ⟨_, set1 X q (upd f k (X q k + x)), ?_, rfl, ⟨_, rfl⟩, ?_, ?_⟩
        · rw [pX10_addAt_2]
          simp only [pX10_addAt_0, pX10_addAt_1, pX10_addAt_3, pX10_addAt_5, pX10_addAt_8, pX10_addAt_9, pX10_addAt_10, pX10_addAt_11, pX10_addAt_12, pX10_addAt_13, pX10_addAt_16, pX10_addAt_17, pX10_addAt_18, pX10_addAt_19, pX10_addAt_20, pX10_addAt_21, pX10_addAt_22, pX10_addAt_23, pX10_addAt_26, pX10_addAt_29, kd_i0, kd_i1, kd_i2, kd_i3, kd_jA, kd_r5, kd_r6, kd_r7, al_i, al_j, al_r, ai_i, aj_j, aq_r, cls_o, fv_o, sti_i, stj_j, st2_s, st2_n, bnd_some, set1_same, set1_twice, ↓reduceIte, set1_ne, ne_eq, Nat.reduceEqDiff, not_false_eq_true, not_true_eq_false, if_true, if_false, ite_Ei, bI_eq0, pk_us, ix4, cx4, ix5, cx5, ix6, cx6, ix7, cx7, ix8, cx8, ix10, cx10, ix11, cx11, ix12, cx12, ix20, cx20, ix24, cx24, ix60, cx60, ix64, cx64, ix100, cx100, ix101, cx101, ix360, cx360, ix600, cx600, hc, hw, h1, h2, hk, nI_1, hhi k (Nat.le_refl k)]
        · intro h hh
          rw [set1_same]
          by_cases e : h = k
          · rw [e, pk_us, hb, if_pos rfl]
          · rw [pk_un e]
            exact hlo h (by omega)
        · intro h hh
          rw [set1_same, pk_un (by omega)]
          exact hhi h (by omega))
    (L := [.ref q, .int m, .int x, .int 0]) (X := X) ⟨rfl, ⟨X q, (set1_self X q).symm⟩, fun j hj => absurd hj (by omega), fun _ _ => rfl⟩
  refine ⟨f, ?_, fun j hj => by have := hlo j hj; rwa [set1_same] at this⟩
  have h1 : (12 : Int32) ≤ nI 12 := by decide
  simp only [pX10_addAt_0, pX10_addAt_1, pX10_addAt_3, pX10_addAt_5, pX10_addAt_8, pX10_addAt_9, pX10_addAt_10, pX10_addAt_11, pX10_addAt_12, pX10_addAt_13, pX10_addAt_16, pX10_addAt_17, pX10_addAt_18, pX10_addAt_19, pX10_addAt_20, pX10_addAt_21, pX10_addAt_22, pX10_addAt_23, pX10_addAt_26, pX10_addAt_29, kd_i0, kd_i1, kd_i2, kd_i3, kd_jA, kd_r5, kd_r6, kd_r7, al_i, al_j, al_r, ai_i, aj_j, aq_r, cls_o, fv_o, sti_i, stj_j, st2_s, st2_n, bnd_some, set1_same, set1_twice, ↓reduceIte, set1_ne, ne_eq, Nat.reduceEqDiff, not_false_eq_true, not_true_eq_false, if_true, if_false, ite_Ei, bI_eq0, pk_us, ix4, cx4, ix5, cx5, ix6, cx6, ix7, cx7, ix8, cx8, ix10, cx10, ix11, cx11, ix12, cx12, ix20, cx20, ix24, cx24, ix60, cx60, ix64, cx64, ix100, cx100, ix101, cx101, ix360, cx360, ix600, cx600]
  rw [e, eL]
  simp only [pX10_addAt_0, pX10_addAt_1, pX10_addAt_2, pX10_addAt_3, pX10_addAt_5, pX10_addAt_8, pX10_addAt_9, pX10_addAt_10, pX10_addAt_11, pX10_addAt_12, pX10_addAt_13, pX10_addAt_16, pX10_addAt_17, pX10_addAt_18, pX10_addAt_19, pX10_addAt_20, pX10_addAt_21, pX10_addAt_22, pX10_addAt_23, pX10_addAt_26, pX10_addAt_29, kd_i0, kd_i1, kd_i2, kd_i3, kd_jA, kd_r5, kd_r6, kd_r7, al_i, al_j, al_r, ai_i, aj_j, aq_r, cls_o, fv_o, sti_i, stj_j, st2_s, st2_n, bnd_some, set1_same, set1_twice, ↓reduceIte, set1_ne, ne_eq, Nat.reduceEqDiff, not_false_eq_true, not_true_eq_false, if_true, if_false, ite_Ei, bI_eq0, pk_us, ix4, cx4, ix5, cx5, ix6, cx6, ix7, cx7, ix8, cx8, ix10, cx10, ix11, cx11, ix12, cx12, ix20, cx20, ix24, cx24, ix60, cx60, ix64, cx64, ix100, cx100, ix101, cx101, ix360, cx360, ix600, cx600, h1]
theorem d_holds {w : Wd} {v m : Int32} {r : Nat} (hr : r < 3) : E 1 mX10_holds 0 [.int v, .int (60 + nI r), .int m] [] w = some (some (.int (bI (if r = 0 then decide (v < m) else if r = 1 then decide (v = m) else decide (m < v)))), w) := by
  have : r = 0 ∨ r = 1 ∨ r = 2 := by omega
  rcases this with rfl | rfl | rfl
  · have e : (60 : Int32) + nI 0 = 60 := by decide
    by_cases q : v < m
    · have q2 : ¬ m ≤ v := Int32.not_le.mpr q
      simp (decide := true) only [pX10_holds_0, pX10_holds_1, pX10_holds_28, pX10_holds_29, pX10_holds_30, pX10_holds_33, pX10_holds_34, pX10_holds_37, pX10_holds_38, pX10_holds_38t, pX10_holds_38f, pX10_holds_39, pX10_holds_40, pX10_holds_41, pX10_holds_44, pX10_holds_45, pX10_holds_48, pX10_holds_49, pX10_holds_49t, pX10_holds_49f, pX10_holds_50, pX10_holds_51, pX10_holds_52, pX10_holds_55, pX10_holds_56, pX10_holds_59, pX10_holds_60, pX10_holds_60t, pX10_holds_60f, kd_i0, kd_i1, kd_i2, kd_i3, kd_jA, kd_r5, kd_r6, kd_r7, al_i, al_j, al_r, ai_i, aj_j, aq_r, cls_o, fv_o, sti_i, stj_j, st2_s, st2_n, bnd_some, set1_same, set1_twice, ↓reduceIte, set1_ne, ne_eq, Nat.reduceEqDiff, not_false_eq_true, not_true_eq_false, if_true, if_false, ite_Ei, bI_eq0, pk_us, ix4, cx4, ix5, cx5, ix6, cx6, ix7, cx7, ix8, cx8, ix10, cx10, ix11, cx11, ix12, cx12, ix20, cx20, ix24, cx24, ix60, cx60, ix64, cx64, ix100, cx100, ix101, cx101, ix360, cx360, ix600, cx600, e, q, q2, nb1, bI_t, decide_true]
    · have q2 : m ≤ v := Int32.not_lt.mp q
      simp (decide := true) only [pX10_holds_0, pX10_holds_1, pX10_holds_28, pX10_holds_29, pX10_holds_30, pX10_holds_33, pX10_holds_34, pX10_holds_37, pX10_holds_38, pX10_holds_38t, pX10_holds_38f, pX10_holds_39, pX10_holds_40, pX10_holds_41, pX10_holds_44, pX10_holds_45, pX10_holds_48, pX10_holds_49, pX10_holds_49t, pX10_holds_49f, pX10_holds_50, pX10_holds_51, pX10_holds_52, pX10_holds_55, pX10_holds_56, pX10_holds_59, pX10_holds_60, pX10_holds_60t, pX10_holds_60f, kd_i0, kd_i1, kd_i2, kd_i3, kd_jA, kd_r5, kd_r6, kd_r7, al_i, al_j, al_r, ai_i, aj_j, aq_r, cls_o, fv_o, sti_i, stj_j, st2_s, st2_n, bnd_some, set1_same, set1_twice, ↓reduceIte, set1_ne, ne_eq, Nat.reduceEqDiff, not_false_eq_true, not_true_eq_false, if_true, if_false, ite_Ei, bI_eq0, pk_us, ix4, cx4, ix5, cx5, ix6, cx6, ix7, cx7, ix8, cx8, ix10, cx10, ix11, cx11, ix12, cx12, ix20, cx20, ix24, cx24, ix60, cx60, ix64, cx64, ix100, cx100, ix101, cx101, ix360, cx360, ix600, cx600, e, q, q2, nb0, bI_f, decide_false]
  · have e : (60 : Int32) + nI 1 = 61 := by decide
    by_cases q : v = m
    · simp (decide := true) only [pX10_holds_0, pX10_holds_1, pX10_holds_28, pX10_holds_29, pX10_holds_30, pX10_holds_33, pX10_holds_34, pX10_holds_37, pX10_holds_38, pX10_holds_38t, pX10_holds_38f, pX10_holds_39, pX10_holds_40, pX10_holds_41, pX10_holds_44, pX10_holds_45, pX10_holds_48, pX10_holds_49, pX10_holds_49t, pX10_holds_49f, pX10_holds_50, pX10_holds_51, pX10_holds_52, pX10_holds_55, pX10_holds_56, pX10_holds_59, pX10_holds_60, pX10_holds_60t, pX10_holds_60f, kd_i0, kd_i1, kd_i2, kd_i3, kd_jA, kd_r5, kd_r6, kd_r7, al_i, al_j, al_r, ai_i, aj_j, aq_r, cls_o, fv_o, sti_i, stj_j, st2_s, st2_n, bnd_some, set1_same, set1_twice, ↓reduceIte, set1_ne, ne_eq, Nat.reduceEqDiff, not_false_eq_true, not_true_eq_false, if_true, if_false, ite_Ei, bI_eq0, pk_us, ix4, cx4, ix5, cx5, ix6, cx6, ix7, cx7, ix8, cx8, ix10, cx10, ix11, cx11, ix12, cx12, ix20, cx20, ix24, cx24, ix60, cx60, ix64, cx64, ix100, cx100, ix101, cx101, ix360, cx360, ix600, cx600, e, q, nb1, bI_t, decide_true]
    · simp (decide := true) only [pX10_holds_0, pX10_holds_1, pX10_holds_28, pX10_holds_29, pX10_holds_30, pX10_holds_33, pX10_holds_34, pX10_holds_37, pX10_holds_38, pX10_holds_38t, pX10_holds_38f, pX10_holds_39, pX10_holds_40, pX10_holds_41, pX10_holds_44, pX10_holds_45, pX10_holds_48, pX10_holds_49, pX10_holds_49t, pX10_holds_49f, pX10_holds_50, pX10_holds_51, pX10_holds_52, pX10_holds_55, pX10_holds_56, pX10_holds_59, pX10_holds_60, pX10_holds_60t, pX10_holds_60f, kd_i0, kd_i1, kd_i2, kd_i3, kd_jA, kd_r5, kd_r6, kd_r7, al_i, al_j, al_r, ai_i, aj_j, aq_r, cls_o, fv_o, sti_i, stj_j, st2_s, st2_n, bnd_some, set1_same, set1_twice, ↓reduceIte, set1_ne, ne_eq, Nat.reduceEqDiff, not_false_eq_true, not_true_eq_false, if_true, if_false, ite_Ei, bI_eq0, pk_us, ix4, cx4, ix5, cx5, ix6, cx6, ix7, cx7, ix8, cx8, ix10, cx10, ix11, cx11, ix12, cx12, ix20, cx20, ix24, cx24, ix60, cx60, ix64, cx64, ix100, cx100, ix101, cx101, ix360, cx360, ix600, cx600, e, q, nb0, bI_f, decide_false]
  · have e : (60 : Int32) + nI 2 = 62 := by decide
    by_cases q : m < v
    · have q2 : ¬ v ≤ m := Int32.not_le.mpr q
      simp (decide := true) only [pX10_holds_0, pX10_holds_1, pX10_holds_28, pX10_holds_29, pX10_holds_30, pX10_holds_33, pX10_holds_34, pX10_holds_37, pX10_holds_38, pX10_holds_38t, pX10_holds_38f, pX10_holds_39, pX10_holds_40, pX10_holds_41, pX10_holds_44, pX10_holds_45, pX10_holds_48, pX10_holds_49, pX10_holds_49t, pX10_holds_49f, pX10_holds_50, pX10_holds_51, pX10_holds_52, pX10_holds_55, pX10_holds_56, pX10_holds_59, pX10_holds_60, pX10_holds_60t, pX10_holds_60f, kd_i0, kd_i1, kd_i2, kd_i3, kd_jA, kd_r5, kd_r6, kd_r7, al_i, al_j, al_r, ai_i, aj_j, aq_r, cls_o, fv_o, sti_i, stj_j, st2_s, st2_n, bnd_some, set1_same, set1_twice, ↓reduceIte, set1_ne, ne_eq, Nat.reduceEqDiff, not_false_eq_true, not_true_eq_false, if_true, if_false, ite_Ei, bI_eq0, pk_us, ix4, cx4, ix5, cx5, ix6, cx6, ix7, cx7, ix8, cx8, ix10, cx10, ix11, cx11, ix12, cx12, ix20, cx20, ix24, cx24, ix60, cx60, ix64, cx64, ix100, cx100, ix101, cx101, ix360, cx360, ix600, cx600, e, q, q2, nb1, bI_t, decide_true]
    · have q2 : v ≤ m := Int32.not_lt.mp q
      simp (decide := true) only [pX10_holds_0, pX10_holds_1, pX10_holds_28, pX10_holds_29, pX10_holds_30, pX10_holds_33, pX10_holds_34, pX10_holds_37, pX10_holds_38, pX10_holds_38t, pX10_holds_38f, pX10_holds_39, pX10_holds_40, pX10_holds_41, pX10_holds_44, pX10_holds_45, pX10_holds_48, pX10_holds_49, pX10_holds_49t, pX10_holds_49f, pX10_holds_50, pX10_holds_51, pX10_holds_52, pX10_holds_55, pX10_holds_56, pX10_holds_59, pX10_holds_60, pX10_holds_60t, pX10_holds_60f, kd_i0, kd_i1, kd_i2, kd_i3, kd_jA, kd_r5, kd_r6, kd_r7, al_i, al_j, al_r, ai_i, aj_j, aq_r, cls_o, fv_o, sti_i, stj_j, st2_s, st2_n, bnd_some, set1_same, set1_twice, ↓reduceIte, set1_ne, ne_eq, Nat.reduceEqDiff, not_false_eq_true, not_true_eq_false, if_true, if_false, ite_Ei, bI_eq0, pk_us, ix4, cx4, ix5, cx5, ix6, cx6, ix7, cx7, ix8, cx8, ix10, cx10, ix11, cx11, ix12, cx12, ix20, cx20, ix24, cx24, ix60, cx60, ix64, cx64, ix100, cx100, ix101, cx101, ix360, cx360, ix600, cx600, e, q, q2, nb0, bI_f, decide_false]
theorem d_numB {K : KT} {X : Nat → Nat → Int32} {n z t p f : Nat} {T : TR} (ht : isT t) (hC : CT K X t T) (hpn : p < tN T) (hf : f < 6) (h3 : f ≠ 3) : E 1 mX8_numberBehind 0 [.ref t, .int (ltr (nI f)), .int (nI p)] [] (hp K X, n, z) = some (some (.int (fact T p 0 (nI f))), (hp K X, n, z)) := by
  have hp6 : p < 6 := Nat.lt_of_lt_of_le hpn hC.1
  obtain ⟨e1, e2, e3, e4⟩ := hC.2.2.2.2.1 p hpn
  have ed := hC.2.2.2.1
  have d10 : ¬ (10 : Int32) = 0 := by decide
  have : f = 0 ∨ f = 1 ∨ f = 2 ∨ f = 4 ∨ f = 5 := by omega
  rcases this with rfl | rfl | rfl | rfl | rfl
  · have e : ltr (nI 0) = 112 := by decide
    have ef : fact T p 0 (nI 0) = nI p := by unfold fact; rw [if_pos (by decide)]
    simp (decide := true) only [pX8_numberBehind_0, pX8_numberBehind_1, pX8_numberBehind_44, pX8_numberBehind_45, pX8_numberBehind_46, pX8_numberBehind_47, pX8_numberBehind_50, pX8_numberBehind_51, pX8_numberBehind_52, pX8_numberBehind_53, pX8_numberBehind_54, pX8_numberBehind_57, pX8_numberBehind_58, pX8_numberBehind_59, pX8_numberBehind_60, pX8_numberBehind_61, pX8_numberBehind_64, pX8_numberBehind_65, pX8_numberBehind_66, pX8_numberBehind_68, pX8_numberBehind_69, pX8_numberBehind_70, pX8_numberBehind_71, pX8_numberBehind_74, pX8_numberBehind_76, pX8_numberBehind_77, kd_i0, kd_i1, kd_i2, kd_i3, kd_jA, kd_r5, kd_r6, kd_r7, al_i, al_j, al_r, ai_i, aj_j, aq_r, cls_o, fv_o, sti_i, stj_j, st2_s, st2_n, bnd_some, set1_same, set1_twice, to_0, to_1, to_2, to_3, to_4, to_5, to_6, to_7, to_8, to_9, to_10, to_11, to_12, to_13, to_14, to_15, ro_12_0, ro_12_1, ro_12_2, ro_15_0, ro_15_1, ro_15_2, ro_18_0, ro_18_1, ro_18_2, ro_21_0, ro_21_1, ro_21_2, va_rfs, tc_0 ht, tc_1 ht, tw_1 ht, tc_2 ht, tw_2 ht, tc_3 ht, tw_3 ht, tc_4 ht, tw_4 ht, tc_5 ht, tc_12 ht, tc_13 ht, tw_13 ht, tc_14 ht, tw_14 ht, tc_15 ht, tc_16 ht, tw_16 ht, tc_17 ht, tw_17 ht, tc_18 ht, tc_19 ht, tw_19 ht, tc_20 ht, tw_20 ht, tc_21 ht, tc_22 ht, tw_22 ht, tc_23 ht, tw_23 ht, tc_24 ht, tc_31 ht, tw_31 ht, tc_r ht, tw_r ht, tc_s ht, tw_s ht, tow_1 ht, tow_2 ht, tow_3 ht, tow_4 ht, row_12 ht, row_15 ht, row_18 ht, row_21 ht, ↓reduceIte, set1_ne, ne_eq, Nat.reduceEqDiff, not_false_eq_true, not_true_eq_false, if_true, if_false, ite_Ei, bI_eq0, pk_us, ix4, cx4, ix5, cx5, ix6, cx6, ix7, cx7, ix8, cx8, ix10, cx10, ix11, cx11, ix12, cx12, ix20, cx20, ix24, cx24, ix60, cx60, ix64, cx64, ix100, cx100, ix101, cx101, ix360, cx360, ix600, cx600, e, ef]
  · have e : ltr (nI 1) = 107 := by decide
    have ef : fact T p 0 (nI 1) = tK T p := by unfold fact; rw [if_neg (by decide), if_pos (by decide)]
    simp (decide := true) only [pX8_numberBehind_0, pX8_numberBehind_1, pX8_numberBehind_44, pX8_numberBehind_45, pX8_numberBehind_46, pX8_numberBehind_47, pX8_numberBehind_50, pX8_numberBehind_51, pX8_numberBehind_52, pX8_numberBehind_53, pX8_numberBehind_54, pX8_numberBehind_57, pX8_numberBehind_58, pX8_numberBehind_59, pX8_numberBehind_60, pX8_numberBehind_61, pX8_numberBehind_64, pX8_numberBehind_65, pX8_numberBehind_66, pX8_numberBehind_68, pX8_numberBehind_69, pX8_numberBehind_70, pX8_numberBehind_71, pX8_numberBehind_74, pX8_numberBehind_76, pX8_numberBehind_77, kd_i0, kd_i1, kd_i2, kd_i3, kd_jA, kd_r5, kd_r6, kd_r7, al_i, al_j, al_r, ai_i, aj_j, aq_r, cls_o, fv_o, sti_i, stj_j, st2_s, st2_n, bnd_some, set1_same, set1_twice, to_0, to_1, to_2, to_3, to_4, to_5, to_6, to_7, to_8, to_9, to_10, to_11, to_12, to_13, to_14, to_15, ro_12_0, ro_12_1, ro_12_2, ro_15_0, ro_15_1, ro_15_2, ro_18_0, ro_18_1, ro_18_2, ro_21_0, ro_21_1, ro_21_2, va_rfs, tc_0 ht, tc_1 ht, tw_1 ht, tc_2 ht, tw_2 ht, tc_3 ht, tw_3 ht, tc_4 ht, tw_4 ht, tc_5 ht, tc_12 ht, tc_13 ht, tw_13 ht, tc_14 ht, tw_14 ht, tc_15 ht, tc_16 ht, tw_16 ht, tc_17 ht, tw_17 ht, tc_18 ht, tc_19 ht, tw_19 ht, tc_20 ht, tw_20 ht, tc_21 ht, tc_22 ht, tw_22 ht, tc_23 ht, tw_23 ht, tc_24 ht, tc_31 ht, tw_31 ht, tc_r ht, tw_r ht, tc_s ht, tw_s ht, tow_1 ht, tow_2 ht, tow_3 ht, tow_4 ht, row_12 ht, row_15 ht, row_18 ht, row_21 ht, ↓reduceIte, set1_ne, ne_eq, Nat.reduceEqDiff, not_false_eq_true, not_true_eq_false, if_true, if_false, ite_Ei, bI_eq0, pk_us, ix4, cx4, ix5, cx5, ix6, cx6, ix7, cx7, ix8, cx8, ix10, cx10, ix11, cx11, ix12, cx12, ix20, cx20, ix24, cx24, ix60, cx60, ix64, cx64, ix100, cx100, ix101, cx101, ix360, cx360, ix600, cx600, e, ef, hp6, e1]
  · have e : ltr (nI 2) = 118 := by decide
    have ef : fact T p 0 (nI 2) = tV T p := by unfold fact; rw [if_neg (by decide), if_neg (by decide), if_pos (by decide)]
    simp (decide := true) only [pX8_numberBehind_0, pX8_numberBehind_1, pX8_numberBehind_44, pX8_numberBehind_45, pX8_numberBehind_46, pX8_numberBehind_47, pX8_numberBehind_50, pX8_numberBehind_51, pX8_numberBehind_52, pX8_numberBehind_53, pX8_numberBehind_54, pX8_numberBehind_57, pX8_numberBehind_58, pX8_numberBehind_59, pX8_numberBehind_60, pX8_numberBehind_61, pX8_numberBehind_64, pX8_numberBehind_65, pX8_numberBehind_66, pX8_numberBehind_68, pX8_numberBehind_69, pX8_numberBehind_70, pX8_numberBehind_71, pX8_numberBehind_74, pX8_numberBehind_76, pX8_numberBehind_77, kd_i0, kd_i1, kd_i2, kd_i3, kd_jA, kd_r5, kd_r6, kd_r7, al_i, al_j, al_r, ai_i, aj_j, aq_r, cls_o, fv_o, sti_i, stj_j, st2_s, st2_n, bnd_some, set1_same, set1_twice, to_0, to_1, to_2, to_3, to_4, to_5, to_6, to_7, to_8, to_9, to_10, to_11, to_12, to_13, to_14, to_15, ro_12_0, ro_12_1, ro_12_2, ro_15_0, ro_15_1, ro_15_2, ro_18_0, ro_18_1, ro_18_2, ro_21_0, ro_21_1, ro_21_2, va_rfs, tc_0 ht, tc_1 ht, tw_1 ht, tc_2 ht, tw_2 ht, tc_3 ht, tw_3 ht, tc_4 ht, tw_4 ht, tc_5 ht, tc_12 ht, tc_13 ht, tw_13 ht, tc_14 ht, tw_14 ht, tc_15 ht, tc_16 ht, tw_16 ht, tc_17 ht, tw_17 ht, tc_18 ht, tc_19 ht, tw_19 ht, tc_20 ht, tw_20 ht, tc_21 ht, tc_22 ht, tw_22 ht, tc_23 ht, tw_23 ht, tc_24 ht, tc_31 ht, tw_31 ht, tc_r ht, tw_r ht, tc_s ht, tw_s ht, tow_1 ht, tow_2 ht, tow_3 ht, tow_4 ht, row_12 ht, row_15 ht, row_18 ht, row_21 ht, ↓reduceIte, set1_ne, ne_eq, Nat.reduceEqDiff, not_false_eq_true, not_true_eq_false, if_true, if_false, ite_Ei, bI_eq0, pk_us, ix4, cx4, ix5, cx5, ix6, cx6, ix7, cx7, ix8, cx8, ix10, cx10, ix11, cx11, ix12, cx12, ix20, cx20, ix24, cx24, ix60, cx60, ix64, cx64, ix100, cx100, ix101, cx101, ix360, cx360, ix600, cx600, e, ef, hp6, e2]
  · have e : ltr (nI 4) = 114 := by decide
    have ef : fact T p 0 (nI 4) = tR T p / 10 := by unfold fact; rw [if_neg (by decide), if_neg (by decide), if_neg (by decide), if_neg (by decide), if_pos (by decide)]
    simp (decide := true) only [pX8_numberBehind_0, pX8_numberBehind_1, pX8_numberBehind_44, pX8_numberBehind_45, pX8_numberBehind_46, pX8_numberBehind_47, pX8_numberBehind_50, pX8_numberBehind_51, pX8_numberBehind_52, pX8_numberBehind_53, pX8_numberBehind_54, pX8_numberBehind_57, pX8_numberBehind_58, pX8_numberBehind_59, pX8_numberBehind_60, pX8_numberBehind_61, pX8_numberBehind_64, pX8_numberBehind_65, pX8_numberBehind_66, pX8_numberBehind_68, pX8_numberBehind_69, pX8_numberBehind_70, pX8_numberBehind_71, pX8_numberBehind_74, pX8_numberBehind_76, pX8_numberBehind_77, kd_i0, kd_i1, kd_i2, kd_i3, kd_jA, kd_r5, kd_r6, kd_r7, al_i, al_j, al_r, ai_i, aj_j, aq_r, cls_o, fv_o, sti_i, stj_j, st2_s, st2_n, bnd_some, set1_same, set1_twice, to_0, to_1, to_2, to_3, to_4, to_5, to_6, to_7, to_8, to_9, to_10, to_11, to_12, to_13, to_14, to_15, ro_12_0, ro_12_1, ro_12_2, ro_15_0, ro_15_1, ro_15_2, ro_18_0, ro_18_1, ro_18_2, ro_21_0, ro_21_1, ro_21_2, va_rfs, tc_0 ht, tc_1 ht, tw_1 ht, tc_2 ht, tw_2 ht, tc_3 ht, tw_3 ht, tc_4 ht, tw_4 ht, tc_5 ht, tc_12 ht, tc_13 ht, tw_13 ht, tc_14 ht, tw_14 ht, tc_15 ht, tc_16 ht, tw_16 ht, tc_17 ht, tw_17 ht, tc_18 ht, tc_19 ht, tw_19 ht, tc_20 ht, tw_20 ht, tc_21 ht, tc_22 ht, tw_22 ht, tc_23 ht, tw_23 ht, tc_24 ht, tc_31 ht, tw_31 ht, tc_r ht, tw_r ht, tc_s ht, tw_s ht, tow_1 ht, tow_2 ht, tow_3 ht, tow_4 ht, row_12 ht, row_15 ht, row_18 ht, row_21 ht, ↓reduceIte, set1_ne, ne_eq, Nat.reduceEqDiff, not_false_eq_true, not_true_eq_false, if_true, if_false, ite_Ei, bI_eq0, pk_us, ix4, cx4, ix5, cx5, ix6, cx6, ix7, cx7, ix8, cx8, ix10, cx10, ix11, cx11, ix12, cx12, ix20, cx20, ix24, cx24, ix60, cx60, ix64, cx64, ix100, cx100, ix101, cx101, ix360, cx360, ix600, cx600, e, ef, hp6, e4, d10]
  · have e : ltr (nI 5) = 100 := by decide
    have ef : fact T p 0 (nI 5) = tD T - tD T / 10 * 10 := by unfold fact; rw [if_neg (by decide), if_neg (by decide), if_neg (by decide), if_neg (by decide), if_neg (by decide)]
    simp (decide := true) only [pX8_numberBehind_0, pX8_numberBehind_1, pX8_numberBehind_44, pX8_numberBehind_45, pX8_numberBehind_46, pX8_numberBehind_47, pX8_numberBehind_50, pX8_numberBehind_51, pX8_numberBehind_52, pX8_numberBehind_53, pX8_numberBehind_54, pX8_numberBehind_57, pX8_numberBehind_58, pX8_numberBehind_59, pX8_numberBehind_60, pX8_numberBehind_61, pX8_numberBehind_64, pX8_numberBehind_65, pX8_numberBehind_66, pX8_numberBehind_68, pX8_numberBehind_69, pX8_numberBehind_70, pX8_numberBehind_71, pX8_numberBehind_74, pX8_numberBehind_76, pX8_numberBehind_77, kd_i0, kd_i1, kd_i2, kd_i3, kd_jA, kd_r5, kd_r6, kd_r7, al_i, al_j, al_r, ai_i, aj_j, aq_r, cls_o, fv_o, sti_i, stj_j, st2_s, st2_n, bnd_some, set1_same, set1_twice, to_0, to_1, to_2, to_3, to_4, to_5, to_6, to_7, to_8, to_9, to_10, to_11, to_12, to_13, to_14, to_15, ro_12_0, ro_12_1, ro_12_2, ro_15_0, ro_15_1, ro_15_2, ro_18_0, ro_18_1, ro_18_2, ro_21_0, ro_21_1, ro_21_2, va_rfs, tc_0 ht, tc_1 ht, tw_1 ht, tc_2 ht, tw_2 ht, tc_3 ht, tw_3 ht, tc_4 ht, tw_4 ht, tc_5 ht, tc_12 ht, tc_13 ht, tw_13 ht, tc_14 ht, tw_14 ht, tc_15 ht, tc_16 ht, tw_16 ht, tc_17 ht, tw_17 ht, tc_18 ht, tc_19 ht, tw_19 ht, tc_20 ht, tw_20 ht, tc_21 ht, tc_22 ht, tw_22 ht, tc_23 ht, tw_23 ht, tc_24 ht, tc_31 ht, tw_31 ht, tc_r ht, tw_r ht, tc_s ht, tw_s ht, tow_1 ht, tow_2 ht, tow_3 ht, tow_4 ht, row_12 ht, row_15 ht, row_18 ht, row_21 ht, ↓reduceIte, set1_ne, ne_eq, Nat.reduceEqDiff, not_false_eq_true, not_true_eq_false, if_true, if_false, ite_Ei, bI_eq0, pk_us, ix4, cx4, ix5, cx5, ix6, cx6, ix7, cx7, ix8, cx8, ix10, cx10, ix11, cx11, ix12, cx12, ix20, cx20, ix24, cx24, ix60, cx60, ix64, cx64, ix100, cx100, ix101, cx101, ix360, cx360, ix600, cx600, e, ef, ed, d10]
/-- the steps R stand from j on -/
def AtS (X : Nat → Nat → Int32) (i j : Nat) (R : List (Int32 × Int32 × Int32)) : Prop := ∀ k (h : k < R.length), X (186 + 6 * i + 3) (j + k) = R[k].1 ∧ X (186 + 6 * i + 4) (j + k) = R[k].2.1 ∧ X (186 + 6 * i + 5) (j + k) = R[k].2.2
theorem AtS_hd {X : Nat → Nat → Int32} {i j : Nat} {x : Int32 × Int32 × Int32} {R : List (Int32 × Int32 × Int32)} (h : AtS X i j (x :: R)) : X (186 + 6 * i + 3) j = x.1 ∧ X (186 + 6 * i + 4) j = x.2.1 ∧ X (186 + 6 * i + 5) j = x.2.2 := h 0 (by simp)
theorem AtS_tl {X : Nat → Nat → Int32} {i j : Nat} {x : Int32 × Int32 × Int32} {R : List (Int32 × Int32 × Int32)} (h : AtS X i j (x :: R)) : AtS X i (j + 1) R := by
  intro k hk
  have := h (k + 1) (by simp; omega)
  rw [show j + (k + 1) = j + 1 + k by omega] at this
  exact this
theorem AtS_app {X : Nat → Nat → Int32} {i : Nat} : ∀ {j : Nat} {R S : List (Int32 × Int32 × Int32)}, AtS X i j (R ++ S) → AtS X i j R ∧ AtS X i (j + R.length) S := by
  intro j R
  induction R generalizing j with
  | nil => intro S h; exact ⟨fun k hk => absurd hk (by simp), h⟩
  | cons x R ih =>
    intro S h
    obtain ⟨h1, h2⟩ := ih (AtS_tl h)
    refine ⟨?_, ?_⟩
    · intro k hk
      match k with
      | 0 => exact AtS_hd h
      | k + 1 =>
        have := h1 k (by simp at hk; omega)
        rw [show j + (k + 1) = j + 1 + k by omega]
        exact this
    · rw [List.length_cons, show j + (R.length + 1) = j + 1 + R.length by omega]
      exact h2
theorem AtS_fr {X Y : Nat → Nat → Int32} {i j : Nat} {R : List (Int32 × Int32 × Int32)} (f : ∀ q, 186 ≤ q → ¬ isW q → Y q = X q) (h : AtS X i j R) : AtS Y i j R := by
  intro k hk
  rw [f (186 + 6 * i + 3) (by omega) (fun q => by unfold isW at q; omega), f (186 + 6 * i + 4) (by omega) (fun q => by unfold isW at q; omega), f (186 + 6 * i + 5) (by omega) (fun q => by unfold isW at q; omega)]
  exact h k hk
/-- a pile of masks, the newest last -/
def plM (f : Nat → Int32) : List Int32 → Prop
  | [] => True
  | b :: r => f r.length = b ∧ plM f r
theorem plM_upd {f : Nat → Int32} {x : Int32} : ∀ {r : List Int32} {k : Nat}, r.length ≤ k → plM f r → plM (upd f k x) r := by
  intro r
  induction r with
  | nil => intro _ _ _; trivial
  | cons b r ih =>
    intro k hk h
    simp only [List.length_cons] at hk
    exact ⟨by rw [pk_un (by omega)]; exact h.1, ih (by omega) h.2⟩
def tp (k : Nat) : Int32 := match k with
  | 0 => -1
  | k + 1 => nI k
theorem d_tested {K : KT} {X : Nat → Nat → Int32} {n z t p i j f r m : Nat} {T : TR} (hi : i < kM K) (ht : isT t) (hC : CT K X t T) (hpn : p < tN T) (hf : f < 6) (hr : r < 3) (hm : m < 100) (hj : j < kW K i) (h100 : kW K i ≤ 100)
    (h1 : X (186 + 6 * i + 3) j = (stp1 (nI (1000 * f + 100 * r + m))).1) (h2 : X (186 + 6 * i + 4) j = (stp1 (nI (1000 * f + 100 * r + m))).2.1) (h3 : X (186 + 6 * i + 5) j = (stp1 (nI (1000 * f + 100 * r + m))).2.2) :
    E 2 mX10_testedHours 0 [.ref (186 + 6 * i), .int (nI j), .ref t, .int (nI p)] [] (hp K X, n, z) = some (some (.int (mskT T p (nI (1000 * f + 100 * r + m)))), (hp K X, n, z)) := by
  obtain ⟨g0, g1, g2, g3⟩ := sg_parts hf hr hm
  have ij : ix (nI j) (kW K i) = true := ix_nI hj (by omega)
  have cj : cx (nI j) = j := cx_nI (by omega)
  unfold stp1 at h1 h2 h3
  rw [if_neg g0, g1, g2, g3] at h1 h2 h3
  unfold mskT
  rw [g1, g2, g3]
  by_cases f3 : f = 3
  · subst f3
    rw [if_pos (show nI 3 = 3 from rfl)] at h1 h2 h3 ⊢
    simp (decide := true) only [pX10_testedHours_0, pX10_testedHours_1, pX10_testedHours_4, pX10_testedHours_5, pX10_testedHours_6, pX10_testedHours_8, pX10_testedHours_11, pX10_testedHours_12, pX10_testedHours_15, pX10_testedHours_16, pX10_testedHours_17, pX10_testedHours_18, pX10_testedHours_19, pX10_testedHours_20, pX10_testedHours_23, pX10_testedHours_24, pX10_testedHours_25, pX10_testedHours_26, pX10_testedHours_29, pX10_testedHours_30, pX10_testedHours_33, pX10_testedHours_34, pX10_testedHours_35, pX10_testedHours_36, pX10_testedHours_39, pX10_testedHours_40, pX10_testedHours_41, pX10_testedHours_44, pX10_testedHours_47, pX10_testedHours_50, pX10_testedHours_53, pX10_testedHours_54, kd_i0, kd_i1, kd_i2, kd_i3, kd_jA, kd_r5, kd_r6, kd_r7, al_i, al_j, al_r, ai_i, aj_j, aq_r, cls_o, fv_o, sti_i, stj_j, st2_s, st2_n, bnd_some, set1_same, set1_twice, to_0, to_1, to_2, to_3, to_4, to_5, to_6, to_7, to_8, to_9, to_10, to_11, to_12, to_13, to_14, to_15, ro_12_0, ro_12_1, ro_12_2, ro_15_0, ro_15_1, ro_15_2, ro_18_0, ro_18_1, ro_18_2, ro_21_0, ro_21_1, ro_21_2, va_rfs, wc_0 hi, wc_1 hi, wc_2 hi, wc_3 hi, wc_4 hi, wc_5 hi, ww_1 hi, ww_2 hi, ww_3 hi, ww_4 hi, ww_5 hi, wow_1 hi, wow_2 hi, wow_3 hi, wow_7 hi, wo_0, wo_1, wo_2, wo_3, wo_4, wo_5, wo_6, wo_7, wo_8, tc_0 ht, tc_1 ht, tw_1 ht, tc_2 ht, tw_2 ht, tc_3 ht, tw_3 ht, tc_4 ht, tw_4 ht, tc_5 ht, tc_12 ht, tc_13 ht, tw_13 ht, tc_14 ht, tw_14 ht, tc_15 ht, tc_16 ht, tw_16 ht, tc_17 ht, tw_17 ht, tc_18 ht, tc_19 ht, tw_19 ht, tc_20 ht, tw_20 ht, tc_21 ht, tc_22 ht, tw_22 ht, tc_23 ht, tw_23 ht, tc_24 ht, tc_31 ht, tw_31 ht, tc_r ht, tw_r ht, tc_s ht, tw_s ht, tow_1 ht, tow_2 ht, tow_3 ht, tow_4 ht, row_12 ht, row_15 ht, row_18 ht, row_21 ht, ↓reduceIte, set1_ne, ne_eq, Nat.reduceEqDiff, not_false_eq_true, not_true_eq_false, if_true, if_false, ite_Ei, bI_eq0, pk_us, ix4, cx4, ix5, cx5, ix6, cx6, ix7, cx7, ix8, cx8, ix10, cx10, ix11, cx11, ix12, cx12, ix20, cx20, ix24, cx24, ix60, cx60, ix64, cx64, ix100, cx100, ix101, cx101, ix360, cx360, ix600, cx600, ij, cj, h1, h3]
  · have n3 : ¬ nI f = 3 := fun q => f3 ((nI_eq (b := 3) (by omega) (by decide)).mp q)
    rw [if_neg n3] at h1 h2 h3 ⊢
    have n104 : ¬ (60 : Int32) + nI r = 104 := by
      have : r = 0 ∨ r = 1 ∨ r = 2 := by omega
      rcases this with rfl | rfl | rfl <;> decide
    have et : tst T p 0 (nI (1000 * f + 100 * r + m)) = (if r = 0 then decide (fact T p 0 (nI f) < nI m) else if r = 1 then decide (fact T p 0 (nI f) = nI m) else decide (nI m < fact T p 0 (nI f))) := by
      unfold tst
      rw [g1, g2, g3]
      have : r = 0 ∨ r = 1 ∨ r = 2 := by omega
      rcases this with rfl | rfl | rfl
      · rw [if_pos (by decide), if_pos rfl]
      · rw [if_neg (by decide), if_pos (by decide), if_neg (by decide), if_pos rfl]
      · rw [if_neg (by decide), if_neg (by decide), if_neg (by decide), if_neg (by decide)]
    have hh := d_holds (w := (hp K X, n, z)) (v := fact T p 0 (nI f)) (m := nI m) hr
    rw [← et] at hh
    cases hb : tst T p 0 (nI (1000 * f + 100 * r + m)) with
    | true =>
      rw [hb] at hh
      simp (decide := true) only [pX10_testedHours_0, pX10_testedHours_1, pX10_testedHours_4, pX10_testedHours_5, pX10_testedHours_6, pX10_testedHours_8, pX10_testedHours_11, pX10_testedHours_12, pX10_testedHours_15, pX10_testedHours_16, pX10_testedHours_17, pX10_testedHours_18, pX10_testedHours_19, pX10_testedHours_20, pX10_testedHours_23, pX10_testedHours_24, pX10_testedHours_25, pX10_testedHours_26, pX10_testedHours_29, pX10_testedHours_30, pX10_testedHours_33, pX10_testedHours_34, pX10_testedHours_35, pX10_testedHours_36, pX10_testedHours_39, pX10_testedHours_40, pX10_testedHours_41, pX10_testedHours_44, pX10_testedHours_47, pX10_testedHours_50, pX10_testedHours_53, pX10_testedHours_54, kd_i0, kd_i1, kd_i2, kd_i3, kd_jA, kd_r5, kd_r6, kd_r7, al_i, al_j, al_r, ai_i, aj_j, aq_r, cls_o, fv_o, sti_i, stj_j, st2_s, st2_n, bnd_some, set1_same, set1_twice, to_0, to_1, to_2, to_3, to_4, to_5, to_6, to_7, to_8, to_9, to_10, to_11, to_12, to_13, to_14, to_15, ro_12_0, ro_12_1, ro_12_2, ro_15_0, ro_15_1, ro_15_2, ro_18_0, ro_18_1, ro_18_2, ro_21_0, ro_21_1, ro_21_2, va_rfs, wc_0 hi, wc_1 hi, wc_2 hi, wc_3 hi, wc_4 hi, wc_5 hi, ww_1 hi, ww_2 hi, ww_3 hi, ww_4 hi, ww_5 hi, wow_1 hi, wow_2 hi, wow_3 hi, wow_7 hi, wo_0, wo_1, wo_2, wo_3, wo_4, wo_5, wo_6, wo_7, wo_8, tc_0 ht, tc_1 ht, tw_1 ht, tc_2 ht, tw_2 ht, tc_3 ht, tw_3 ht, tc_4 ht, tw_4 ht, tc_5 ht, tc_12 ht, tc_13 ht, tw_13 ht, tc_14 ht, tw_14 ht, tc_15 ht, tc_16 ht, tw_16 ht, tc_17 ht, tw_17 ht, tc_18 ht, tc_19 ht, tw_19 ht, tc_20 ht, tw_20 ht, tc_21 ht, tc_22 ht, tw_22 ht, tc_23 ht, tw_23 ht, tc_24 ht, tc_31 ht, tw_31 ht, tc_r ht, tw_r ht, tc_s ht, tw_s ht, tow_1 ht, tow_2 ht, tow_3 ht, tow_4 ht, row_12 ht, row_15 ht, row_18 ht, row_21 ht, ↓reduceIte, set1_ne, ne_eq, Nat.reduceEqDiff, not_false_eq_true, not_true_eq_false, if_true, if_false, ite_Ei, bI_eq0, pk_us, ix4, cx4, ix5, cx5, ix6, cx6, ix7, cx7, ix8, cx8, ix10, cx10, ix11, cx11, ix12, cx12, ix20, cx20, ix24, cx24, ix60, cx60, ix64, cx64, ix100, cx100, ix101, cx101, ix360, cx360, ix600, cx600, ij, cj, h1, h2, h3, n104, d_numB ht hC hpn hf f3, hh, bI_t]
    | false =>
      rw [hb] at hh
      simp (decide := true) only [pX10_testedHours_0, pX10_testedHours_1, pX10_testedHours_4, pX10_testedHours_5, pX10_testedHours_6, pX10_testedHours_8, pX10_testedHours_11, pX10_testedHours_12, pX10_testedHours_15, pX10_testedHours_16, pX10_testedHours_17, pX10_testedHours_18, pX10_testedHours_19, pX10_testedHours_20, pX10_testedHours_23, pX10_testedHours_24, pX10_testedHours_25, pX10_testedHours_26, pX10_testedHours_29, pX10_testedHours_30, pX10_testedHours_33, pX10_testedHours_34, pX10_testedHours_35, pX10_testedHours_36, pX10_testedHours_39, pX10_testedHours_40, pX10_testedHours_41, pX10_testedHours_44, pX10_testedHours_47, pX10_testedHours_50, pX10_testedHours_53, pX10_testedHours_54, kd_i0, kd_i1, kd_i2, kd_i3, kd_jA, kd_r5, kd_r6, kd_r7, al_i, al_j, al_r, ai_i, aj_j, aq_r, cls_o, fv_o, sti_i, stj_j, st2_s, st2_n, bnd_some, set1_same, set1_twice, to_0, to_1, to_2, to_3, to_4, to_5, to_6, to_7, to_8, to_9, to_10, to_11, to_12, to_13, to_14, to_15, ro_12_0, ro_12_1, ro_12_2, ro_15_0, ro_15_1, ro_15_2, ro_18_0, ro_18_1, ro_18_2, ro_21_0, ro_21_1, ro_21_2, va_rfs, wc_0 hi, wc_1 hi, wc_2 hi, wc_3 hi, wc_4 hi, wc_5 hi, ww_1 hi, ww_2 hi, ww_3 hi, ww_4 hi, ww_5 hi, wow_1 hi, wow_2 hi, wow_3 hi, wow_7 hi, wo_0, wo_1, wo_2, wo_3, wo_4, wo_5, wo_6, wo_7, wo_8, tc_0 ht, tc_1 ht, tw_1 ht, tc_2 ht, tw_2 ht, tc_3 ht, tw_3 ht, tc_4 ht, tw_4 ht, tc_5 ht, tc_12 ht, tc_13 ht, tw_13 ht, tc_14 ht, tw_14 ht, tc_15 ht, tc_16 ht, tw_16 ht, tc_17 ht, tw_17 ht, tc_18 ht, tc_19 ht, tw_19 ht, tc_20 ht, tw_20 ht, tc_21 ht, tc_22 ht, tw_22 ht, tc_23 ht, tw_23 ht, tc_24 ht, tc_31 ht, tw_31 ht, tc_r ht, tw_r ht, tc_s ht, tw_s ht, tow_1 ht, tow_2 ht, tow_3 ht, tow_4 ht, row_12 ht, row_15 ht, row_18 ht, row_21 ht, ↓reduceIte, set1_ne, ne_eq, Nat.reduceEqDiff, not_false_eq_true, not_true_eq_false, if_true, if_false, ite_Ei, bI_eq0, pk_us, ix4, cx4, ix5, cx5, ix6, cx6, ix7, cx7, ix8, cx8, ix10, cx10, ix11, cx11, ix12, cx12, ix20, cx20, ix24, cx24, ix60, cx60, ix64, cx64, ix100, cx100, ix101, cx101, ix360, cx360, ix600, cx600, ij, cj, h1, h2, h3, n104, d_numB ht hC hpn hf f3, hh, bI_f]
