/-! The class: tests, and what is nested (readBoth and readEither by gen_cexp.py). -/
abbrev PR : Type := Bool × Nat × List Int32
def pT (g : Nat → Int32) (p : Nat) : PR :=
  if plN (g p) = 6 then (false, p, []) else if ¬ (60 ≤ g (p + 1) ∧ g (p + 1) ≤ 62) then (false, p + 1, []) else if (pN g (p + 2)).1 = false then (false, p + 2, []) else (true, (pN g (p + 2)).2.1, [nI (1000 * plN (g p) + 100 * cx (g (p + 1) - 60) + (pN g (p + 2)).2.2)])
/-- what a reading ends with -/
def CRes (K : KT) (tx : List Int32) (i : Nat) (X : Nat → Nat → Int32) (p S n z : Nat) (R : PR) (e : Option Ot) : Prop :=
  ∃ Y S', e = some (some (.int (bI R.1)), (hp K Y, n, z)) ∧ WS K tx i Y R.2.1 S' ∧ FW i S X Y ∧ S' + p ≤ S + R.2.1 ∧ S ≤ S' ∧ p ≤ R.2.1 ∧ (R.1 = true → S' = S + R.2.2.length ∧ AtS Y i S (R.2.2.map stp1))
theorem WS_an {K : KT} {tx : List Int32} {i p S q : Nat} {v : Int32} {X : Nat → Nat → Int32} (h : WS K tx i X p S) (hq : q ≤ tx.length) (hS : S ≤ q) : WS K tx i (setAN X i q v) q S := by
  obtain ⟨h1, h2, h3, h4, h5, h6, h7, h8⟩ := h
  unfold setAN
  refine ⟨h1, h2, h3, ?_, ?_, ?_, hq, hS⟩
  · intro j hj
    rw [set1_ne _ _ (by omega)]; exact h4 j hj
  · rw [set1_same, pk_us]
  · rw [set1_same, pk_un (by decide), pk_un (by decide)]; exact h6
theorem FW_an {i S q : Nat} {v : Int32} {X : Nat → Nat → Int32} : FW i S X (setAN X i q v) := by
  unfold setAN
  refine ⟨fun q a _ _ _ => set1_ne _ _ a, ?_, fun j _ => ?_⟩
  · rw [set1_same, pk_un (by decide), pk_un (by decide)]
  · rw [set1_ne _ _ (by omega), set1_ne _ _ (by omega), set1_ne _ _ (by omega)]
    exact ⟨rfl, rfl, rfl⟩
theorem an_2 {i q : Nat} {v : Int32} {X : Nat → Nat → Int32} : setAN X i q v (186 + 6 * i) 2 = v := by
  unfold setAN
  rw [set1_same, pk_un (by decide), pk_us]
theorem pl_cs (c : Int32) : plN c = 6 ∨ (c = 112 ∧ plN c = 0) ∨ (c = 107 ∧ plN c = 1) ∨ (c = 118 ∧ plN c = 2) ∨ (c = 104 ∧ plN c = 3) ∨ (c = 114 ∧ plN c = 4) ∨ (c = 100 ∧ plN c = 5) := by
  unfold plN
  by_cases h0 : c = 112
  · rw [if_pos h0]; exact Or.inr (Or.inl ⟨h0, rfl⟩)
  rw [if_neg h0]
  by_cases h1 : c = 107
  · rw [if_pos h1]; exact Or.inr (Or.inr (Or.inl ⟨h1, rfl⟩))
  rw [if_neg h1]
  by_cases h2 : c = 118
  · rw [if_pos h2]; exact Or.inr (Or.inr (Or.inr (Or.inl ⟨h2, rfl⟩)))
  rw [if_neg h2]
  by_cases h3 : c = 104
  · rw [if_pos h3]; exact Or.inr (Or.inr (Or.inr (Or.inr (Or.inl ⟨h3, rfl⟩))))
  rw [if_neg h3]
  by_cases h4 : c = 114
  · rw [if_pos h4]; exact Or.inr (Or.inr (Or.inr (Or.inr (Or.inr (Or.inl ⟨h4, rfl⟩)))))
  rw [if_neg h4]
  by_cases h5 : c = 100
  · rw [if_pos h5]; exact Or.inr (Or.inr (Or.inr (Or.inr (Or.inr (Or.inr ⟨h5, rfl⟩)))))
  rw [if_neg h5]
  exact Or.inl rfl
theorem rel_ix {c : Int32} (h : 60 ≤ c ∧ c ≤ 62) : ∃ r, r < 3 ∧ c = nI (60 + r) ∧ cx (c - 60) = r := by
  obtain ⟨j, hj, e⟩ := nI_of2 (x := c) (M := 62) (n := 62) (by decide) (Int32.not_lt.mpr (Int32.le_trans (by decide) h.1)) h.2
  have h1 := h.1
  rw [e, show (60 : Int32) = nI 60 from rfl, nI_leI (by decide) (by omega)] at h1
  refine ⟨j - 60, by omega, by rw [e, show 60 + (j - 60) = j by omega], ?_⟩
  rw [e, show (60 : Int32) = nI 60 from rfl, pk_sub (by omega), cx_nI (by omega)]
theorem rel_no {c : Int32} (h : ¬ (60 ≤ c ∧ c ≤ 62)) : ¬ c = 60 ∧ ¬ c = 61 ∧ ¬ c = 62 := ⟨fun q => h (by rw [q]; decide), fun q => h (by rw [q]; decide), fun q => h (by rw [q]; decide)⟩
theorem w_test {K : KT} {tx : List Int32} {i p S n z : Nat} {X : Nat → Nat → Int32} (ht : tOk tx) (h : WS K tx i X p S) : CRes K tx i X p S n z (pT (sg tx) p) (E 5 mX10_readTest 0 [.ref (186 + 6 * i), .null, .null] [] (hp K X, n, z)) := by
  have hi := h.1
  have hlen := h.2.2.1
  have h5 := h.2.2.2.2.1
  have h7 := h.2.2.2.2.2.2.1
  have h8 := h.2.2.2.2.2.2.2
  have es := w_sign (n := n) (z := z) h
  have hc5 : cls (hp K X 5) = 20 := rfl
  unfold pT
  by_cases hp0 : p < tx.length
  · obtain ⟨a, ha, ea⟩ := sg_ok ht hp0
    obtain ⟨n1, n2, n3, n4⟩ := nc_128 ⟨a, ha⟩
    simp only at n3
    have a0 : ¬ nI a < 0 := nI_pos (by omega)
    have eix := s_idx (K := K) (X := X) (n := n) (z := z) ha
    rw [ea] at es ⊢
    by_cases q6 : plN (nI a) = 6
    · rw [if_pos q6]
      refine ⟨X, S, ?_, h, FW_refl, Nat.le_refl _, Nat.le_refl _, Nat.le_refl _, fun q => by cases q⟩
      have ei : plI (nI a) = -1 := by unfold plI; rw [if_pos q6]
      rw [ei] at eix
      simp (decide := true) only [pX10_readTest_0, pX10_readTest_1, pX10_readTest_4, pX10_readTest_5, pX10_readTest_6, pX10_readTest_9, pX10_readTest_11, pX10_readTest_12, pX10_readTest_13, pX10_readTest_16, pX10_readTest_19, pX10_readTest_20, pX10_readTest_20t, pX10_readTest_20f, pX10_readTest_21, pX10_readTest_22, pX10_readTest_23, pX10_readTest_26, pX10_readTest_27, pX10_readTest_28, pX10_readTest_31, pX10_readTest_32, pX10_readTest_35, pX10_readTest_36, pX10_readTest_37, pX10_readTest_39, pX10_readTest_42, pX10_readTest_43, pX10_readTest_45, pX10_readTest_48, pX10_readTest_49, pX10_readTest_51, pX10_readTest_54, pX10_readTest_55, pX10_readTest_55t, pX10_readTest_55f, pX10_readTest_56, pX10_readTest_57, pX10_readTest_58, pX10_readTest_61, pX10_readTest_62, pX10_readTest_63, pX10_readTest_66, pX10_readTest_67, pX10_readTest_70, pX10_readTest_73, pX10_readTest_74, pX10_readTest_74t, pX10_readTest_74f, pX10_readTest_75, pX10_readTest_76, pX10_readTest_78, pX10_readTest_81, pX10_readTest_82, pX10_readTest_84, pX10_readTest_86, pX10_readTest_87, pX10_readTest_88, pX10_readTest_89, pX10_readTest_92, pX10_readTest_95, pX10_readTest_98, pX10_readTest_101, pX10_readTest_102, pX10_readTest_103, pX10_readTest_104, pX10_readTest_105, pX10_readTest_106, pX10_readTest_107, pX10_readTest_110, pX10_readTest_113, pX10_readTest_114, pX10_readTest_114t, pX10_readTest_114f, kd_i0, kd_i1, kd_i2, kd_i3, kd_jA, kd_r5, kd_r6, kd_r7, al_i, al_j, al_r, ai_i, aj_j, aq_r, cls_o, fv_o, sti_i, stj_j, st2_s, st2_n, bnd_some, set1_same, set1_twice, wc_0 hi, wc_1 hi, wc_2 hi, wc_3 hi, wc_4 hi, wc_5 hi, ww_1 hi, ww_2 hi, ww_3 hi, ww_4 hi, ww_5 hi, wow_1 hi, wow_2 hi, wow_3 hi, wow_7 hi, wo_0, wo_1, wo_2, wo_3, wo_4, wo_5, wo_6, wo_7, wo_8, ↓reduceIte, set1_ne, ne_eq, Nat.reduceEqDiff, not_false_eq_true, not_true_eq_false, if_true, if_false, ite_Ei, bI_eq0, pk_us, ix4, cx4, ix5, cx5, ix6, cx6, ix7, cx7, ix8, cx8, ix10, cx10, ix11, cx11, ix12, cx12, ix20, cx20, ix24, cx24, ix60, cx60, ix64, cx64, ix100, cx100, ix101, cx101, ix360, cx360, ix600, cx600, es, a0, n3, hc5, eix, nb0, bI_f]
    · rw [if_neg q6]
      have ei : plI (nI a) = nI (plN (nI a)) := by unfold plI; rw [if_neg q6]
      have pl0 : 0 ≤ nI (plN (nI a)) := nI_pos' (by rcases pl_cs (nI a) with q | ⟨_, q⟩ | ⟨_, q⟩ | ⟨_, q⟩ | ⟨_, q⟩ | ⟨_, q⟩ | ⟨_, q⟩ <;> rw [q] <;> decide)
      rw [ei] at eix
      have h1 := WS_at (q := p + 1) h (by omega) (by omega)
      have es1 := w_sign (n := n) (z := z) h1
      have s1 : E 5 mX10_readTest 0 [.ref (186 + 6 * i), .null, .null] [] (hp K X, n, z) = E 5 mX10_readTest 35 [.ref (186 + 6 * i), .int (nI a), .null] [.int (sg tx (p + 1))] (hp K (setAt X i (p + 1)), n, z) := by
        have es1' := es1
        unfold setAt at es1' ⊢
        simp (decide := true) only [pX10_readTest_0, pX10_readTest_1, pX10_readTest_4, pX10_readTest_5, pX10_readTest_6, pX10_readTest_9, pX10_readTest_11, pX10_readTest_12, pX10_readTest_13, pX10_readTest_16, pX10_readTest_19, pX10_readTest_20, pX10_readTest_20t, pX10_readTest_20f, pX10_readTest_21, pX10_readTest_22, pX10_readTest_23, pX10_readTest_26, pX10_readTest_27, pX10_readTest_28, pX10_readTest_31, pX10_readTest_32, pX10_readTest_36, pX10_readTest_37, pX10_readTest_39, pX10_readTest_42, pX10_readTest_43, pX10_readTest_45, pX10_readTest_48, pX10_readTest_49, pX10_readTest_51, pX10_readTest_54, pX10_readTest_55, pX10_readTest_55t, pX10_readTest_55f, pX10_readTest_56, pX10_readTest_57, pX10_readTest_58, pX10_readTest_61, pX10_readTest_62, pX10_readTest_63, pX10_readTest_66, pX10_readTest_67, pX10_readTest_70, pX10_readTest_73, pX10_readTest_74, pX10_readTest_74t, pX10_readTest_74f, pX10_readTest_75, pX10_readTest_76, pX10_readTest_78, pX10_readTest_81, pX10_readTest_82, pX10_readTest_84, pX10_readTest_86, pX10_readTest_87, pX10_readTest_88, pX10_readTest_89, pX10_readTest_92, pX10_readTest_95, pX10_readTest_98, pX10_readTest_101, pX10_readTest_102, pX10_readTest_103, pX10_readTest_104, pX10_readTest_105, pX10_readTest_106, pX10_readTest_107, pX10_readTest_110, pX10_readTest_113, pX10_readTest_114, pX10_readTest_114t, pX10_readTest_114f, kd_i0, kd_i1, kd_i2, kd_i3, kd_jA, kd_r5, kd_r6, kd_r7, al_i, al_j, al_r, ai_i, aj_j, aq_r, cls_o, fv_o, sti_i, stj_j, st2_s, st2_n, bnd_some, set1_same, set1_twice, wc_0 hi, wc_1 hi, wc_2 hi, wc_3 hi, wc_4 hi, wc_5 hi, ww_1 hi, ww_2 hi, ww_3 hi, ww_4 hi, ww_5 hi, wow_1 hi, wow_2 hi, wow_3 hi, wow_7 hi, wo_0, wo_1, wo_2, wo_3, wo_4, wo_5, wo_6, wo_7, wo_8, ↓reduceIte, set1_ne, ne_eq, Nat.reduceEqDiff, not_false_eq_true, not_true_eq_false, if_true, if_false, ite_Ei, bI_eq0, pk_us, ix4, cx4, ix5, cx5, ix6, cx6, ix7, cx7, ix8, cx8, ix10, cx10, ix11, cx11, ix12, cx12, ix20, cx20, ix24, cx24, ix60, cx60, ix64, cx64, ix100, cx100, ix101, cx101, ix360, cx360, ix600, cx600, es, a0, n3, hc5, eix, pl0, h5, nI_1, es1']
      rw [s1]
      by_cases hr : 60 ≤ sg tx (p + 1) ∧ sg tx (p + 1) ≤ 62
      · rw [if_neg (fun q => q hr)]
        obtain ⟨r, hr3, er, ec⟩ := rel_ix hr
        have hp1 : p + 1 < tx.length := sg_len er (fun q => by
          have : ¬ nI (60 + r) < 0 := nI_pos (by omega)
          rw [q] at this
          exact this (by decide))
        rw [ec, er]
        have h2 := WS_at (q := p + 2) h1 (by omega) (by omega)
        rw [setAt_2] at h2
        have enum := w_num (n := n) (z := z) h2
        have pl := pN_le (g := sg tx) (p := p + 2)
        have plen := pN_len (tx := tx) (p := p + 2) (by omega)
        have h3 := WS_an (q := (pN (sg tx) (p + 2)).2.1) (v := nI (pN (sg tx) (p + 2)).2.2) h2 plen (by omega)
        have f3 : FW i S X (setAN (setAt X i (p + 2)) i (pN (sg tx) (p + 2)).2.1 (nI (pN (sg tx) (p + 2)).2.2)) := FW_trans FW_at FW_an (Nat.le_refl _)
        have e2 : (setAt X i (p + 1)) (186 + 6 * i) 1 = nI (p + 1) := by rw [setAt_b, pk_us]
        have s2 : E 5 mX10_readTest 35 [.ref (186 + 6 * i), .int (nI a), .null] [.int (nI (60 + r))] (hp K (setAt X i (p + 1)), n, z) = E 5 mX10_readTest 70 [.ref (186 + 6 * i), .int (nI a), .int (nI (60 + r))] [.int (bI (pN (sg tx) (p + 2)).1)] (hp K (setAN (setAt X i (p + 2)) i (pN (sg tx) (p + 2)).2.1 (nI (pN (sg tx) (p + 2)).2.2)), n, z) := by
          have ea2 : set1 (setAt X i (p + 1)) (186 + 6 * i) (upd (setAt X i (p + 1) (186 + 6 * i)) 1 (nI (p + 1 + 1))) = setAt X i (p + 2) := setAt_2 X i (p + 1) (p + 2)
          have : r = 0 ∨ r = 1 ∨ r = 2 := by omega
          rcases this with rfl | rfl | rfl
          · have e60 : nI (60 + 0) = 60 := rfl
            simp (decide := true) only [pX10_readTest_0, pX10_readTest_1, pX10_readTest_4, pX10_readTest_5, pX10_readTest_6, pX10_readTest_9, pX10_readTest_11, pX10_readTest_12, pX10_readTest_13, pX10_readTest_16, pX10_readTest_19, pX10_readTest_20, pX10_readTest_20t, pX10_readTest_20f, pX10_readTest_21, pX10_readTest_22, pX10_readTest_23, pX10_readTest_26, pX10_readTest_27, pX10_readTest_28, pX10_readTest_31, pX10_readTest_32, pX10_readTest_35, pX10_readTest_36, pX10_readTest_37, pX10_readTest_39, pX10_readTest_42, pX10_readTest_43, pX10_readTest_45, pX10_readTest_48, pX10_readTest_49, pX10_readTest_51, pX10_readTest_54, pX10_readTest_55, pX10_readTest_55t, pX10_readTest_55f, pX10_readTest_56, pX10_readTest_57, pX10_readTest_58, pX10_readTest_61, pX10_readTest_62, pX10_readTest_63, pX10_readTest_66, pX10_readTest_67, pX10_readTest_73, pX10_readTest_74, pX10_readTest_74t, pX10_readTest_74f, pX10_readTest_75, pX10_readTest_76, pX10_readTest_78, pX10_readTest_81, pX10_readTest_82, pX10_readTest_84, pX10_readTest_86, pX10_readTest_87, pX10_readTest_88, pX10_readTest_89, pX10_readTest_92, pX10_readTest_95, pX10_readTest_98, pX10_readTest_101, pX10_readTest_102, pX10_readTest_103, pX10_readTest_104, pX10_readTest_105, pX10_readTest_106, pX10_readTest_107, pX10_readTest_110, pX10_readTest_113, pX10_readTest_114, pX10_readTest_114t, pX10_readTest_114f, kd_i0, kd_i1, kd_i2, kd_i3, kd_jA, kd_r5, kd_r6, kd_r7, al_i, al_j, al_r, ai_i, aj_j, aq_r, cls_o, fv_o, sti_i, stj_j, st2_s, st2_n, bnd_some, set1_same, set1_twice, wc_0 hi, wc_1 hi, wc_2 hi, wc_3 hi, wc_4 hi, wc_5 hi, ww_1 hi, ww_2 hi, ww_3 hi, ww_4 hi, ww_5 hi, wow_1 hi, wow_2 hi, wow_3 hi, wow_7 hi, wo_0, wo_1, wo_2, wo_3, wo_4, wo_5, wo_6, wo_7, wo_8, ↓reduceIte, set1_ne, ne_eq, Nat.reduceEqDiff, not_false_eq_true, not_true_eq_false, if_true, if_false, ite_Ei, bI_eq0, pk_us, ix4, cx4, ix5, cx5, ix6, cx6, ix7, cx7, ix8, cx8, ix10, cx10, ix11, cx11, ix12, cx12, ix20, cx20, ix24, cx24, ix60, cx60, ix64, cx64, ix100, cx100, ix101, cx101, ix360, cx360, ix600, cx600, e60, e2, nI_1, ea2, enum]
          · have e60 : nI (60 + 1) = 61 := rfl
            simp (decide := true) only [pX10_readTest_0, pX10_readTest_1, pX10_readTest_4, pX10_readTest_5, pX10_readTest_6, pX10_readTest_9, pX10_readTest_11, pX10_readTest_12, pX10_readTest_13, pX10_readTest_16, pX10_readTest_19, pX10_readTest_20, pX10_readTest_20t, pX10_readTest_20f, pX10_readTest_21, pX10_readTest_22, pX10_readTest_23, pX10_readTest_26, pX10_readTest_27, pX10_readTest_28, pX10_readTest_31, pX10_readTest_32, pX10_readTest_35, pX10_readTest_36, pX10_readTest_37, pX10_readTest_39, pX10_readTest_42, pX10_readTest_43, pX10_readTest_45, pX10_readTest_48, pX10_readTest_49, pX10_readTest_51, pX10_readTest_54, pX10_readTest_55, pX10_readTest_55t, pX10_readTest_55f, pX10_readTest_56, pX10_readTest_57, pX10_readTest_58, pX10_readTest_61, pX10_readTest_62, pX10_readTest_63, pX10_readTest_66, pX10_readTest_67, pX10_readTest_73, pX10_readTest_74, pX10_readTest_74t, pX10_readTest_74f, pX10_readTest_75, pX10_readTest_76, pX10_readTest_78, pX10_readTest_81, pX10_readTest_82, pX10_readTest_84, pX10_readTest_86, pX10_readTest_87, pX10_readTest_88, pX10_readTest_89, pX10_readTest_92, pX10_readTest_95, pX10_readTest_98, pX10_readTest_101, pX10_readTest_102, pX10_readTest_103, pX10_readTest_104, pX10_readTest_105, pX10_readTest_106, pX10_readTest_107, pX10_readTest_110, pX10_readTest_113, pX10_readTest_114, pX10_readTest_114t, pX10_readTest_114f, kd_i0, kd_i1, kd_i2, kd_i3, kd_jA, kd_r5, kd_r6, kd_r7, al_i, al_j, al_r, ai_i, aj_j, aq_r, cls_o, fv_o, sti_i, stj_j, st2_s, st2_n, bnd_some, set1_same, set1_twice, wc_0 hi, wc_1 hi, wc_2 hi, wc_3 hi, wc_4 hi, wc_5 hi, ww_1 hi, ww_2 hi, ww_3 hi, ww_4 hi, ww_5 hi, wow_1 hi, wow_2 hi, wow_3 hi, wow_7 hi, wo_0, wo_1, wo_2, wo_3, wo_4, wo_5, wo_6, wo_7, wo_8, ↓reduceIte, set1_ne, ne_eq, Nat.reduceEqDiff, not_false_eq_true, not_true_eq_false, if_true, if_false, ite_Ei, bI_eq0, pk_us, ix4, cx4, ix5, cx5, ix6, cx6, ix7, cx7, ix8, cx8, ix10, cx10, ix11, cx11, ix12, cx12, ix20, cx20, ix24, cx24, ix60, cx60, ix64, cx64, ix100, cx100, ix101, cx101, ix360, cx360, ix600, cx600, e60, e2, nI_1, ea2, enum]
          · have e60 : nI (60 + 2) = 62 := rfl
            simp (decide := true) only [pX10_readTest_0, pX10_readTest_1, pX10_readTest_4, pX10_readTest_5, pX10_readTest_6, pX10_readTest_9, pX10_readTest_11, pX10_readTest_12, pX10_readTest_13, pX10_readTest_16, pX10_readTest_19, pX10_readTest_20, pX10_readTest_20t, pX10_readTest_20f, pX10_readTest_21, pX10_readTest_22, pX10_readTest_23, pX10_readTest_26, pX10_readTest_27, pX10_readTest_28, pX10_readTest_31, pX10_readTest_32, pX10_readTest_35, pX10_readTest_36, pX10_readTest_37, pX10_readTest_39, pX10_readTest_42, pX10_readTest_43, pX10_readTest_45, pX10_readTest_48, pX10_readTest_49, pX10_readTest_51, pX10_readTest_54, pX10_readTest_55, pX10_readTest_55t, pX10_readTest_55f, pX10_readTest_56, pX10_readTest_57, pX10_readTest_58, pX10_readTest_61, pX10_readTest_62, pX10_readTest_63, pX10_readTest_66, pX10_readTest_67, pX10_readTest_73, pX10_readTest_74, pX10_readTest_74t, pX10_readTest_74f, pX10_readTest_75, pX10_readTest_76, pX10_readTest_78, pX10_readTest_81, pX10_readTest_82, pX10_readTest_84, pX10_readTest_86, pX10_readTest_87, pX10_readTest_88, pX10_readTest_89, pX10_readTest_92, pX10_readTest_95, pX10_readTest_98, pX10_readTest_101, pX10_readTest_102, pX10_readTest_103, pX10_readTest_104, pX10_readTest_105, pX10_readTest_106, pX10_readTest_107, pX10_readTest_110, pX10_readTest_113, pX10_readTest_114, pX10_readTest_114t, pX10_readTest_114f, kd_i0, kd_i1, kd_i2, kd_i3, kd_jA, kd_r5, kd_r6, kd_r7, al_i, al_j, al_r, ai_i, aj_j, aq_r, cls_o, fv_o, sti_i, stj_j, st2_s, st2_n, bnd_some, set1_same, set1_twice, wc_0 hi, wc_1 hi, wc_2 hi, wc_3 hi, wc_4 hi, wc_5 hi, ww_1 hi, ww_2 hi, ww_3 hi, ww_4 hi, ww_5 hi, wow_1 hi, wow_2 hi, wow_3 hi, wow_7 hi, wo_0, wo_1, wo_2, wo_3, wo_4, wo_5, wo_6, wo_7, wo_8, ↓reduceIte, set1_ne, ne_eq, Nat.reduceEqDiff, not_false_eq_true, not_true_eq_false, if_true, if_false, ite_Ei, bI_eq0, pk_us, ix4, cx4, ix5, cx5, ix6, cx6, ix7, cx7, ix8, cx8, ix10, cx10, ix11, cx11, ix12, cx12, ix20, cx20, ix24, cx24, ix60, cx60, ix64, cx64, ix100, cx100, ix101, cx101, ix360, cx360, ix600, cx600, e60, e2, nI_1, ea2, enum]
        rw [s2]
        cases hn : (pN (sg tx) (p + 2)).1 with
        | false =>
          have epos := pl.2.2.2.2 hn
          rw [if_pos rfl]
          rw [epos] at h3 f3
          refine ⟨setAN (setAt X i (p + 2)) i (p + 2) (nI (pN (sg tx) (p + 2)).2.2), S, ?_, h3, f3, by show S + p ≤ S + (p + 2); omega, Nat.le_refl _, by show p ≤ p + 2; omega, fun q => by cases q⟩
          rw [epos]
          simp (decide := true) only [pX10_readTest_0, pX10_readTest_1, pX10_readTest_4, pX10_readTest_5, pX10_readTest_6, pX10_readTest_9, pX10_readTest_11, pX10_readTest_12, pX10_readTest_13, pX10_readTest_16, pX10_readTest_19, pX10_readTest_20, pX10_readTest_20t, pX10_readTest_20f, pX10_readTest_21, pX10_readTest_22, pX10_readTest_23, pX10_readTest_26, pX10_readTest_27, pX10_readTest_28, pX10_readTest_31, pX10_readTest_32, pX10_readTest_35, pX10_readTest_36, pX10_readTest_37, pX10_readTest_39, pX10_readTest_42, pX10_readTest_43, pX10_readTest_45, pX10_readTest_48, pX10_readTest_49, pX10_readTest_51, pX10_readTest_54, pX10_readTest_55, pX10_readTest_55t, pX10_readTest_55f, pX10_readTest_56, pX10_readTest_57, pX10_readTest_58, pX10_readTest_61, pX10_readTest_62, pX10_readTest_63, pX10_readTest_66, pX10_readTest_67, pX10_readTest_70, pX10_readTest_73, pX10_readTest_74, pX10_readTest_74t, pX10_readTest_74f, pX10_readTest_75, pX10_readTest_76, pX10_readTest_78, pX10_readTest_81, pX10_readTest_82, pX10_readTest_84, pX10_readTest_86, pX10_readTest_87, pX10_readTest_88, pX10_readTest_89, pX10_readTest_92, pX10_readTest_95, pX10_readTest_98, pX10_readTest_101, pX10_readTest_102, pX10_readTest_103, pX10_readTest_104, pX10_readTest_105, pX10_readTest_106, pX10_readTest_107, pX10_readTest_110, pX10_readTest_113, pX10_readTest_114, pX10_readTest_114t, pX10_readTest_114f, kd_i0, kd_i1, kd_i2, kd_i3, kd_jA, kd_r5, kd_r6, kd_r7, al_i, al_j, al_r, ai_i, aj_j, aq_r, cls_o, fv_o, sti_i, stj_j, st2_s, st2_n, bnd_some, set1_same, set1_twice, wc_0 hi, wc_1 hi, wc_2 hi, wc_3 hi, wc_4 hi, wc_5 hi, ww_1 hi, ww_2 hi, ww_3 hi, ww_4 hi, ww_5 hi, wow_1 hi, wow_2 hi, wow_3 hi, wow_7 hi, wo_0, wo_1, wo_2, wo_3, wo_4, wo_5, wo_6, wo_7, wo_8, ↓reduceIte, set1_ne, ne_eq, Nat.reduceEqDiff, not_false_eq_true, not_true_eq_false, if_true, if_false, ite_Ei, bI_eq0, pk_us, ix4, cx4, ix5, cx5, ix6, cx6, ix7, cx7, ix8, cx8, ix10, cx10, ix11, cx11, ix12, cx12, ix20, cx20, ix24, cx24, ix60, cx60, ix64, cx64, ix100, cx100, ix101, cx101, ix360, cx360, ix600, cx600, nb0, bI_f]
        | true =>
          rw [if_neg (by decide)]
          have hpos := pl.2.2.2.1 hn
          have hm := pl.2.2.1
          have e32 : (32 : Int32) = nI 32 := rfl
          obtain ⟨_, _, n3r, _⟩ := nc_128 ⟨60 + r, by omega⟩
          simp only at n3r
          have ev := an_2 (X := setAt X i (p + 2)) (i := i) (q := (pN (sg tx) (p + 2)).2.1) (v := nI (pN (sg tx) (p + 2)).2.2)
          have wc := wc_0 (K := K) (X := setAN (setAt X i (p + 2)) i (pN (sg tx) (p + 2)).2.1 (nI (pN (sg tx) (p + 2)).2.2)) hi
          have hSlt : S < (pN (sg tx) (p + 2)).2.1 := by omega
          generalize hZ : setAN (setAt X i (p + 2)) i (pN (sg tx) (p + 2)).2.1 (nI (pN (sg tx) (p + 2)).2.2) = Z at h3 f3 ev wc
          have fin : ∀ (A L : Nat) (V : Int32) (f : Nat), A < 65536 → L < 65536 → f < 6 → (nI A, nI L, V) = stp1 (nI (1000 * f + 100 * r + (pN (sg tx) (p + 2)).2.2)) → E 5 mX10_readTest 70 [.ref (186 + 6 * i), .int (nI a), .int (nI (60 + r))] [.int (bI true)] (hp K Z, n, z) = some (some (.int 1), (hp K (addX3 Z i S (nI A) (nI L) V), n, z)) → CRes K tx i X p S n z (true, (pN (sg tx) (p + 2)).2.1, [nI (1000 * f + 100 * r + (pN (sg tx) (p + 2)).2.2)]) (E 5 mX10_readTest 70 [.ref (186 + 6 * i), .int (nI a), .int (nI (60 + r))] [.int (bI true)] (hp K Z, n, z)) := by
            intro A L V f hA hL hf est eE
            refine ⟨addX3 Z i S (nI A) (nI L) V, S + 1, eE, WS_add h3 hSlt, FW_trans f3 FW_add (Nat.le_refl _), by show S + 1 + p ≤ S + (pN (sg tx) (p + 2)).2.1; omega, by omega, by show p ≤ (pN (sg tx) (p + 2)).2.1; omega, fun _ => ⟨rfl, ?_⟩⟩
            rw [List.map_cons, List.map_nil, ← est]
            exact At_add
          have sgp := fun (f : Nat) (hf : f < 6) => sg_parts (f := f) (r := r) (m := (pN (sg tx) (p + 2)).2.2) hf hr3 hm
          have st1' : ∀ (f : Nat) (L : Nat), f < 6 → f ≠ 3 → ltr (nI f) = nI L → (nI (60 + r), nI L, nI (pN (sg tx) (p + 2)).2.2) = stp1 (nI (1000 * f + 100 * r + (pN (sg tx) (p + 2)).2.2)) := by
            intro f L hf h3' hL
            obtain ⟨g0, g1, g2, g3⟩ := sgp f hf
            unfold stp1
            have h3n : ¬ nI f = 3 := fun q => h3' ((nI_eq (b := 3) (by omega) (by decide)).mp q)
            rw [if_neg g0, g1, g2, g3, if_neg h3n, hL, show (60 : Int32) = nI 60 from rfl, nI_add]
          rcases pl_cs (nI a) with q | ⟨ea', q⟩ | ⟨ea', q⟩ | ⟨ea', q⟩ | ⟨ea', q⟩ | ⟨ea', q⟩ | ⟨ea', q⟩
          · exact absurd q q6
          · rw [q]
            refine fin (60 + r) 112 (nI (pN (sg tx) (p + 2)).2.2) 0 (by omega) (by decide) (by decide) (st1' 0 112 (by decide) (by decide) (by decide)) ?_
            have eadd := w_add (n := n) (z := z) (a := 60 + r) (l := 112) (v := nI (pN (sg tx) (p + 2)).2.2) h3 (by omega) (by omega) (by decide)
            have ec' : nI 112 = 112 := rfl
            have u16 : (Int32.toUInt32 112 % 65536).toInt32 = 112 := by decide
            rw [ec'] at eadd ⊢
            simp (decide := true) only [pX10_readTest_0, pX10_readTest_1, pX10_readTest_4, pX10_readTest_5, pX10_readTest_6, pX10_readTest_9, pX10_readTest_11, pX10_readTest_12, pX10_readTest_13, pX10_readTest_16, pX10_readTest_19, pX10_readTest_20, pX10_readTest_20t, pX10_readTest_20f, pX10_readTest_21, pX10_readTest_22, pX10_readTest_23, pX10_readTest_26, pX10_readTest_27, pX10_readTest_28, pX10_readTest_31, pX10_readTest_32, pX10_readTest_35, pX10_readTest_36, pX10_readTest_37, pX10_readTest_39, pX10_readTest_42, pX10_readTest_43, pX10_readTest_45, pX10_readTest_48, pX10_readTest_49, pX10_readTest_51, pX10_readTest_54, pX10_readTest_55, pX10_readTest_55t, pX10_readTest_55f, pX10_readTest_56, pX10_readTest_57, pX10_readTest_58, pX10_readTest_61, pX10_readTest_62, pX10_readTest_63, pX10_readTest_66, pX10_readTest_67, pX10_readTest_70, pX10_readTest_73, pX10_readTest_74, pX10_readTest_74t, pX10_readTest_74f, pX10_readTest_75, pX10_readTest_76, pX10_readTest_78, pX10_readTest_81, pX10_readTest_82, pX10_readTest_84, pX10_readTest_86, pX10_readTest_87, pX10_readTest_88, pX10_readTest_89, pX10_readTest_92, pX10_readTest_95, pX10_readTest_98, pX10_readTest_101, pX10_readTest_102, pX10_readTest_103, pX10_readTest_104, pX10_readTest_105, pX10_readTest_106, pX10_readTest_107, pX10_readTest_110, pX10_readTest_113, pX10_readTest_114, pX10_readTest_114t, pX10_readTest_114f, kd_i0, kd_i1, kd_i2, kd_i3, kd_jA, kd_r5, kd_r6, kd_r7, al_i, al_j, al_r, ai_i, aj_j, aq_r, cls_o, fv_o, sti_i, stj_j, st2_s, st2_n, bnd_some, set1_same, set1_twice, wc_0 hi, wc_1 hi, wc_2 hi, wc_3 hi, wc_4 hi, wc_5 hi, ww_1 hi, ww_2 hi, ww_3 hi, ww_4 hi, ww_5 hi, wow_1 hi, wow_2 hi, wow_3 hi, wow_7 hi, wo_0, wo_1, wo_2, wo_3, wo_4, wo_5, wo_6, wo_7, wo_8, ↓reduceIte, set1_ne, ne_eq, Nat.reduceEqDiff, not_false_eq_true, not_true_eq_false, if_true, if_false, ite_Ei, bI_eq0, pk_us, ix4, cx4, ix5, cx5, ix6, cx6, ix7, cx7, ix8, cx8, ix10, cx10, ix11, cx11, ix12, cx12, ix20, cx20, ix24, cx24, ix60, cx60, ix64, cx64, ix100, cx100, ix101, cx101, ix360, cx360, ix600, cx600, ea', bI_t, n3r, u16, ev, eadd, nb1]
          · rw [q]
            refine fin (60 + r) 107 (nI (pN (sg tx) (p + 2)).2.2) 1 (by omega) (by decide) (by decide) (st1' 1 107 (by decide) (by decide) (by decide)) ?_
            have eadd := w_add (n := n) (z := z) (a := 60 + r) (l := 107) (v := nI (pN (sg tx) (p + 2)).2.2) h3 (by omega) (by omega) (by decide)
            have ec' : nI 107 = 107 := rfl
            have u16 : (Int32.toUInt32 107 % 65536).toInt32 = 107 := by decide
            rw [ec'] at eadd ⊢
            simp (decide := true) only [pX10_readTest_0, pX10_readTest_1, pX10_readTest_4, pX10_readTest_5, pX10_readTest_6, pX10_readTest_9, pX10_readTest_11, pX10_readTest_12, pX10_readTest_13, pX10_readTest_16, pX10_readTest_19, pX10_readTest_20, pX10_readTest_20t, pX10_readTest_20f, pX10_readTest_21, pX10_readTest_22, pX10_readTest_23, pX10_readTest_26, pX10_readTest_27, pX10_readTest_28, pX10_readTest_31, pX10_readTest_32, pX10_readTest_35, pX10_readTest_36, pX10_readTest_37, pX10_readTest_39, pX10_readTest_42, pX10_readTest_43, pX10_readTest_45, pX10_readTest_48, pX10_readTest_49, pX10_readTest_51, pX10_readTest_54, pX10_readTest_55, pX10_readTest_55t, pX10_readTest_55f, pX10_readTest_56, pX10_readTest_57, pX10_readTest_58, pX10_readTest_61, pX10_readTest_62, pX10_readTest_63, pX10_readTest_66, pX10_readTest_67, pX10_readTest_70, pX10_readTest_73, pX10_readTest_74, pX10_readTest_74t, pX10_readTest_74f, pX10_readTest_75, pX10_readTest_76, pX10_readTest_78, pX10_readTest_81, pX10_readTest_82, pX10_readTest_84, pX10_readTest_86, pX10_readTest_87, pX10_readTest_88, pX10_readTest_89, pX10_readTest_92, pX10_readTest_95, pX10_readTest_98, pX10_readTest_101, pX10_readTest_102, pX10_readTest_103, pX10_readTest_104, pX10_readTest_105, pX10_readTest_106, pX10_readTest_107, pX10_readTest_110, pX10_readTest_113, pX10_readTest_114, pX10_readTest_114t, pX10_readTest_114f, kd_i0, kd_i1, kd_i2, kd_i3, kd_jA, kd_r5, kd_r6, kd_r7, al_i, al_j, al_r, ai_i, aj_j, aq_r, cls_o, fv_o, sti_i, stj_j, st2_s, st2_n, bnd_some, set1_same, set1_twice, wc_0 hi, wc_1 hi, wc_2 hi, wc_3 hi, wc_4 hi, wc_5 hi, ww_1 hi, ww_2 hi, ww_3 hi, ww_4 hi, ww_5 hi, wow_1 hi, wow_2 hi, wow_3 hi, wow_7 hi, wo_0, wo_1, wo_2, wo_3, wo_4, wo_5, wo_6, wo_7, wo_8, ↓reduceIte, set1_ne, ne_eq, Nat.reduceEqDiff, not_false_eq_true, not_true_eq_false, if_true, if_false, ite_Ei, bI_eq0, pk_us, ix4, cx4, ix5, cx5, ix6, cx6, ix7, cx7, ix8, cx8, ix10, cx10, ix11, cx11, ix12, cx12, ix20, cx20, ix24, cx24, ix60, cx60, ix64, cx64, ix100, cx100, ix101, cx101, ix360, cx360, ix600, cx600, ea', bI_t, n3r, u16, ev, eadd, nb1]
          · rw [q]
            refine fin (60 + r) 118 (nI (pN (sg tx) (p + 2)).2.2) 2 (by omega) (by decide) (by decide) (st1' 2 118 (by decide) (by decide) (by decide)) ?_
            have eadd := w_add (n := n) (z := z) (a := 60 + r) (l := 118) (v := nI (pN (sg tx) (p + 2)).2.2) h3 (by omega) (by omega) (by decide)
            have ec' : nI 118 = 118 := rfl
            have u16 : (Int32.toUInt32 118 % 65536).toInt32 = 118 := by decide
            rw [ec'] at eadd ⊢
            simp (decide := true) only [pX10_readTest_0, pX10_readTest_1, pX10_readTest_4, pX10_readTest_5, pX10_readTest_6, pX10_readTest_9, pX10_readTest_11, pX10_readTest_12, pX10_readTest_13, pX10_readTest_16, pX10_readTest_19, pX10_readTest_20, pX10_readTest_20t, pX10_readTest_20f, pX10_readTest_21, pX10_readTest_22, pX10_readTest_23, pX10_readTest_26, pX10_readTest_27, pX10_readTest_28, pX10_readTest_31, pX10_readTest_32, pX10_readTest_35, pX10_readTest_36, pX10_readTest_37, pX10_readTest_39, pX10_readTest_42, pX10_readTest_43, pX10_readTest_45, pX10_readTest_48, pX10_readTest_49, pX10_readTest_51, pX10_readTest_54, pX10_readTest_55, pX10_readTest_55t, pX10_readTest_55f, pX10_readTest_56, pX10_readTest_57, pX10_readTest_58, pX10_readTest_61, pX10_readTest_62, pX10_readTest_63, pX10_readTest_66, pX10_readTest_67, pX10_readTest_70, pX10_readTest_73, pX10_readTest_74, pX10_readTest_74t, pX10_readTest_74f, pX10_readTest_75, pX10_readTest_76, pX10_readTest_78, pX10_readTest_81, pX10_readTest_82, pX10_readTest_84, pX10_readTest_86, pX10_readTest_87, pX10_readTest_88, pX10_readTest_89, pX10_readTest_92, pX10_readTest_95, pX10_readTest_98, pX10_readTest_101, pX10_readTest_102, pX10_readTest_103, pX10_readTest_104, pX10_readTest_105, pX10_readTest_106, pX10_readTest_107, pX10_readTest_110, pX10_readTest_113, pX10_readTest_114, pX10_readTest_114t, pX10_readTest_114f, kd_i0, kd_i1, kd_i2, kd_i3, kd_jA, kd_r5, kd_r6, kd_r7, al_i, al_j, al_r, ai_i, aj_j, aq_r, cls_o, fv_o, sti_i, stj_j, st2_s, st2_n, bnd_some, set1_same, set1_twice, wc_0 hi, wc_1 hi, wc_2 hi, wc_3 hi, wc_4 hi, wc_5 hi, ww_1 hi, ww_2 hi, ww_3 hi, ww_4 hi, ww_5 hi, wow_1 hi, wow_2 hi, wow_3 hi, wow_7 hi, wo_0, wo_1, wo_2, wo_3, wo_4, wo_5, wo_6, wo_7, wo_8, ↓reduceIte, set1_ne, ne_eq, Nat.reduceEqDiff, not_false_eq_true, not_true_eq_false, if_true, if_false, ite_Ei, bI_eq0, pk_us, ix4, cx4, ix5, cx5, ix6, cx6, ix7, cx7, ix8, cx8, ix10, cx10, ix11, cx11, ix12, cx12, ix20, cx20, ix24, cx24, ix60, cx60, ix64, cx64, ix100, cx100, ix101, cx101, ix360, cx360, ix600, cx600, ea', bI_t, n3r, u16, ev, eadd, nb1]
          · rw [q]
            refine fin 104 32 (hth (nI r) (nI (pN (sg tx) (p + 2)).2.2)) 3 (by decide) (by decide) (by decide) ?_ ?_
            · obtain ⟨g0, g1, g2, g3⟩ := sgp 3 (by decide)
              unfold stp1
              rw [if_neg g0, g1, g2, g3, if_pos (show nI 3 = 3 from rfl)]
              rfl
            · have eadd := w_add (n := n) (z := z) (a := 104) (l := 32) (v := hth (nI r) (nI (pN (sg tx) (p + 2)).2.2)) h3 (by omega) (by decide) (by decide)
              have e104 : nI 104 = 104 := rfl
              have e32' : nI 32 = 32 := rfl
              rw [e104, e32'] at eadd ⊢
              simp (decide := true) only [pX10_readTest_0, pX10_readTest_1, pX10_readTest_4, pX10_readTest_5, pX10_readTest_6, pX10_readTest_9, pX10_readTest_11, pX10_readTest_12, pX10_readTest_13, pX10_readTest_16, pX10_readTest_19, pX10_readTest_20, pX10_readTest_20t, pX10_readTest_20f, pX10_readTest_21, pX10_readTest_22, pX10_readTest_23, pX10_readTest_26, pX10_readTest_27, pX10_readTest_28, pX10_readTest_31, pX10_readTest_32, pX10_readTest_35, pX10_readTest_36, pX10_readTest_37, pX10_readTest_39, pX10_readTest_42, pX10_readTest_43, pX10_readTest_45, pX10_readTest_48, pX10_readTest_49, pX10_readTest_51, pX10_readTest_54, pX10_readTest_55, pX10_readTest_55t, pX10_readTest_55f, pX10_readTest_56, pX10_readTest_57, pX10_readTest_58, pX10_readTest_61, pX10_readTest_62, pX10_readTest_63, pX10_readTest_66, pX10_readTest_67, pX10_readTest_70, pX10_readTest_73, pX10_readTest_74, pX10_readTest_74t, pX10_readTest_74f, pX10_readTest_75, pX10_readTest_76, pX10_readTest_78, pX10_readTest_81, pX10_readTest_82, pX10_readTest_84, pX10_readTest_86, pX10_readTest_87, pX10_readTest_88, pX10_readTest_89, pX10_readTest_92, pX10_readTest_95, pX10_readTest_98, pX10_readTest_101, pX10_readTest_102, pX10_readTest_103, pX10_readTest_104, pX10_readTest_105, pX10_readTest_106, pX10_readTest_107, pX10_readTest_110, pX10_readTest_113, pX10_readTest_114, pX10_readTest_114t, pX10_readTest_114f, kd_i0, kd_i1, kd_i2, kd_i3, kd_jA, kd_r5, kd_r6, kd_r7, al_i, al_j, al_r, ai_i, aj_j, aq_r, cls_o, fv_o, sti_i, stj_j, st2_s, st2_n, bnd_some, set1_same, set1_twice, wc_0 hi, wc_1 hi, wc_2 hi, wc_3 hi, wc_4 hi, wc_5 hi, ww_1 hi, ww_2 hi, ww_3 hi, ww_4 hi, ww_5 hi, wow_1 hi, wow_2 hi, wow_3 hi, wow_7 hi, wo_0, wo_1, wo_2, wo_3, wo_4, wo_5, wo_6, wo_7, wo_8, ↓reduceIte, set1_ne, ne_eq, Nat.reduceEqDiff, not_false_eq_true, not_true_eq_false, if_true, if_false, ite_Ei, bI_eq0, pk_us, ix4, cx4, ix5, cx5, ix6, cx6, ix7, cx7, ix8, cx8, ix10, cx10, ix11, cx11, ix12, cx12, ix20, cx20, ix24, cx24, ix60, cx60, ix64, cx64, ix100, cx100, ix101, cx101, ix360, cx360, ix600, cx600, ea', bI_t, n3r, ev, w_hth hr3 hm, eadd, nb1]
          · rw [q]
            refine fin (60 + r) 114 (nI (pN (sg tx) (p + 2)).2.2) 4 (by omega) (by decide) (by decide) (st1' 4 114 (by decide) (by decide) (by decide)) ?_
            have eadd := w_add (n := n) (z := z) (a := 60 + r) (l := 114) (v := nI (pN (sg tx) (p + 2)).2.2) h3 (by omega) (by omega) (by decide)
            have ec' : nI 114 = 114 := rfl
            have u16 : (Int32.toUInt32 114 % 65536).toInt32 = 114 := by decide
            rw [ec'] at eadd ⊢
            simp (decide := true) only [pX10_readTest_0, pX10_readTest_1, pX10_readTest_4, pX10_readTest_5, pX10_readTest_6, pX10_readTest_9, pX10_readTest_11, pX10_readTest_12, pX10_readTest_13, pX10_readTest_16, pX10_readTest_19, pX10_readTest_20, pX10_readTest_20t, pX10_readTest_20f, pX10_readTest_21, pX10_readTest_22, pX10_readTest_23, pX10_readTest_26, pX10_readTest_27, pX10_readTest_28, pX10_readTest_31, pX10_readTest_32, pX10_readTest_35, pX10_readTest_36, pX10_readTest_37, pX10_readTest_39, pX10_readTest_42, pX10_readTest_43, pX10_readTest_45, pX10_readTest_48, pX10_readTest_49, pX10_readTest_51, pX10_readTest_54, pX10_readTest_55, pX10_readTest_55t, pX10_readTest_55f, pX10_readTest_56, pX10_readTest_57, pX10_readTest_58, pX10_readTest_61, pX10_readTest_62, pX10_readTest_63, pX10_readTest_66, pX10_readTest_67, pX10_readTest_70, pX10_readTest_73, pX10_readTest_74, pX10_readTest_74t, pX10_readTest_74f, pX10_readTest_75, pX10_readTest_76, pX10_readTest_78, pX10_readTest_81, pX10_readTest_82, pX10_readTest_84, pX10_readTest_86, pX10_readTest_87, pX10_readTest_88, pX10_readTest_89, pX10_readTest_92, pX10_readTest_95, pX10_readTest_98, pX10_readTest_101, pX10_readTest_102, pX10_readTest_103, pX10_readTest_104, pX10_readTest_105, pX10_readTest_106, pX10_readTest_107, pX10_readTest_110, pX10_readTest_113, pX10_readTest_114, pX10_readTest_114t, pX10_readTest_114f, kd_i0, kd_i1, kd_i2, kd_i3, kd_jA, kd_r5, kd_r6, kd_r7, al_i, al_j, al_r, ai_i, aj_j, aq_r, cls_o, fv_o, sti_i, stj_j, st2_s, st2_n, bnd_some, set1_same, set1_twice, wc_0 hi, wc_1 hi, wc_2 hi, wc_3 hi, wc_4 hi, wc_5 hi, ww_1 hi, ww_2 hi, ww_3 hi, ww_4 hi, ww_5 hi, wow_1 hi, wow_2 hi, wow_3 hi, wow_7 hi, wo_0, wo_1, wo_2, wo_3, wo_4, wo_5, wo_6, wo_7, wo_8, ↓reduceIte, set1_ne, ne_eq, Nat.reduceEqDiff, not_false_eq_true, not_true_eq_false, if_true, if_false, ite_Ei, bI_eq0, pk_us, ix4, cx4, ix5, cx5, ix6, cx6, ix7, cx7, ix8, cx8, ix10, cx10, ix11, cx11, ix12, cx12, ix20, cx20, ix24, cx24, ix60, cx60, ix64, cx64, ix100, cx100, ix101, cx101, ix360, cx360, ix600, cx600, ea', bI_t, n3r, u16, ev, eadd, nb1]
          · rw [q]
            refine fin (60 + r) 100 (nI (pN (sg tx) (p + 2)).2.2) 5 (by omega) (by decide) (by decide) (st1' 5 100 (by decide) (by decide) (by decide)) ?_
            have eadd := w_add (n := n) (z := z) (a := 60 + r) (l := 100) (v := nI (pN (sg tx) (p + 2)).2.2) h3 (by omega) (by omega) (by decide)
            have ec' : nI 100 = 100 := rfl
            have u16 : (Int32.toUInt32 100 % 65536).toInt32 = 100 := by decide
            rw [ec'] at eadd ⊢
            simp (decide := true) only [pX10_readTest_0, pX10_readTest_1, pX10_readTest_4, pX10_readTest_5, pX10_readTest_6, pX10_readTest_9, pX10_readTest_11, pX10_readTest_12, pX10_readTest_13, pX10_readTest_16, pX10_readTest_19, pX10_readTest_20, pX10_readTest_20t, pX10_readTest_20f, pX10_readTest_21, pX10_readTest_22, pX10_readTest_23, pX10_readTest_26, pX10_readTest_27, pX10_readTest_28, pX10_readTest_31, pX10_readTest_32, pX10_readTest_35, pX10_readTest_36, pX10_readTest_37, pX10_readTest_39, pX10_readTest_42, pX10_readTest_43, pX10_readTest_45, pX10_readTest_48, pX10_readTest_49, pX10_readTest_51, pX10_readTest_54, pX10_readTest_55, pX10_readTest_55t, pX10_readTest_55f, pX10_readTest_56, pX10_readTest_57, pX10_readTest_58, pX10_readTest_61, pX10_readTest_62, pX10_readTest_63, pX10_readTest_66, pX10_readTest_67, pX10_readTest_70, pX10_readTest_73, pX10_readTest_74, pX10_readTest_74t, pX10_readTest_74f, pX10_readTest_75, pX10_readTest_76, pX10_readTest_78, pX10_readTest_81, pX10_readTest_82, pX10_readTest_84, pX10_readTest_86, pX10_readTest_87, pX10_readTest_88, pX10_readTest_89, pX10_readTest_92, pX10_readTest_95, pX10_readTest_98, pX10_readTest_101, pX10_readTest_102, pX10_readTest_103, pX10_readTest_104, pX10_readTest_105, pX10_readTest_106, pX10_readTest_107, pX10_readTest_110, pX10_readTest_113, pX10_readTest_114, pX10_readTest_114t, pX10_readTest_114f, kd_i0, kd_i1, kd_i2, kd_i3, kd_jA, kd_r5, kd_r6, kd_r7, al_i, al_j, al_r, ai_i, aj_j, aq_r, cls_o, fv_o, sti_i, stj_j, st2_s, st2_n, bnd_some, set1_same, set1_twice, wc_0 hi, wc_1 hi, wc_2 hi, wc_3 hi, wc_4 hi, wc_5 hi, ww_1 hi, ww_2 hi, ww_3 hi, ww_4 hi, ww_5 hi, wow_1 hi, wow_2 hi, wow_3 hi, wow_7 hi, wo_0, wo_1, wo_2, wo_3, wo_4, wo_5, wo_6, wo_7, wo_8, ↓reduceIte, set1_ne, ne_eq, Nat.reduceEqDiff, not_false_eq_true, not_true_eq_false, if_true, if_false, ite_Ei, bI_eq0, pk_us, ix4, cx4, ix5, cx5, ix6, cx6, ix7, cx7, ix8, cx8, ix10, cx10, ix11, cx11, ix12, cx12, ix20, cx20, ix24, cx24, ix60, cx60, ix64, cx64, ix100, cx100, ix101, cx101, ix360, cx360, ix600, cx600, ea', bI_t, n3r, u16, ev, eadd, nb1]
      · rw [if_pos hr]
        obtain ⟨r0, r1, r2⟩ := rel_no hr
        refine ⟨setAt X i (p + 1), S, ?_, h1, FW_at, by show S + p ≤ S + (p + 1); omega, Nat.le_refl _, by show p ≤ p + 1; omega, fun q => by cases q⟩
        simp (decide := true) only [pX10_readTest_0, pX10_readTest_1, pX10_readTest_4, pX10_readTest_5, pX10_readTest_6, pX10_readTest_9, pX10_readTest_11, pX10_readTest_12, pX10_readTest_13, pX10_readTest_16, pX10_readTest_19, pX10_readTest_20, pX10_readTest_20t, pX10_readTest_20f, pX10_readTest_21, pX10_readTest_22, pX10_readTest_23, pX10_readTest_26, pX10_readTest_27, pX10_readTest_28, pX10_readTest_31, pX10_readTest_32, pX10_readTest_35, pX10_readTest_36, pX10_readTest_37, pX10_readTest_39, pX10_readTest_42, pX10_readTest_43, pX10_readTest_45, pX10_readTest_48, pX10_readTest_49, pX10_readTest_51, pX10_readTest_54, pX10_readTest_55, pX10_readTest_55t, pX10_readTest_55f, pX10_readTest_56, pX10_readTest_57, pX10_readTest_58, pX10_readTest_61, pX10_readTest_62, pX10_readTest_63, pX10_readTest_66, pX10_readTest_67, pX10_readTest_70, pX10_readTest_73, pX10_readTest_74, pX10_readTest_74t, pX10_readTest_74f, pX10_readTest_75, pX10_readTest_76, pX10_readTest_78, pX10_readTest_81, pX10_readTest_82, pX10_readTest_84, pX10_readTest_86, pX10_readTest_87, pX10_readTest_88, pX10_readTest_89, pX10_readTest_92, pX10_readTest_95, pX10_readTest_98, pX10_readTest_101, pX10_readTest_102, pX10_readTest_103, pX10_readTest_104, pX10_readTest_105, pX10_readTest_106, pX10_readTest_107, pX10_readTest_110, pX10_readTest_113, pX10_readTest_114, pX10_readTest_114t, pX10_readTest_114f, kd_i0, kd_i1, kd_i2, kd_i3, kd_jA, kd_r5, kd_r6, kd_r7, al_i, al_j, al_r, ai_i, aj_j, aq_r, cls_o, fv_o, sti_i, stj_j, st2_s, st2_n, bnd_some, set1_same, set1_twice, wc_0 hi, wc_1 hi, wc_2 hi, wc_3 hi, wc_4 hi, wc_5 hi, ww_1 hi, ww_2 hi, ww_3 hi, ww_4 hi, ww_5 hi, wow_1 hi, wow_2 hi, wow_3 hi, wow_7 hi, wo_0, wo_1, wo_2, wo_3, wo_4, wo_5, wo_6, wo_7, wo_8, ↓reduceIte, set1_ne, ne_eq, Nat.reduceEqDiff, not_false_eq_true, not_true_eq_false, if_true, if_false, ite_Ei, bI_eq0, pk_us, ix4, cx4, ix5, cx5, ix6, cx6, ix7, cx7, ix8, cx8, ix10, cx10, ix11, cx11, ix12, cx12, ix20, cx20, ix24, cx24, ix60, cx60, ix64, cx64, ix100, cx100, ix101, cx101, ix360, cx360, ix600, cx600, r0, r1, r2, nb0, bI_f]
  · have e1 := sg_ge hp0
    rw [e1] at es ⊢
    have q6 : plN (-1) = 6 := by decide
    rw [if_pos q6]
    refine ⟨X, S, ?_, h, FW_refl, Nat.le_refl _, Nat.le_refl _, Nat.le_refl _, fun q => by cases q⟩
    simp (decide := true) only [pX10_readTest_0, pX10_readTest_1, pX10_readTest_4, pX10_readTest_5, pX10_readTest_6, pX10_readTest_9, pX10_readTest_11, pX10_readTest_12, pX10_readTest_13, pX10_readTest_16, pX10_readTest_19, pX10_readTest_20, pX10_readTest_20t, pX10_readTest_20f, pX10_readTest_21, pX10_readTest_22, pX10_readTest_23, pX10_readTest_26, pX10_readTest_27, pX10_readTest_28, pX10_readTest_31, pX10_readTest_32, pX10_readTest_35, pX10_readTest_36, pX10_readTest_37, pX10_readTest_39, pX10_readTest_42, pX10_readTest_43, pX10_readTest_45, pX10_readTest_48, pX10_readTest_49, pX10_readTest_51, pX10_readTest_54, pX10_readTest_55, pX10_readTest_55t, pX10_readTest_55f, pX10_readTest_56, pX10_readTest_57, pX10_readTest_58, pX10_readTest_61, pX10_readTest_62, pX10_readTest_63, pX10_readTest_66, pX10_readTest_67, pX10_readTest_70, pX10_readTest_73, pX10_readTest_74, pX10_readTest_74t, pX10_readTest_74f, pX10_readTest_75, pX10_readTest_76, pX10_readTest_78, pX10_readTest_81, pX10_readTest_82, pX10_readTest_84, pX10_readTest_86, pX10_readTest_87, pX10_readTest_88, pX10_readTest_89, pX10_readTest_92, pX10_readTest_95, pX10_readTest_98, pX10_readTest_101, pX10_readTest_102, pX10_readTest_103, pX10_readTest_104, pX10_readTest_105, pX10_readTest_106, pX10_readTest_107, pX10_readTest_110, pX10_readTest_113, pX10_readTest_114, pX10_readTest_114t, pX10_readTest_114f, kd_i0, kd_i1, kd_i2, kd_i3, kd_jA, kd_r5, kd_r6, kd_r7, al_i, al_j, al_r, ai_i, aj_j, aq_r, cls_o, fv_o, sti_i, stj_j, st2_s, st2_n, bnd_some, set1_same, set1_twice, wc_0 hi, wc_1 hi, wc_2 hi, wc_3 hi, wc_4 hi, wc_5 hi, ww_1 hi, ww_2 hi, ww_3 hi, ww_4 hi, ww_5 hi, wow_1 hi, wow_2 hi, wow_3 hi, wow_7 hi, wo_0, wo_1, wo_2, wo_3, wo_4, wo_5, wo_6, wo_7, wo_8, ↓reduceIte, set1_ne, ne_eq, Nat.reduceEqDiff, not_false_eq_true, not_true_eq_false, if_true, if_false, ite_Ei, bI_eq0, pk_us, ix4, cx4, ix5, cx5, ix6, cx6, ix7, cx7, ix8, cx8, ix10, cx10, ix11, cx11, ix12, cx12, ix20, cx20, ix24, cx24, ix60, cx60, ix64, cx64, ix100, cx100, ix101, cx101, ix360, cx360, ix600, cx600, es, nb0, bI_f]
/-- contracts of the readers -/
def CO (tx : List Int32) (nest p : Nat) (R : PR) : Prop := ∀ (K : KT) (i : Nat) (X : Nat → Nat → Int32) (S n z : Nat), WS K tx i X p S → CRes K tx i X p S n z R (E (6 + 3 * (5 - nest)) mX10_readOne 0 [.ref (186 + 6 * i), .int (nI nest), .null, .null] [] (hp K X, n, z))
def CB (tx : List Int32) (nest p : Nat) (R : PR) : Prop := ∀ (K : KT) (i : Nat) (X : Nat → Nat → Int32) (S n z : Nat), WS K tx i X p S → CRes K tx i X p S n z R (E (7 + 3 * (5 - nest)) mX10_readBoth 0 [.ref (186 + 6 * i), .int (nI nest), .null, .null] [] (hp K X, n, z))
def CE (tx : List Int32) (nest p : Nat) (R : PR) : Prop := ∀ (K : KT) (i : Nat) (X : Nat → Nat → Int32) (S n z : Nat), WS K tx i X p S → CRes K tx i X p S n z R (E (8 + 3 * (5 - nest)) mX10_readEither 0 [.ref (186 + 6 * i), .int (nI nest), .null, .null] [] (hp K X, n, z))
def CBr (tx : List Int32) (nest p : Nat) (R : PR) : Prop := ∀ (K : KT) (i : Nat) (X : Nat → Nat → Int32) (S n z k : Nat), k ≤ p → WS K tx i X p S → CRes K tx i X p S n z R (E (7 + 3 * (5 - nest)) mX10_readBoth 8 [.ref (186 + 6 * i), .int (nI nest), .int 1, .int (nI k)] [] (hp K X, n, z))
def CEr (tx : List Int32) (nest p : Nat) (R : PR) : Prop := ∀ (K : KT) (i : Nat) (X : Nat → Nat → Int32) (S n z k : Nat), k ≤ p → WS K tx i X p S → CRes K tx i X p S n z R (E (8 + 3 * (5 - nest)) mX10_readEither 8 [.ref (186 + 6 * i), .int (nI nest), .int 1, .int (nI k)] [] (hp K X, n, z))
theorem C_test {tx : List Int32} {nest p : Nat} (ht : tOk tx) (hn : nest ≤ 4) (h33 : ¬ sg tx p = 33) (h40 : ¬ sg tx p = 40) : CO tx nest p (pT (sg tx) p) := by
  intro K i X S n z h
  have hi := h.1
  have es := w_sign (n := n) (z := z) h
  obtain ⟨Y, S', e, r⟩ := w_test (n := n) (z := z) ht h
  refine ⟨Y, S', ?_, r⟩
  rw [← e]
  have k1 : 5 < 6 + 3 * (5 - nest) := by omega
  have k2 : 1 < 6 + 3 * (5 - nest) := by omega
  have hbo : nOk .boolean (bI (pT (sg tx) p).1) = true := nbI _
  simp (decide := true) only [pX10_readOne_0, pX10_readOne_1, pX10_readOne_4, pX10_readOne_5, pX10_readOne_6, pX10_readOne_8, pX10_readOne_11, pX10_readOne_12, pX10_readOne_14, pX10_readOne_17, pX10_readOne_18, pX10_readOne_21, pX10_readOne_21t, pX10_readOne_21f, pX10_readOne_22, pX10_readOne_23, pX10_readOne_24, pX10_readOne_27, pX10_readOne_28, pX10_readOne_28t, pX10_readOne_28f, pX10_readOne_29, pX10_readOne_30, pX10_readOne_31, pX10_readOne_34, pX10_readOne_35, pX10_readOne_36, pX10_readOne_39, pX10_readOne_40, pX10_readOne_42, pX10_readOne_45, pX10_readOne_46, pX10_readOne_47, pX10_readOne_48, pX10_readOne_49, pX10_readOne_52, pX10_readOne_55, pX10_readOne_56, pX10_readOne_58, pX10_readOne_61, pX10_readOne_64, pX10_readOne_65, pX10_readOne_68, pX10_readOne_69, pX10_readOne_69t, pX10_readOne_69f, pX10_readOne_70, pX10_readOne_71, pX10_readOne_72, pX10_readOne_73, pX10_readOne_74, pX10_readOne_77, pX10_readOne_78, pX10_readOne_79, pX10_readOne_81, pX10_readOne_83, pX10_readOne_84, pX10_readOne_87, pX10_readOne_88, pX10_readOne_88t, pX10_readOne_88f, kd_i0, kd_i1, kd_i2, kd_i3, kd_jA, kd_r5, kd_r6, kd_r7, al_i, al_j, al_r, ai_i, aj_j, aq_r, cls_o, fv_o, sti_i, stj_j, st2_s, st2_n, bnd_some, set1_same, set1_twice, wc_0 hi, wc_1 hi, wc_2 hi, wc_3 hi, wc_4 hi, wc_5 hi, ww_1 hi, ww_2 hi, ww_3 hi, ww_4 hi, ww_5 hi, wow_1 hi, wow_2 hi, wow_3 hi, wow_7 hi, wo_0, wo_1, wo_2, wo_3, wo_4, wo_5, wo_6, wo_7, wo_8, ↓reduceIte, set1_ne, ne_eq, Nat.reduceEqDiff, not_false_eq_true, not_true_eq_false, if_true, if_false, ite_Ei, bI_eq0, pk_us, ix4, cx4, ix5, cx5, ix6, cx6, ix7, cx7, ix8, cx8, ix10, cx10, ix11, cx11, ix12, cx12, ix20, cx20, ix24, cx24, ix60, cx60, ix64, cx64, ix100, cx100, ix101, cx101, ix360, cx360, ix600, cx600, k1, k2, es, h33, h40, e, hbo]
theorem C_deep {tx : List Int32} {p : Nat} (h : sg tx p = 33 ∨ sg tx p = 40) : CO tx 4 p (false, p, []) := by
  intro K i X S n z hw
  have hi := hw.1
  have es := w_sign (n := n) (z := z) hw
  refine ⟨X, S, ?_, hw, FW_refl, Nat.le_refl _, Nat.le_refl _, Nat.le_refl _, fun q => by cases q⟩
  have e4 : nI 4 = 4 := rfl
  rcases h with h | h
  · rw [h] at es
    simp (decide := true) only [pX10_readOne_0, pX10_readOne_1, pX10_readOne_4, pX10_readOne_5, pX10_readOne_6, pX10_readOne_8, pX10_readOne_11, pX10_readOne_12, pX10_readOne_14, pX10_readOne_17, pX10_readOne_18, pX10_readOne_21, pX10_readOne_21t, pX10_readOne_21f, pX10_readOne_22, pX10_readOne_23, pX10_readOne_24, pX10_readOne_27, pX10_readOne_28, pX10_readOne_28t, pX10_readOne_28f, pX10_readOne_29, pX10_readOne_30, pX10_readOne_31, pX10_readOne_34, pX10_readOne_35, pX10_readOne_36, pX10_readOne_39, pX10_readOne_40, pX10_readOne_42, pX10_readOne_45, pX10_readOne_46, pX10_readOne_47, pX10_readOne_48, pX10_readOne_49, pX10_readOne_52, pX10_readOne_55, pX10_readOne_56, pX10_readOne_58, pX10_readOne_61, pX10_readOne_64, pX10_readOne_65, pX10_readOne_68, pX10_readOne_69, pX10_readOne_69t, pX10_readOne_69f, pX10_readOne_70, pX10_readOne_71, pX10_readOne_72, pX10_readOne_73, pX10_readOne_74, pX10_readOne_77, pX10_readOne_78, pX10_readOne_79, pX10_readOne_81, pX10_readOne_83, pX10_readOne_84, pX10_readOne_87, pX10_readOne_88, pX10_readOne_88t, pX10_readOne_88f, kd_i0, kd_i1, kd_i2, kd_i3, kd_jA, kd_r5, kd_r6, kd_r7, al_i, al_j, al_r, ai_i, aj_j, aq_r, cls_o, fv_o, sti_i, stj_j, st2_s, st2_n, bnd_some, set1_same, set1_twice, wc_0 hi, wc_1 hi, wc_2 hi, wc_3 hi, wc_4 hi, wc_5 hi, ww_1 hi, ww_2 hi, ww_3 hi, ww_4 hi, ww_5 hi, wow_1 hi, wow_2 hi, wow_3 hi, wow_7 hi, wo_0, wo_1, wo_2, wo_3, wo_4, wo_5, wo_6, wo_7, wo_8, ↓reduceIte, set1_ne, ne_eq, Nat.reduceEqDiff, not_false_eq_true, not_true_eq_false, if_true, if_false, ite_Ei, bI_eq0, pk_us, ix4, cx4, ix5, cx5, ix6, cx6, ix7, cx7, ix8, cx8, ix10, cx10, ix11, cx11, ix12, cx12, ix20, cx20, ix24, cx24, ix60, cx60, ix64, cx64, ix100, cx100, ix101, cx101, ix360, cx360, ix600, cx600, es, e4, nb0, bI_f]
  · rw [h] at es
    simp (decide := true) only [pX10_readOne_0, pX10_readOne_1, pX10_readOne_4, pX10_readOne_5, pX10_readOne_6, pX10_readOne_8, pX10_readOne_11, pX10_readOne_12, pX10_readOne_14, pX10_readOne_17, pX10_readOne_18, pX10_readOne_21, pX10_readOne_21t, pX10_readOne_21f, pX10_readOne_22, pX10_readOne_23, pX10_readOne_24, pX10_readOne_27, pX10_readOne_28, pX10_readOne_28t, pX10_readOne_28f, pX10_readOne_29, pX10_readOne_30, pX10_readOne_31, pX10_readOne_34, pX10_readOne_35, pX10_readOne_36, pX10_readOne_39, pX10_readOne_40, pX10_readOne_42, pX10_readOne_45, pX10_readOne_46, pX10_readOne_47, pX10_readOne_48, pX10_readOne_49, pX10_readOne_52, pX10_readOne_55, pX10_readOne_56, pX10_readOne_58, pX10_readOne_61, pX10_readOne_64, pX10_readOne_65, pX10_readOne_68, pX10_readOne_69, pX10_readOne_69t, pX10_readOne_69f, pX10_readOne_70, pX10_readOne_71, pX10_readOne_72, pX10_readOne_73, pX10_readOne_74, pX10_readOne_77, pX10_readOne_78, pX10_readOne_79, pX10_readOne_81, pX10_readOne_83, pX10_readOne_84, pX10_readOne_87, pX10_readOne_88, pX10_readOne_88t, pX10_readOne_88f, kd_i0, kd_i1, kd_i2, kd_i3, kd_jA, kd_r5, kd_r6, kd_r7, al_i, al_j, al_r, ai_i, aj_j, aq_r, cls_o, fv_o, sti_i, stj_j, st2_s, st2_n, bnd_some, set1_same, set1_twice, wc_0 hi, wc_1 hi, wc_2 hi, wc_3 hi, wc_4 hi, wc_5 hi, ww_1 hi, ww_2 hi, ww_3 hi, ww_4 hi, ww_5 hi, wow_1 hi, wow_2 hi, wow_3 hi, wow_7 hi, wo_0, wo_1, wo_2, wo_3, wo_4, wo_5, wo_6, wo_7, wo_8, ↓reduceIte, set1_ne, ne_eq, Nat.reduceEqDiff, not_false_eq_true, not_true_eq_false, if_true, if_false, ite_Ei, bI_eq0, pk_us, ix4, cx4, ix5, cx5, ix6, cx6, ix7, cx7, ix8, cx8, ix10, cx10, ix11, cx11, ix12, cx12, ix20, cx20, ix24, cx24, ix60, cx60, ix64, cx64, ix100, cx100, ix101, cx101, ix360, cx360, ix600, cx600, es, e4, nb0, bI_f]
theorem C_not {tx : List Int32} {nest p : Nat} {R : PR} (hn : nest < 4) (h : sg tx p = 33) (hR : CO tx (nest + 1) (p + 1) R) : CO tx nest p (if R.1 = true then (true, R.2.1, R.2.2 ++ [-33]) else (false, R.2.1, [])) := by
  intro K i X S n z hw
  have hi := hw.1
  have h8 := hw.2.2.2.2.2.2.2
  have es := w_sign (n := n) (z := z) hw
  rw [h] at es
  have hlt := sg_len h (by decide)
  have h5 := hw.2.2.2.2.1
  have h1 := WS_at (q := p + 1) hw (by omega) (by omega)
  obtain ⟨Y, S', e, wY, fY, b1, b2, b3, ok⟩ := hR K i (setAt X i (p + 1)) S n z h1
  have k1 : 6 + 3 * (5 - (nest + 1)) < 6 + 3 * (5 - nest) := by omega
  have k2 : 1 < 6 + 3 * (5 - nest) := by omega
  have en : nI nest < 4 := nI_lt (b := 4) hn (by decide)
  have hS : S' < R.2.1 := by omega
  have ea := w_add (n := n) (z := z) (a := 33) (l := 32) (v := 0) wY hS (by decide) (by decide)
  have c1 : cx (nI (nest + 1)) = nest + 1 := cx_nI (by omega)
  have eA : set1 X (186 + 6 * i) (upd (X (186 + 6 * i)) 1 (nI (p + 1))) = setAt X i (p + 1) := rfl
  have e33 : nI 33 = 33 := rfl
  have e32 : nI 32 = 32 := rfl
  rw [e33, e32] at ea
  have wc := wc_0 (K := K) (X := Y) hi
  have run : E (6 + 3 * (5 - nest)) mX10_readOne 0 [.ref (186 + 6 * i), .int (nI nest), .null, .null] [] (hp K X, n, z) = some (some (.int (bI R.1)), (hp K (addX3 Y i S' 33 32 0), n, z)) := by
    have hbo : nOk .boolean (bI R.1) = true := nbI _
    simp (decide := true) only [pX10_readOne_0, pX10_readOne_1, pX10_readOne_4, pX10_readOne_5, pX10_readOne_6, pX10_readOne_8, pX10_readOne_11, pX10_readOne_12, pX10_readOne_14, pX10_readOne_17, pX10_readOne_18, pX10_readOne_21, pX10_readOne_21t, pX10_readOne_21f, pX10_readOne_22, pX10_readOne_23, pX10_readOne_24, pX10_readOne_27, pX10_readOne_28, pX10_readOne_28t, pX10_readOne_28f, pX10_readOne_29, pX10_readOne_30, pX10_readOne_31, pX10_readOne_34, pX10_readOne_35, pX10_readOne_36, pX10_readOne_39, pX10_readOne_40, pX10_readOne_42, pX10_readOne_45, pX10_readOne_46, pX10_readOne_47, pX10_readOne_48, pX10_readOne_49, pX10_readOne_52, pX10_readOne_55, pX10_readOne_56, pX10_readOne_58, pX10_readOne_61, pX10_readOne_64, pX10_readOne_65, pX10_readOne_68, pX10_readOne_69, pX10_readOne_69t, pX10_readOne_69f, pX10_readOne_70, pX10_readOne_71, pX10_readOne_72, pX10_readOne_73, pX10_readOne_74, pX10_readOne_77, pX10_readOne_78, pX10_readOne_79, pX10_readOne_81, pX10_readOne_83, pX10_readOne_84, pX10_readOne_87, pX10_readOne_88, pX10_readOne_88t, pX10_readOne_88f, kd_i0, kd_i1, kd_i2, kd_i3, kd_jA, kd_r5, kd_r6, kd_r7, al_i, al_j, al_r, ai_i, aj_j, aq_r, cls_o, fv_o, sti_i, stj_j, st2_s, st2_n, bnd_some, set1_same, set1_twice, wc_0 hi, wc_1 hi, wc_2 hi, wc_3 hi, wc_4 hi, wc_5 hi, ww_1 hi, ww_2 hi, ww_3 hi, ww_4 hi, ww_5 hi, wow_1 hi, wow_2 hi, wow_3 hi, wow_7 hi, wo_0, wo_1, wo_2, wo_3, wo_4, wo_5, wo_6, wo_7, wo_8, ↓reduceIte, set1_ne, ne_eq, Nat.reduceEqDiff, not_false_eq_true, not_true_eq_false, if_true, if_false, ite_Ei, bI_eq0, pk_us, ix4, cx4, ix5, cx5, ix6, cx6, ix7, cx7, ix8, cx8, ix10, cx10, ix11, cx11, ix12, cx12, ix20, cx20, ix24, cx24, ix60, cx60, ix64, cx64, ix100, cx100, ix101, cx101, ix360, cx360, ix600, cx600, k1, k2, es, en, h5, nI_1, eA, c1, e, ea, hbo]
  refine ⟨addX3 Y i S' 33 32 0, S' + 1, ?_, ?_, FW_trans FW_at (FW_trans fY FW_add b2) (Nat.le_refl _), ?_, by omega, ?_, ?_⟩
  · rw [run]
    cases R.1 <;> rfl
  · have := WS_add (a := 33) (l := 32) (v := 0) wY hS
    cases R.1 <;> exact this
  · have e : (if R.1 = true then (true, R.2.1, R.2.2 ++ [-33]) else (false, R.2.1, []) : PR).2.1 = R.2.1 := by cases R.1 <;> rfl
    rw [e]; omega
  · have e : (if R.1 = true then (true, R.2.1, R.2.2 ++ [-33]) else (false, R.2.1, []) : PR).2.1 = R.2.1 := by cases R.1 <;> rfl
    rw [e]; omega
  · intro q
    cases hr : R.1 with
    | false => rw [hr] at q; cases q
    | true =>
      obtain ⟨o1, o2⟩ := ok hr
      rw [if_pos rfl]
      show S' + 1 = S + (R.2.2 ++ [-33]).length ∧ AtS _ i S ((R.2.2 ++ [-33]).map stp1)
      rw [List.length_append, List.map_append, List.map_cons, List.map_nil, stp1_33]
      refine ⟨by rw [o1]; rfl, AtS_join (AtS_keep (S := S') FW_add o2 (by rw [List.length_map]; omega)) ?_⟩
      rw [List.length_map, ← o1]
      exact At_add
theorem C_par {tx : List Int32} {nest p : Nat} {R : PR} (hn : nest < 4) (h : sg tx p = 40) (hR : CE tx (nest + 1) (p + 1) R) : CO tx nest p (if R.1 = true ∧ sg tx R.2.1 = 41 then (true, R.2.1 + 1, R.2.2) else (false, R.2.1, [])) := by
  intro K i X S n z hw
  have hi := hw.1
  have h8 := hw.2.2.2.2.2.2.2
  have es := w_sign (n := n) (z := z) hw
  rw [h] at es
  have hlt := sg_len h (by decide)
  have h5 := hw.2.2.2.2.1
  have h1 := WS_at (q := p + 1) hw (by omega) (by omega)
  obtain ⟨Y, S', e, wY, fY, b1, b2, b3, ok⟩ := hR K i (setAt X i (p + 1)) S n z h1
  have k1 : 8 + 3 * (5 - (nest + 1)) < 6 + 3 * (5 - nest) := by omega
  have k2 : 1 < 6 + 3 * (5 - nest) := by omega
  have k3 : 2 < 6 + 3 * (5 - nest) := by omega
  have en : nI nest < 4 := nI_lt (b := 4) hn (by decide)
  have c1 : cx (nI (nest + 1)) = nest + 1 := cx_nI (by omega)
  have eA : set1 X (186 + 6 * i) (upd (X (186 + 6 * i)) 1 (nI (p + 1))) = setAt X i (p + 1) := rfl
  have wc := wc_0 (K := K) (X := Y) hi
  have er := w_rs (n := n) (z := z) (c := 41) wY
  have hS8 := wY.2.2.2.2.2.2.2
  cases hr : R.1 with
  | false =>
    rw [hr] at e
    rw [if_neg (fun q => by cases q.1)]
    refine ⟨Y, S', ?_, wY, FW_trans FW_at fY (Nat.le_refl _), by show S' + p ≤ S + R.2.1; omega, b2, by show p ≤ R.2.1; omega, fun q => by cases q⟩
    simp (decide := true) only [pX10_readOne_0, pX10_readOne_1, pX10_readOne_4, pX10_readOne_5, pX10_readOne_6, pX10_readOne_8, pX10_readOne_11, pX10_readOne_12, pX10_readOne_14, pX10_readOne_17, pX10_readOne_18, pX10_readOne_21, pX10_readOne_21t, pX10_readOne_21f, pX10_readOne_22, pX10_readOne_23, pX10_readOne_24, pX10_readOne_27, pX10_readOne_28, pX10_readOne_28t, pX10_readOne_28f, pX10_readOne_29, pX10_readOne_30, pX10_readOne_31, pX10_readOne_34, pX10_readOne_35, pX10_readOne_36, pX10_readOne_39, pX10_readOne_40, pX10_readOne_42, pX10_readOne_45, pX10_readOne_46, pX10_readOne_47, pX10_readOne_48, pX10_readOne_49, pX10_readOne_52, pX10_readOne_55, pX10_readOne_56, pX10_readOne_58, pX10_readOne_61, pX10_readOne_64, pX10_readOne_65, pX10_readOne_68, pX10_readOne_69, pX10_readOne_69t, pX10_readOne_69f, pX10_readOne_70, pX10_readOne_71, pX10_readOne_72, pX10_readOne_73, pX10_readOne_74, pX10_readOne_77, pX10_readOne_78, pX10_readOne_79, pX10_readOne_81, pX10_readOne_83, pX10_readOne_84, pX10_readOne_87, pX10_readOne_88, pX10_readOne_88t, pX10_readOne_88f, kd_i0, kd_i1, kd_i2, kd_i3, kd_jA, kd_r5, kd_r6, kd_r7, al_i, al_j, al_r, ai_i, aj_j, aq_r, cls_o, fv_o, sti_i, stj_j, st2_s, st2_n, bnd_some, set1_same, set1_twice, wc_0 hi, wc_1 hi, wc_2 hi, wc_3 hi, wc_4 hi, wc_5 hi, ww_1 hi, ww_2 hi, ww_3 hi, ww_4 hi, ww_5 hi, wow_1 hi, wow_2 hi, wow_3 hi, wow_7 hi, wo_0, wo_1, wo_2, wo_3, wo_4, wo_5, wo_6, wo_7, wo_8, ↓reduceIte, set1_ne, ne_eq, Nat.reduceEqDiff, not_false_eq_true, not_true_eq_false, if_true, if_false, ite_Ei, bI_eq0, pk_us, ix4, cx4, ix5, cx5, ix6, cx6, ix7, cx7, ix8, cx8, ix10, cx10, ix11, cx11, ix12, cx12, ix20, cx20, ix24, cx24, ix60, cx60, ix64, cx64, ix100, cx100, ix101, cx101, ix360, cx360, ix600, cx600, k1, k2, es, en, h5, nI_1, eA, c1, e, bI_f, nb0]
  | true =>
    rw [hr] at e
    by_cases g : sg tx R.2.1 = 41
    · rw [if_pos ⟨rfl, g⟩]
      rw [decide_eq_true g, if_pos g] at er
      have hl2 := sg_len g (by decide)
      obtain ⟨o1, o2⟩ := ok hr
      have o3 : AtS (setAt Y i (R.2.1 + 1)) i S (R.2.2.map stp1) := AtS_keep (S := S') FW_at o2 (by rw [List.length_map]; omega)
      refine ⟨setAt Y i (R.2.1 + 1), S', ?_, WS_at (q := R.2.1 + 1) wY (by omega) (by omega), FW_trans (FW_trans FW_at fY (Nat.le_refl _)) FW_at b2, by show S' + p ≤ S + (R.2.1 + 1); omega, b2, by show p ≤ R.2.1 + 1; omega, fun _ => ⟨o1, o3⟩⟩
      simp (decide := true) only [pX10_readOne_0, pX10_readOne_1, pX10_readOne_4, pX10_readOne_5, pX10_readOne_6, pX10_readOne_8, pX10_readOne_11, pX10_readOne_12, pX10_readOne_14, pX10_readOne_17, pX10_readOne_18, pX10_readOne_21, pX10_readOne_21t, pX10_readOne_21f, pX10_readOne_22, pX10_readOne_23, pX10_readOne_24, pX10_readOne_27, pX10_readOne_28, pX10_readOne_28t, pX10_readOne_28f, pX10_readOne_29, pX10_readOne_30, pX10_readOne_31, pX10_readOne_34, pX10_readOne_35, pX10_readOne_36, pX10_readOne_39, pX10_readOne_40, pX10_readOne_42, pX10_readOne_45, pX10_readOne_46, pX10_readOne_47, pX10_readOne_48, pX10_readOne_49, pX10_readOne_52, pX10_readOne_55, pX10_readOne_56, pX10_readOne_58, pX10_readOne_61, pX10_readOne_64, pX10_readOne_65, pX10_readOne_68, pX10_readOne_69, pX10_readOne_69t, pX10_readOne_69f, pX10_readOne_70, pX10_readOne_71, pX10_readOne_72, pX10_readOne_73, pX10_readOne_74, pX10_readOne_77, pX10_readOne_78, pX10_readOne_79, pX10_readOne_81, pX10_readOne_83, pX10_readOne_84, pX10_readOne_87, pX10_readOne_88, pX10_readOne_88t, pX10_readOne_88f, kd_i0, kd_i1, kd_i2, kd_i3, kd_jA, kd_r5, kd_r6, kd_r7, al_i, al_j, al_r, ai_i, aj_j, aq_r, cls_o, fv_o, sti_i, stj_j, st2_s, st2_n, bnd_some, set1_same, set1_twice, wc_0 hi, wc_1 hi, wc_2 hi, wc_3 hi, wc_4 hi, wc_5 hi, ww_1 hi, ww_2 hi, ww_3 hi, ww_4 hi, ww_5 hi, wow_1 hi, wow_2 hi, wow_3 hi, wow_7 hi, wo_0, wo_1, wo_2, wo_3, wo_4, wo_5, wo_6, wo_7, wo_8, ↓reduceIte, set1_ne, ne_eq, Nat.reduceEqDiff, not_false_eq_true, not_true_eq_false, if_true, if_false, ite_Ei, bI_eq0, pk_us, ix4, cx4, ix5, cx5, ix6, cx6, ix7, cx7, ix8, cx8, ix10, cx10, ix11, cx11, ix12, cx12, ix20, cx20, ix24, cx24, ix60, cx60, ix64, cx64, ix100, cx100, ix101, cx101, ix360, cx360, ix600, cx600, k1, k2, k3, es, en, h5, nI_1, eA, c1, e, bI_t, er, nb1]
    · rw [if_neg (fun q => g q.2)]
      rw [decide_eq_false g, if_neg g] at er
      refine ⟨Y, S', ?_, wY, FW_trans FW_at fY (Nat.le_refl _), by show S' + p ≤ S + R.2.1; omega, b2, by show p ≤ R.2.1; omega, fun q => by cases q⟩
      simp (decide := true) only [pX10_readOne_0, pX10_readOne_1, pX10_readOne_4, pX10_readOne_5, pX10_readOne_6, pX10_readOne_8, pX10_readOne_11, pX10_readOne_12, pX10_readOne_14, pX10_readOne_17, pX10_readOne_18, pX10_readOne_21, pX10_readOne_21t, pX10_readOne_21f, pX10_readOne_22, pX10_readOne_23, pX10_readOne_24, pX10_readOne_27, pX10_readOne_28, pX10_readOne_28t, pX10_readOne_28f, pX10_readOne_29, pX10_readOne_30, pX10_readOne_31, pX10_readOne_34, pX10_readOne_35, pX10_readOne_36, pX10_readOne_39, pX10_readOne_40, pX10_readOne_42, pX10_readOne_45, pX10_readOne_46, pX10_readOne_47, pX10_readOne_48, pX10_readOne_49, pX10_readOne_52, pX10_readOne_55, pX10_readOne_56, pX10_readOne_58, pX10_readOne_61, pX10_readOne_64, pX10_readOne_65, pX10_readOne_68, pX10_readOne_69, pX10_readOne_69t, pX10_readOne_69f, pX10_readOne_70, pX10_readOne_71, pX10_readOne_72, pX10_readOne_73, pX10_readOne_74, pX10_readOne_77, pX10_readOne_78, pX10_readOne_79, pX10_readOne_81, pX10_readOne_83, pX10_readOne_84, pX10_readOne_87, pX10_readOne_88, pX10_readOne_88t, pX10_readOne_88f, kd_i0, kd_i1, kd_i2, kd_i3, kd_jA, kd_r5, kd_r6, kd_r7, al_i, al_j, al_r, ai_i, aj_j, aq_r, cls_o, fv_o, sti_i, stj_j, st2_s, st2_n, bnd_some, set1_same, set1_twice, wc_0 hi, wc_1 hi, wc_2 hi, wc_3 hi, wc_4 hi, wc_5 hi, ww_1 hi, ww_2 hi, ww_3 hi, ww_4 hi, ww_5 hi, wow_1 hi, wow_2 hi, wow_3 hi, wow_7 hi, wo_0, wo_1, wo_2, wo_3, wo_4, wo_5, wo_6, wo_7, wo_8, ↓reduceIte, set1_ne, ne_eq, Nat.reduceEqDiff, not_false_eq_true, not_true_eq_false, if_true, if_false, ite_Ei, bI_eq0, pk_us, ix4, cx4, ix5, cx5, ix6, cx6, ix7, cx7, ix8, cx8, ix10, cx10, ix11, cx11, ix12, cx12, ix20, cx20, ix24, cx24, ix60, cx60, ix64, cx64, ix100, cx100, ix101, cx101, ix360, cx360, ix600, cx600, k1, k2, k3, es, en, h5, nI_1, eA, c1, e, bI_t, bI_f, er, nb0]
theorem C_both_end {tx : List Int32} {nest p : Nat} (hn : nest ≤ 4) (h : ¬ sg tx p = 38) : CBr tx nest p (true, p, []) := by
  intro K i X S n z k hk hw
  have hi := hw.1
  have h2 := hw.2.1
  have es := w_sign (n := n) (z := z) hw
  have k2 : 1 < 7 + 3 * (5 - nest) := by omega
  refine ⟨X, S, ?_, hw, FW_refl, Nat.le_refl _, Nat.le_refl _, Nat.le_refl _, fun _ => ⟨rfl, fun k hk => absurd hk (by simp)⟩⟩
  have hl := hw.2.2.1
  have hp := hw.2.2.2.2.2.2.1
  by_cases q : k < tx.length
  · have q1 : ¬ nI tx.length ≤ nI k := nI_ge q (by omega)
    simp (decide := true) only [pX10_readBoth_0, pX10_readBoth_1, pX10_readBoth_2, pX10_readBoth_5, pX10_readBoth_6, pX10_readBoth_7, pX10_readBoth_8, pX10_readBoth_9, pX10_readBoth_10, pX10_readBoth_13, pX10_readBoth_14, pX10_readBoth_17, pX10_readBoth_18, pX10_readBoth_21, pX10_readBoth_22, pX10_readBoth_25, pX10_readBoth_27, pX10_readBoth_30, pX10_readBoth_31, pX10_readBoth_32, pX10_readBoth_35, pX10_readBoth_36, pX10_readBoth_37, pX10_readBoth_40, pX10_readBoth_41, pX10_readBoth_42, pX10_readBoth_45, pX10_readBoth_46, pX10_readBoth_47, pX10_readBoth_49, pX10_readBoth_51, pX10_readBoth_52, pX10_readBoth_55, pX10_readBoth_58, pX10_readBoth_61, pX10_readBoth_62, pX10_readBoth_62t, pX10_readBoth_62f, kd_i0, kd_i1, kd_i2, kd_i3, kd_jA, kd_r5, kd_r6, kd_r7, al_i, al_j, al_r, ai_i, aj_j, aq_r, cls_o, fv_o, sti_i, stj_j, st2_s, st2_n, bnd_some, set1_same, set1_twice, wc_0 hi, wc_1 hi, wc_2 hi, wc_3 hi, wc_4 hi, wc_5 hi, ww_1 hi, ww_2 hi, ww_3 hi, ww_4 hi, ww_5 hi, wow_1 hi, wow_2 hi, wow_3 hi, wow_7 hi, wo_0, wo_1, wo_2, wo_3, wo_4, wo_5, wo_6, wo_7, wo_8, ↓reduceIte, set1_ne, ne_eq, Nat.reduceEqDiff, not_false_eq_true, not_true_eq_false, if_true, if_false, ite_Ei, bI_eq0, pk_us, ix4, cx4, ix5, cx5, ix6, cx6, ix7, cx7, ix8, cx8, ix10, cx10, ix11, cx11, ix12, cx12, ix20, cx20, ix24, cx24, ix60, cx60, ix64, cx64, ix100, cx100, ix101, cx101, ix360, cx360, ix600, cx600, h2, ofNat_nI, q1, k2, es, h, nb1, bI_t]
  · have q1 : nI tx.length ≤ nI k := nI_le (by omega) (by omega)
    simp (decide := true) only [pX10_readBoth_0, pX10_readBoth_1, pX10_readBoth_2, pX10_readBoth_5, pX10_readBoth_6, pX10_readBoth_7, pX10_readBoth_8, pX10_readBoth_9, pX10_readBoth_10, pX10_readBoth_13, pX10_readBoth_14, pX10_readBoth_17, pX10_readBoth_18, pX10_readBoth_21, pX10_readBoth_22, pX10_readBoth_25, pX10_readBoth_27, pX10_readBoth_30, pX10_readBoth_31, pX10_readBoth_32, pX10_readBoth_35, pX10_readBoth_36, pX10_readBoth_37, pX10_readBoth_40, pX10_readBoth_41, pX10_readBoth_42, pX10_readBoth_45, pX10_readBoth_46, pX10_readBoth_47, pX10_readBoth_49, pX10_readBoth_51, pX10_readBoth_52, pX10_readBoth_55, pX10_readBoth_58, pX10_readBoth_61, pX10_readBoth_62, pX10_readBoth_62t, pX10_readBoth_62f, kd_i0, kd_i1, kd_i2, kd_i3, kd_jA, kd_r5, kd_r6, kd_r7, al_i, al_j, al_r, ai_i, aj_j, aq_r, cls_o, fv_o, sti_i, stj_j, st2_s, st2_n, bnd_some, set1_same, set1_twice, wc_0 hi, wc_1 hi, wc_2 hi, wc_3 hi, wc_4 hi, wc_5 hi, ww_1 hi, ww_2 hi, ww_3 hi, ww_4 hi, ww_5 hi, wow_1 hi, wow_2 hi, wow_3 hi, wow_7 hi, wo_0, wo_1, wo_2, wo_3, wo_4, wo_5, wo_6, wo_7, wo_8, ↓reduceIte, set1_ne, ne_eq, Nat.reduceEqDiff, not_false_eq_true, not_true_eq_false, if_true, if_false, ite_Ei, bI_eq0, pk_us, ix4, cx4, ix5, cx5, ix6, cx6, ix7, cx7, ix8, cx8, ix10, cx10, ix11, cx11, ix12, cx12, ix20, cx20, ix24, cx24, ix60, cx60, ix64, cx64, ix100, cx100, ix101, cx101, ix360, cx360, ix600, cx600, h2, ofNat_nI, q1, nb1, bI_t]
theorem C_both_step {tx : List Int32} {nest p : Nat} {R R2 : PR} (hn : nest ≤ 4) (h : sg tx p = 38) (hR : CO tx nest (p + 1) R) (hR2 : R.1 = true → CBr tx nest R.2.1 R2) : CBr tx nest p (if R.1 = true then (R2.1, R2.2.1, R.2.2 ++ (-38 :: R2.2.2)) else (false, R.2.1, [])) := by
  intro K i X S n z k hk hw
  have hi := hw.1
  have h2 := hw.2.1
  have hl := hw.2.2.1
  have h8 := hw.2.2.2.2.2.2.2
  have es := w_sign (n := n) (z := z) hw
  rw [h] at es
  have hlt := sg_len h (by decide)
  have h5 := hw.2.2.2.2.1
  have h1 := WS_at (q := p + 1) hw (by omega) (by omega)
  obtain ⟨Y, S', e, wY, fY, b1, b2, b3, ok⟩ := hR K i (setAt X i (p + 1)) S n z h1
  have k1 : 6 + 3 * (5 - nest) < 7 + 3 * (5 - nest) := by omega
  have k2 : 1 < 7 + 3 * (5 - nest) := by omega
  have q1 : ¬ nI tx.length ≤ nI k := nI_ge (by omega) (by omega)
  have hS : S' < R.2.1 := by omega
  have ea := w_add (n := n) (z := z) (a := 38) (l := 32) (v := 0) wY hS (by decide) (by decide)
  have c1 : cx (nI nest) = nest := cx_nI (by omega)
  have eA : set1 X (186 + 6 * i) (upd (X (186 + 6 * i)) 1 (nI (p + 1))) = setAt X i (p + 1) := rfl
  have e33 : nI 38 = 38 := rfl
  have e32 : nI 32 = 32 := rfl
  rw [e33, e32] at ea
  have wc := wc_0 (K := K) (X := Y) hi
  have wZ := WS_add (a := 38) (l := 32) (v := 0) wY hS
  have run : E (7 + 3 * (5 - nest)) mX10_readBoth 8 [.ref (186 + 6 * i), .int (nI nest), .int 1, .int (nI k)] [] (hp K X, n, z) = E (7 + 3 * (5 - nest)) mX10_readBoth 8 [.ref (186 + 6 * i), .int (nI nest), .int (bI R.1), .int (nI (k + 1))] [] (hp K (addX3 Y i S' 38 32 0), n, z) := by
    rw [pX10_readBoth_8]
    simp (decide := true) only [pX10_readBoth_0, pX10_readBoth_1, pX10_readBoth_2, pX10_readBoth_5, pX10_readBoth_6, pX10_readBoth_7, pX10_readBoth_9, pX10_readBoth_10, pX10_readBoth_13, pX10_readBoth_14, pX10_readBoth_17, pX10_readBoth_18, pX10_readBoth_21, pX10_readBoth_22, pX10_readBoth_25, pX10_readBoth_27, pX10_readBoth_30, pX10_readBoth_31, pX10_readBoth_32, pX10_readBoth_35, pX10_readBoth_36, pX10_readBoth_37, pX10_readBoth_40, pX10_readBoth_41, pX10_readBoth_42, pX10_readBoth_45, pX10_readBoth_46, pX10_readBoth_47, pX10_readBoth_49, pX10_readBoth_51, pX10_readBoth_52, pX10_readBoth_55, pX10_readBoth_58, pX10_readBoth_61, pX10_readBoth_62, pX10_readBoth_62t, pX10_readBoth_62f, kd_i0, kd_i1, kd_i2, kd_i3, kd_jA, kd_r5, kd_r6, kd_r7, al_i, al_j, al_r, ai_i, aj_j, aq_r, cls_o, fv_o, sti_i, stj_j, st2_s, st2_n, bnd_some, set1_same, set1_twice, wc_0 hi, wc_1 hi, wc_2 hi, wc_3 hi, wc_4 hi, wc_5 hi, ww_1 hi, ww_2 hi, ww_3 hi, ww_4 hi, ww_5 hi, wow_1 hi, wow_2 hi, wow_3 hi, wow_7 hi, wo_0, wo_1, wo_2, wo_3, wo_4, wo_5, wo_6, wo_7, wo_8, ↓reduceIte, set1_ne, ne_eq, Nat.reduceEqDiff, not_false_eq_true, not_true_eq_false, if_true, if_false, ite_Ei, bI_eq0, pk_us, ix4, cx4, ix5, cx5, ix6, cx6, ix7, cx7, ix8, cx8, ix10, cx10, ix11, cx11, ix12, cx12, ix20, cx20, ix24, cx24, ix60, cx60, ix64, cx64, ix100, cx100, ix101, cx101, ix360, cx360, ix600, cx600, h2, ofNat_nI, q1, k1, k2, es, h5, nI_1, eA, c1, e, ea]
  have fZ : FW i S X (addX3 Y i S' 38 32 0) := FW_trans FW_at (FW_trans fY FW_add b2) (Nat.le_refl _)
  cases hr : R.1 with
  | false =>
    rw [if_neg (by decide)]
    rw [hr] at run
    refine ⟨addX3 Y i S' 38 32 0, S' + 1, ?_, wZ, fZ, by show S' + 1 + p ≤ S + R.2.1; omega, by omega, by show p ≤ R.2.1; omega, fun q => by cases q⟩
    rw [run, pX10_readBoth_8]
    have h2' := h2
    by_cases q : k + 1 < tx.length
    · have q2 : ¬ nI tx.length ≤ nI (k + 1) := nI_ge q (by omega)
      simp (decide := true) only [pX10_readBoth_0, pX10_readBoth_1, pX10_readBoth_2, pX10_readBoth_5, pX10_readBoth_6, pX10_readBoth_7, pX10_readBoth_9, pX10_readBoth_10, pX10_readBoth_13, pX10_readBoth_14, pX10_readBoth_17, pX10_readBoth_18, pX10_readBoth_21, pX10_readBoth_22, pX10_readBoth_25, pX10_readBoth_27, pX10_readBoth_30, pX10_readBoth_31, pX10_readBoth_32, pX10_readBoth_35, pX10_readBoth_36, pX10_readBoth_37, pX10_readBoth_40, pX10_readBoth_41, pX10_readBoth_42, pX10_readBoth_45, pX10_readBoth_46, pX10_readBoth_47, pX10_readBoth_49, pX10_readBoth_51, pX10_readBoth_52, pX10_readBoth_55, pX10_readBoth_58, pX10_readBoth_61, pX10_readBoth_62, pX10_readBoth_62t, pX10_readBoth_62f, kd_i0, kd_i1, kd_i2, kd_i3, kd_jA, kd_r5, kd_r6, kd_r7, al_i, al_j, al_r, ai_i, aj_j, aq_r, cls_o, fv_o, sti_i, stj_j, st2_s, st2_n, bnd_some, set1_same, set1_twice, wc_0 hi, wc_1 hi, wc_2 hi, wc_3 hi, wc_4 hi, wc_5 hi, ww_1 hi, ww_2 hi, ww_3 hi, ww_4 hi, ww_5 hi, wow_1 hi, wow_2 hi, wow_3 hi, wow_7 hi, wo_0, wo_1, wo_2, wo_3, wo_4, wo_5, wo_6, wo_7, wo_8, ↓reduceIte, set1_ne, ne_eq, Nat.reduceEqDiff, not_false_eq_true, not_true_eq_false, if_true, if_false, ite_Ei, bI_eq0, pk_us, ix4, cx4, ix5, cx5, ix6, cx6, ix7, cx7, ix8, cx8, ix10, cx10, ix11, cx11, ix12, cx12, ix20, cx20, ix24, cx24, ix60, cx60, ix64, cx64, ix100, cx100, ix101, cx101, ix360, cx360, ix600, cx600, h2, ofNat_nI, q2, bI_f, nb0]
    · have q2 : nI tx.length ≤ nI (k + 1) := nI_le (by omega) (by omega)
      simp (decide := true) only [pX10_readBoth_0, pX10_readBoth_1, pX10_readBoth_2, pX10_readBoth_5, pX10_readBoth_6, pX10_readBoth_7, pX10_readBoth_9, pX10_readBoth_10, pX10_readBoth_13, pX10_readBoth_14, pX10_readBoth_17, pX10_readBoth_18, pX10_readBoth_21, pX10_readBoth_22, pX10_readBoth_25, pX10_readBoth_27, pX10_readBoth_30, pX10_readBoth_31, pX10_readBoth_32, pX10_readBoth_35, pX10_readBoth_36, pX10_readBoth_37, pX10_readBoth_40, pX10_readBoth_41, pX10_readBoth_42, pX10_readBoth_45, pX10_readBoth_46, pX10_readBoth_47, pX10_readBoth_49, pX10_readBoth_51, pX10_readBoth_52, pX10_readBoth_55, pX10_readBoth_58, pX10_readBoth_61, pX10_readBoth_62, pX10_readBoth_62t, pX10_readBoth_62f, kd_i0, kd_i1, kd_i2, kd_i3, kd_jA, kd_r5, kd_r6, kd_r7, al_i, al_j, al_r, ai_i, aj_j, aq_r, cls_o, fv_o, sti_i, stj_j, st2_s, st2_n, bnd_some, set1_same, set1_twice, wc_0 hi, wc_1 hi, wc_2 hi, wc_3 hi, wc_4 hi, wc_5 hi, ww_1 hi, ww_2 hi, ww_3 hi, ww_4 hi, ww_5 hi, wow_1 hi, wow_2 hi, wow_3 hi, wow_7 hi, wo_0, wo_1, wo_2, wo_3, wo_4, wo_5, wo_6, wo_7, wo_8, ↓reduceIte, set1_ne, ne_eq, Nat.reduceEqDiff, not_false_eq_true, not_true_eq_false, if_true, if_false, ite_Ei, bI_eq0, pk_us, ix4, cx4, ix5, cx5, ix6, cx6, ix7, cx7, ix8, cx8, ix10, cx10, ix11, cx11, ix12, cx12, ix20, cx20, ix24, cx24, ix60, cx60, ix64, cx64, ix100, cx100, ix101, cx101, ix360, cx360, ix600, cx600, h2, ofNat_nI, q2, bI_f, nb0]
  | true =>
    rw [if_pos rfl]
    rw [hr] at run
    obtain ⟨o1, o2⟩ := ok hr
    obtain ⟨W, S2, e2, wW, fW, d1, d2, d3, ok2⟩ := hR2 hr K i (addX3 Y i S' 38 32 0) (S' + 1) n z (k + 1) (by omega) wZ
    refine ⟨W, S2, run.trans e2, wW, FW_trans fZ fW (by omega), by show S2 + p ≤ S + R2.2.1; omega, by omega, by show p ≤ R2.2.1; omega, fun q => ?_⟩
    obtain ⟨u1, u2⟩ := ok2 q
    have o3 : AtS (addX3 Y i S' 38 32 0) i S (R.2.2.map stp1 ++ [(38, 32, 0)]) := AtS_join (AtS_keep (S := S') FW_add o2 (by rw [List.length_map]; omega)) (by rw [List.length_map, ← o1]; exact At_add)
    have o4 : AtS W i S (R.2.2.map stp1 ++ [(38, 32, 0)]) := AtS_keep fW o3 (by rw [List.length_append, List.length_map]; show S + (R.2.2.length + 1) ≤ S' + 1; omega)
    show S2 = S + (R.2.2 ++ (-38 :: R2.2.2)).length ∧ AtS W i S ((R.2.2 ++ (-38 :: R2.2.2)).map stp1)
    rw [List.length_append, List.length_cons, List.map_append, List.map_cons, stp1_38]
    refine ⟨by omega, ?_⟩
    rw [show R.2.2.map stp1 ++ (38, 32, 0) :: R2.2.2.map stp1 = (R.2.2.map stp1 ++ [(38, 32, 0)]) ++ R2.2.2.map stp1 by simp]
    refine AtS_join o4 ?_
    rw [List.length_append, List.length_map]
    show AtS W i (S + (R.2.2.length + 1)) _
    rw [show S + (R.2.2.length + 1) = S' + 1 by omega]
    exact u2
theorem C_both {tx : List Int32} {nest p : Nat} {R R2 : PR} (hn : nest ≤ 4) (hR : CO tx nest p R) (hR2 : R.1 = true → CBr tx nest R.2.1 R2) : CB tx nest p (if R.1 = true then (R2.1, R2.2.1, R.2.2 ++ R2.2.2) else (false, R.2.1, [])) := by
  intro K i X S n z hw
  have hi := hw.1
  have h2 := hw.2.1
  have hl := hw.2.2.1
  obtain ⟨Y, S', e, wY, fY, b1, b2, b3, ok⟩ := hR K i X S n z hw
  have k1 : 6 + 3 * (5 - nest) < 7 + 3 * (5 - nest) := by omega
  have c1 : cx (nI nest) = nest := cx_nI (by omega)
  have run : E (7 + 3 * (5 - nest)) mX10_readBoth 0 [.ref (186 + 6 * i), .int (nI nest), .null, .null] [] (hp K X, n, z) = E (7 + 3 * (5 - nest)) mX10_readBoth 8 [.ref (186 + 6 * i), .int (nI nest), .int (bI R.1), .int (nI 0)] [] (hp K Y, n, z) := by
    simp (decide := true) only [pX10_readBoth_0, pX10_readBoth_1, pX10_readBoth_2, pX10_readBoth_5, pX10_readBoth_6, pX10_readBoth_7, pX10_readBoth_9, pX10_readBoth_10, pX10_readBoth_13, pX10_readBoth_14, pX10_readBoth_17, pX10_readBoth_18, pX10_readBoth_21, pX10_readBoth_22, pX10_readBoth_25, pX10_readBoth_27, pX10_readBoth_30, pX10_readBoth_31, pX10_readBoth_32, pX10_readBoth_35, pX10_readBoth_36, pX10_readBoth_37, pX10_readBoth_40, pX10_readBoth_41, pX10_readBoth_42, pX10_readBoth_45, pX10_readBoth_46, pX10_readBoth_47, pX10_readBoth_49, pX10_readBoth_51, pX10_readBoth_52, pX10_readBoth_55, pX10_readBoth_58, pX10_readBoth_61, pX10_readBoth_62, pX10_readBoth_62t, pX10_readBoth_62f, kd_i0, kd_i1, kd_i2, kd_i3, kd_jA, kd_r5, kd_r6, kd_r7, al_i, al_j, al_r, ai_i, aj_j, aq_r, cls_o, fv_o, sti_i, stj_j, st2_s, st2_n, bnd_some, set1_same, set1_twice, wc_0 hi, wc_1 hi, wc_2 hi, wc_3 hi, wc_4 hi, wc_5 hi, ww_1 hi, ww_2 hi, ww_3 hi, ww_4 hi, ww_5 hi, wow_1 hi, wow_2 hi, wow_3 hi, wow_7 hi, wo_0, wo_1, wo_2, wo_3, wo_4, wo_5, wo_6, wo_7, wo_8, ↓reduceIte, set1_ne, ne_eq, Nat.reduceEqDiff, not_false_eq_true, not_true_eq_false, if_true, if_false, ite_Ei, bI_eq0, pk_us, ix4, cx4, ix5, cx5, ix6, cx6, ix7, cx7, ix8, cx8, ix10, cx10, ix11, cx11, ix12, cx12, ix20, cx20, ix24, cx24, ix60, cx60, ix64, cx64, ix100, cx100, ix101, cx101, ix360, cx360, ix600, cx600, k1, c1, e]
    rfl
  cases hr : R.1 with
  | false =>
    rw [if_neg (by decide)]
    rw [hr] at run
    refine ⟨Y, S', ?_, wY, fY, b1, b2, b3, fun q => by cases q⟩
    have h2' := wY.2.1
    rw [run, pX10_readBoth_8]
    by_cases q : 0 < tx.length
    · have q2 : ¬ nI tx.length ≤ nI 0 := nI_ge q (by omega)
      simp (decide := true) only [pX10_readBoth_0, pX10_readBoth_1, pX10_readBoth_2, pX10_readBoth_5, pX10_readBoth_6, pX10_readBoth_7, pX10_readBoth_9, pX10_readBoth_10, pX10_readBoth_13, pX10_readBoth_14, pX10_readBoth_17, pX10_readBoth_18, pX10_readBoth_21, pX10_readBoth_22, pX10_readBoth_25, pX10_readBoth_27, pX10_readBoth_30, pX10_readBoth_31, pX10_readBoth_32, pX10_readBoth_35, pX10_readBoth_36, pX10_readBoth_37, pX10_readBoth_40, pX10_readBoth_41, pX10_readBoth_42, pX10_readBoth_45, pX10_readBoth_46, pX10_readBoth_47, pX10_readBoth_49, pX10_readBoth_51, pX10_readBoth_52, pX10_readBoth_55, pX10_readBoth_58, pX10_readBoth_61, pX10_readBoth_62, pX10_readBoth_62t, pX10_readBoth_62f, kd_i0, kd_i1, kd_i2, kd_i3, kd_jA, kd_r5, kd_r6, kd_r7, al_i, al_j, al_r, ai_i, aj_j, aq_r, cls_o, fv_o, sti_i, stj_j, st2_s, st2_n, bnd_some, set1_same, set1_twice, wc_0 hi, wc_1 hi, wc_2 hi, wc_3 hi, wc_4 hi, wc_5 hi, ww_1 hi, ww_2 hi, ww_3 hi, ww_4 hi, ww_5 hi, wow_1 hi, wow_2 hi, wow_3 hi, wow_7 hi, wo_0, wo_1, wo_2, wo_3, wo_4, wo_5, wo_6, wo_7, wo_8, ↓reduceIte, set1_ne, ne_eq, Nat.reduceEqDiff, not_false_eq_true, not_true_eq_false, if_true, if_false, ite_Ei, bI_eq0, pk_us, ix4, cx4, ix5, cx5, ix6, cx6, ix7, cx7, ix8, cx8, ix10, cx10, ix11, cx11, ix12, cx12, ix20, cx20, ix24, cx24, ix60, cx60, ix64, cx64, ix100, cx100, ix101, cx101, ix360, cx360, ix600, cx600, h2, ofNat_nI, q2, bI_f, nb0]
    · have q2 : nI tx.length ≤ nI 0 := nI_le (by omega) (by omega)
      simp (decide := true) only [pX10_readBoth_0, pX10_readBoth_1, pX10_readBoth_2, pX10_readBoth_5, pX10_readBoth_6, pX10_readBoth_7, pX10_readBoth_9, pX10_readBoth_10, pX10_readBoth_13, pX10_readBoth_14, pX10_readBoth_17, pX10_readBoth_18, pX10_readBoth_21, pX10_readBoth_22, pX10_readBoth_25, pX10_readBoth_27, pX10_readBoth_30, pX10_readBoth_31, pX10_readBoth_32, pX10_readBoth_35, pX10_readBoth_36, pX10_readBoth_37, pX10_readBoth_40, pX10_readBoth_41, pX10_readBoth_42, pX10_readBoth_45, pX10_readBoth_46, pX10_readBoth_47, pX10_readBoth_49, pX10_readBoth_51, pX10_readBoth_52, pX10_readBoth_55, pX10_readBoth_58, pX10_readBoth_61, pX10_readBoth_62, pX10_readBoth_62t, pX10_readBoth_62f, kd_i0, kd_i1, kd_i2, kd_i3, kd_jA, kd_r5, kd_r6, kd_r7, al_i, al_j, al_r, ai_i, aj_j, aq_r, cls_o, fv_o, sti_i, stj_j, st2_s, st2_n, bnd_some, set1_same, set1_twice, wc_0 hi, wc_1 hi, wc_2 hi, wc_3 hi, wc_4 hi, wc_5 hi, ww_1 hi, ww_2 hi, ww_3 hi, ww_4 hi, ww_5 hi, wow_1 hi, wow_2 hi, wow_3 hi, wow_7 hi, wo_0, wo_1, wo_2, wo_3, wo_4, wo_5, wo_6, wo_7, wo_8, ↓reduceIte, set1_ne, ne_eq, Nat.reduceEqDiff, not_false_eq_true, not_true_eq_false, if_true, if_false, ite_Ei, bI_eq0, pk_us, ix4, cx4, ix5, cx5, ix6, cx6, ix7, cx7, ix8, cx8, ix10, cx10, ix11, cx11, ix12, cx12, ix20, cx20, ix24, cx24, ix60, cx60, ix64, cx64, ix100, cx100, ix101, cx101, ix360, cx360, ix600, cx600, h2, ofNat_nI, q2, bI_f, nb0]
  | true =>
    rw [if_pos rfl]
    rw [hr] at run
    obtain ⟨o1, o2⟩ := ok hr
    obtain ⟨W, S2, e2, wW, fW, d1, d2, d3, ok2⟩ := hR2 hr K i Y S' n z 0 (Nat.zero_le _) wY
    refine ⟨W, S2, run.trans e2, wW, FW_trans fY fW b2, by show S2 + p ≤ S + R2.2.1; omega, by omega, by show p ≤ R2.2.1; omega, fun q => ?_⟩
    obtain ⟨u1, u2⟩ := ok2 q
    show S2 = S + (R.2.2 ++ R2.2.2).length ∧ AtS W i S ((R.2.2 ++ R2.2.2).map stp1)
    rw [List.length_append, List.map_append]
    refine ⟨by omega, AtS_join (AtS_keep fW o2 (by rw [List.length_map]; omega)) ?_⟩
    rw [List.length_map, ← o1]
    exact u2
theorem C_either_end {tx : List Int32} {nest p : Nat} (hn : nest ≤ 4) (h : ¬ sg tx p = 124) : CEr tx nest p (true, p, []) := by
  intro K i X S n z k hk hw
  have hi := hw.1
  have h2 := hw.2.1
  have es := w_sign (n := n) (z := z) hw
  have k2 : 1 < 8 + 3 * (5 - nest) := by omega
  refine ⟨X, S, ?_, hw, FW_refl, Nat.le_refl _, Nat.le_refl _, Nat.le_refl _, fun _ => ⟨rfl, fun k hk => absurd hk (by simp)⟩⟩
  have hl := hw.2.2.1
  have hp := hw.2.2.2.2.2.2.1
  by_cases q : k < tx.length
  · have q1 : ¬ nI tx.length ≤ nI k := nI_ge q (by omega)
    simp (decide := true) only [pX10_readEither_0, pX10_readEither_1, pX10_readEither_2, pX10_readEither_5, pX10_readEither_6, pX10_readEither_7, pX10_readEither_8, pX10_readEither_9, pX10_readEither_10, pX10_readEither_13, pX10_readEither_14, pX10_readEither_17, pX10_readEither_18, pX10_readEither_21, pX10_readEither_22, pX10_readEither_25, pX10_readEither_27, pX10_readEither_30, pX10_readEither_31, pX10_readEither_32, pX10_readEither_35, pX10_readEither_36, pX10_readEither_37, pX10_readEither_40, pX10_readEither_41, pX10_readEither_42, pX10_readEither_45, pX10_readEither_46, pX10_readEither_47, pX10_readEither_49, pX10_readEither_51, pX10_readEither_52, pX10_readEither_55, pX10_readEither_58, pX10_readEither_61, pX10_readEither_62, pX10_readEither_62t, pX10_readEither_62f, kd_i0, kd_i1, kd_i2, kd_i3, kd_jA, kd_r5, kd_r6, kd_r7, al_i, al_j, al_r, ai_i, aj_j, aq_r, cls_o, fv_o, sti_i, stj_j, st2_s, st2_n, bnd_some, set1_same, set1_twice, wc_0 hi, wc_1 hi, wc_2 hi, wc_3 hi, wc_4 hi, wc_5 hi, ww_1 hi, ww_2 hi, ww_3 hi, ww_4 hi, ww_5 hi, wow_1 hi, wow_2 hi, wow_3 hi, wow_7 hi, wo_0, wo_1, wo_2, wo_3, wo_4, wo_5, wo_6, wo_7, wo_8, ↓reduceIte, set1_ne, ne_eq, Nat.reduceEqDiff, not_false_eq_true, not_true_eq_false, if_true, if_false, ite_Ei, bI_eq0, pk_us, ix4, cx4, ix5, cx5, ix6, cx6, ix7, cx7, ix8, cx8, ix10, cx10, ix11, cx11, ix12, cx12, ix20, cx20, ix24, cx24, ix60, cx60, ix64, cx64, ix100, cx100, ix101, cx101, ix360, cx360, ix600, cx600, h2, ofNat_nI, q1, k2, es, h, nb1, bI_t]
  · have q1 : nI tx.length ≤ nI k := nI_le (by omega) (by omega)
    simp (decide := true) only [pX10_readEither_0, pX10_readEither_1, pX10_readEither_2, pX10_readEither_5, pX10_readEither_6, pX10_readEither_7, pX10_readEither_8, pX10_readEither_9, pX10_readEither_10, pX10_readEither_13, pX10_readEither_14, pX10_readEither_17, pX10_readEither_18, pX10_readEither_21, pX10_readEither_22, pX10_readEither_25, pX10_readEither_27, pX10_readEither_30, pX10_readEither_31, pX10_readEither_32, pX10_readEither_35, pX10_readEither_36, pX10_readEither_37, pX10_readEither_40, pX10_readEither_41, pX10_readEither_42, pX10_readEither_45, pX10_readEither_46, pX10_readEither_47, pX10_readEither_49, pX10_readEither_51, pX10_readEither_52, pX10_readEither_55, pX10_readEither_58, pX10_readEither_61, pX10_readEither_62, pX10_readEither_62t, pX10_readEither_62f, kd_i0, kd_i1, kd_i2, kd_i3, kd_jA, kd_r5, kd_r6, kd_r7, al_i, al_j, al_r, ai_i, aj_j, aq_r, cls_o, fv_o, sti_i, stj_j, st2_s, st2_n, bnd_some, set1_same, set1_twice, wc_0 hi, wc_1 hi, wc_2 hi, wc_3 hi, wc_4 hi, wc_5 hi, ww_1 hi, ww_2 hi, ww_3 hi, ww_4 hi, ww_5 hi, wow_1 hi, wow_2 hi, wow_3 hi, wow_7 hi, wo_0, wo_1, wo_2, wo_3, wo_4, wo_5, wo_6, wo_7, wo_8, ↓reduceIte, set1_ne, ne_eq, Nat.reduceEqDiff, not_false_eq_true, not_true_eq_false, if_true, if_false, ite_Ei, bI_eq0, pk_us, ix4, cx4, ix5, cx5, ix6, cx6, ix7, cx7, ix8, cx8, ix10, cx10, ix11, cx11, ix12, cx12, ix20, cx20, ix24, cx24, ix60, cx60, ix64, cx64, ix100, cx100, ix101, cx101, ix360, cx360, ix600, cx600, h2, ofNat_nI, q1, nb1, bI_t]
theorem C_either_step {tx : List Int32} {nest p : Nat} {R R2 : PR} (hn : nest ≤ 4) (h : sg tx p = 124) (hR : CB tx nest (p + 1) R) (hR2 : R.1 = true → CEr tx nest R.2.1 R2) : CEr tx nest p (if R.1 = true then (R2.1, R2.2.1, R.2.2 ++ (-124 :: R2.2.2)) else (false, R.2.1, [])) := by
  intro K i X S n z k hk hw
  have hi := hw.1
  have h2 := hw.2.1
  have hl := hw.2.2.1
  have h8 := hw.2.2.2.2.2.2.2
  have es := w_sign (n := n) (z := z) hw
  rw [h] at es
  have hlt := sg_len h (by decide)
  have h5 := hw.2.2.2.2.1
  have h1 := WS_at (q := p + 1) hw (by omega) (by omega)
  obtain ⟨Y, S', e, wY, fY, b1, b2, b3, ok⟩ := hR K i (setAt X i (p + 1)) S n z h1
  have k1 : 7 + 3 * (5 - nest) < 8 + 3 * (5 - nest) := by omega
  have k2 : 1 < 8 + 3 * (5 - nest) := by omega
  have q1 : ¬ nI tx.length ≤ nI k := nI_ge (by omega) (by omega)
  have hS : S' < R.2.1 := by omega
  have ea := w_add (n := n) (z := z) (a := 124) (l := 32) (v := 0) wY hS (by decide) (by decide)
  have c1 : cx (nI nest) = nest := cx_nI (by omega)
  have eA : set1 X (186 + 6 * i) (upd (X (186 + 6 * i)) 1 (nI (p + 1))) = setAt X i (p + 1) := rfl
  have e33 : nI 124 = 124 := rfl
  have e32 : nI 32 = 32 := rfl
  rw [e33, e32] at ea
  have wc := wc_0 (K := K) (X := Y) hi
  have wZ := WS_add (a := 124) (l := 32) (v := 0) wY hS
  have run : E (8 + 3 * (5 - nest)) mX10_readEither 8 [.ref (186 + 6 * i), .int (nI nest), .int 1, .int (nI k)] [] (hp K X, n, z) = E (8 + 3 * (5 - nest)) mX10_readEither 8 [.ref (186 + 6 * i), .int (nI nest), .int (bI R.1), .int (nI (k + 1))] [] (hp K (addX3 Y i S' 124 32 0), n, z) := by
    rw [pX10_readEither_8]
    simp (decide := true) only [pX10_readEither_0, pX10_readEither_1, pX10_readEither_2, pX10_readEither_5, pX10_readEither_6, pX10_readEither_7, pX10_readEither_9, pX10_readEither_10, pX10_readEither_13, pX10_readEither_14, pX10_readEither_17, pX10_readEither_18, pX10_readEither_21, pX10_readEither_22, pX10_readEither_25, pX10_readEither_27, pX10_readEither_30, pX10_readEither_31, pX10_readEither_32, pX10_readEither_35, pX10_readEither_36, pX10_readEither_37, pX10_readEither_40, pX10_readEither_41, pX10_readEither_42, pX10_readEither_45, pX10_readEither_46, pX10_readEither_47, pX10_readEither_49, pX10_readEither_51, pX10_readEither_52, pX10_readEither_55, pX10_readEither_58, pX10_readEither_61, pX10_readEither_62, pX10_readEither_62t, pX10_readEither_62f, kd_i0, kd_i1, kd_i2, kd_i3, kd_jA, kd_r5, kd_r6, kd_r7, al_i, al_j, al_r, ai_i, aj_j, aq_r, cls_o, fv_o, sti_i, stj_j, st2_s, st2_n, bnd_some, set1_same, set1_twice, wc_0 hi, wc_1 hi, wc_2 hi, wc_3 hi, wc_4 hi, wc_5 hi, ww_1 hi, ww_2 hi, ww_3 hi, ww_4 hi, ww_5 hi, wow_1 hi, wow_2 hi, wow_3 hi, wow_7 hi, wo_0, wo_1, wo_2, wo_3, wo_4, wo_5, wo_6, wo_7, wo_8, ↓reduceIte, set1_ne, ne_eq, Nat.reduceEqDiff, not_false_eq_true, not_true_eq_false, if_true, if_false, ite_Ei, bI_eq0, pk_us, ix4, cx4, ix5, cx5, ix6, cx6, ix7, cx7, ix8, cx8, ix10, cx10, ix11, cx11, ix12, cx12, ix20, cx20, ix24, cx24, ix60, cx60, ix64, cx64, ix100, cx100, ix101, cx101, ix360, cx360, ix600, cx600, h2, ofNat_nI, q1, k1, k2, es, h5, nI_1, eA, c1, e, ea]
  have fZ : FW i S X (addX3 Y i S' 124 32 0) := FW_trans FW_at (FW_trans fY FW_add b2) (Nat.le_refl _)
  cases hr : R.1 with
  | false =>
    rw [if_neg (by decide)]
    rw [hr] at run
    refine ⟨addX3 Y i S' 124 32 0, S' + 1, ?_, wZ, fZ, by show S' + 1 + p ≤ S + R.2.1; omega, by omega, by show p ≤ R.2.1; omega, fun q => by cases q⟩
    rw [run, pX10_readEither_8]
    have h2' := h2
    by_cases q : k + 1 < tx.length
    · have q2 : ¬ nI tx.length ≤ nI (k + 1) := nI_ge q (by omega)
      simp (decide := true) only [pX10_readEither_0, pX10_readEither_1, pX10_readEither_2, pX10_readEither_5, pX10_readEither_6, pX10_readEither_7, pX10_readEither_9, pX10_readEither_10, pX10_readEither_13, pX10_readEither_14, pX10_readEither_17, pX10_readEither_18, pX10_readEither_21, pX10_readEither_22, pX10_readEither_25, pX10_readEither_27, pX10_readEither_30, pX10_readEither_31, pX10_readEither_32, pX10_readEither_35, pX10_readEither_36, pX10_readEither_37, pX10_readEither_40, pX10_readEither_41, pX10_readEither_42, pX10_readEither_45, pX10_readEither_46, pX10_readEither_47, pX10_readEither_49, pX10_readEither_51, pX10_readEither_52, pX10_readEither_55, pX10_readEither_58, pX10_readEither_61, pX10_readEither_62, pX10_readEither_62t, pX10_readEither_62f, kd_i0, kd_i1, kd_i2, kd_i3, kd_jA, kd_r5, kd_r6, kd_r7, al_i, al_j, al_r, ai_i, aj_j, aq_r, cls_o, fv_o, sti_i, stj_j, st2_s, st2_n, bnd_some, set1_same, set1_twice, wc_0 hi, wc_1 hi, wc_2 hi, wc_3 hi, wc_4 hi, wc_5 hi, ww_1 hi, ww_2 hi, ww_3 hi, ww_4 hi, ww_5 hi, wow_1 hi, wow_2 hi, wow_3 hi, wow_7 hi, wo_0, wo_1, wo_2, wo_3, wo_4, wo_5, wo_6, wo_7, wo_8, ↓reduceIte, set1_ne, ne_eq, Nat.reduceEqDiff, not_false_eq_true, not_true_eq_false, if_true, if_false, ite_Ei, bI_eq0, pk_us, ix4, cx4, ix5, cx5, ix6, cx6, ix7, cx7, ix8, cx8, ix10, cx10, ix11, cx11, ix12, cx12, ix20, cx20, ix24, cx24, ix60, cx60, ix64, cx64, ix100, cx100, ix101, cx101, ix360, cx360, ix600, cx600, h2, ofNat_nI, q2, bI_f, nb0]
    · have q2 : nI tx.length ≤ nI (k + 1) := nI_le (by omega) (by omega)
      simp (decide := true) only [pX10_readEither_0, pX10_readEither_1, pX10_readEither_2, pX10_readEither_5, pX10_readEither_6, pX10_readEither_7, pX10_readEither_9, pX10_readEither_10, pX10_readEither_13, pX10_readEither_14, pX10_readEither_17, pX10_readEither_18, pX10_readEither_21, pX10_readEither_22, pX10_readEither_25, pX10_readEither_27, pX10_readEither_30, pX10_readEither_31, pX10_readEither_32, pX10_readEither_35, pX10_readEither_36, pX10_readEither_37, pX10_readEither_40, pX10_readEither_41, pX10_readEither_42, pX10_readEither_45, pX10_readEither_46, pX10_readEither_47, pX10_readEither_49, pX10_readEither_51, pX10_readEither_52, pX10_readEither_55, pX10_readEither_58, pX10_readEither_61, pX10_readEither_62, pX10_readEither_62t, pX10_readEither_62f, kd_i0, kd_i1, kd_i2, kd_i3, kd_jA, kd_r5, kd_r6, kd_r7, al_i, al_j, al_r, ai_i, aj_j, aq_r, cls_o, fv_o, sti_i, stj_j, st2_s, st2_n, bnd_some, set1_same, set1_twice, wc_0 hi, wc_1 hi, wc_2 hi, wc_3 hi, wc_4 hi, wc_5 hi, ww_1 hi, ww_2 hi, ww_3 hi, ww_4 hi, ww_5 hi, wow_1 hi, wow_2 hi, wow_3 hi, wow_7 hi, wo_0, wo_1, wo_2, wo_3, wo_4, wo_5, wo_6, wo_7, wo_8, ↓reduceIte, set1_ne, ne_eq, Nat.reduceEqDiff, not_false_eq_true, not_true_eq_false, if_true, if_false, ite_Ei, bI_eq0, pk_us, ix4, cx4, ix5, cx5, ix6, cx6, ix7, cx7, ix8, cx8, ix10, cx10, ix11, cx11, ix12, cx12, ix20, cx20, ix24, cx24, ix60, cx60, ix64, cx64, ix100, cx100, ix101, cx101, ix360, cx360, ix600, cx600, h2, ofNat_nI, q2, bI_f, nb0]
  | true =>
    rw [if_pos rfl]
    rw [hr] at run
    obtain ⟨o1, o2⟩ := ok hr
    obtain ⟨W, S2, e2, wW, fW, d1, d2, d3, ok2⟩ := hR2 hr K i (addX3 Y i S' 124 32 0) (S' + 1) n z (k + 1) (by omega) wZ
    refine ⟨W, S2, run.trans e2, wW, FW_trans fZ fW (by omega), by show S2 + p ≤ S + R2.2.1; omega, by omega, by show p ≤ R2.2.1; omega, fun q => ?_⟩
    obtain ⟨u1, u2⟩ := ok2 q
    have o3 : AtS (addX3 Y i S' 124 32 0) i S (R.2.2.map stp1 ++ [(124, 32, 0)]) := AtS_join (AtS_keep (S := S') FW_add o2 (by rw [List.length_map]; omega)) (by rw [List.length_map, ← o1]; exact At_add)
    have o4 : AtS W i S (R.2.2.map stp1 ++ [(124, 32, 0)]) := AtS_keep fW o3 (by rw [List.length_append, List.length_map]; show S + (R.2.2.length + 1) ≤ S' + 1; omega)
    show S2 = S + (R.2.2 ++ (-124 :: R2.2.2)).length ∧ AtS W i S ((R.2.2 ++ (-124 :: R2.2.2)).map stp1)
    rw [List.length_append, List.length_cons, List.map_append, List.map_cons, stp1_124]
    refine ⟨by omega, ?_⟩
    rw [show R.2.2.map stp1 ++ (124, 32, 0) :: R2.2.2.map stp1 = (R.2.2.map stp1 ++ [(124, 32, 0)]) ++ R2.2.2.map stp1 by simp]
    refine AtS_join o4 ?_
    rw [List.length_append, List.length_map]
    show AtS W i (S + (R.2.2.length + 1)) _
    rw [show S + (R.2.2.length + 1) = S' + 1 by omega]
    exact u2
theorem C_either {tx : List Int32} {nest p : Nat} {R R2 : PR} (hn : nest ≤ 4) (hR : CB tx nest p R) (hR2 : R.1 = true → CEr tx nest R.2.1 R2) : CE tx nest p (if R.1 = true then (R2.1, R2.2.1, R.2.2 ++ R2.2.2) else (false, R.2.1, [])) := by
  intro K i X S n z hw
  have hi := hw.1
  have h2 := hw.2.1
  have hl := hw.2.2.1
  obtain ⟨Y, S', e, wY, fY, b1, b2, b3, ok⟩ := hR K i X S n z hw
  have k1 : 7 + 3 * (5 - nest) < 8 + 3 * (5 - nest) := by omega
  have c1 : cx (nI nest) = nest := cx_nI (by omega)
  have run : E (8 + 3 * (5 - nest)) mX10_readEither 0 [.ref (186 + 6 * i), .int (nI nest), .null, .null] [] (hp K X, n, z) = E (8 + 3 * (5 - nest)) mX10_readEither 8 [.ref (186 + 6 * i), .int (nI nest), .int (bI R.1), .int (nI 0)] [] (hp K Y, n, z) := by
    simp (decide := true) only [pX10_readEither_0, pX10_readEither_1, pX10_readEither_2, pX10_readEither_5, pX10_readEither_6, pX10_readEither_7, pX10_readEither_9, pX10_readEither_10, pX10_readEither_13, pX10_readEither_14, pX10_readEither_17, pX10_readEither_18, pX10_readEither_21, pX10_readEither_22, pX10_readEither_25, pX10_readEither_27, pX10_readEither_30, pX10_readEither_31, pX10_readEither_32, pX10_readEither_35, pX10_readEither_36, pX10_readEither_37, pX10_readEither_40, pX10_readEither_41, pX10_readEither_42, pX10_readEither_45, pX10_readEither_46, pX10_readEither_47, pX10_readEither_49, pX10_readEither_51, pX10_readEither_52, pX10_readEither_55, pX10_readEither_58, pX10_readEither_61, pX10_readEither_62, pX10_readEither_62t, pX10_readEither_62f, kd_i0, kd_i1, kd_i2, kd_i3, kd_jA, kd_r5, kd_r6, kd_r7, al_i, al_j, al_r, ai_i, aj_j, aq_r, cls_o, fv_o, sti_i, stj_j, st2_s, st2_n, bnd_some, set1_same, set1_twice, wc_0 hi, wc_1 hi, wc_2 hi, wc_3 hi, wc_4 hi, wc_5 hi, ww_1 hi, ww_2 hi, ww_3 hi, ww_4 hi, ww_5 hi, wow_1 hi, wow_2 hi, wow_3 hi, wow_7 hi, wo_0, wo_1, wo_2, wo_3, wo_4, wo_5, wo_6, wo_7, wo_8, ↓reduceIte, set1_ne, ne_eq, Nat.reduceEqDiff, not_false_eq_true, not_true_eq_false, if_true, if_false, ite_Ei, bI_eq0, pk_us, ix4, cx4, ix5, cx5, ix6, cx6, ix7, cx7, ix8, cx8, ix10, cx10, ix11, cx11, ix12, cx12, ix20, cx20, ix24, cx24, ix60, cx60, ix64, cx64, ix100, cx100, ix101, cx101, ix360, cx360, ix600, cx600, k1, c1, e]
    rfl
  cases hr : R.1 with
  | false =>
    rw [if_neg (by decide)]
    rw [hr] at run
    refine ⟨Y, S', ?_, wY, fY, b1, b2, b3, fun q => by cases q⟩
    have h2' := wY.2.1
    rw [run, pX10_readEither_8]
    by_cases q : 0 < tx.length
    · have q2 : ¬ nI tx.length ≤ nI 0 := nI_ge q (by omega)
      simp (decide := true) only [pX10_readEither_0, pX10_readEither_1, pX10_readEither_2, pX10_readEither_5, pX10_readEither_6, pX10_readEither_7, pX10_readEither_9, pX10_readEither_10, pX10_readEither_13, pX10_readEither_14, pX10_readEither_17, pX10_readEither_18, pX10_readEither_21, pX10_readEither_22, pX10_readEither_25, pX10_readEither_27, pX10_readEither_30, pX10_readEither_31, pX10_readEither_32, pX10_readEither_35, pX10_readEither_36, pX10_readEither_37, pX10_readEither_40, pX10_readEither_41, pX10_readEither_42, pX10_readEither_45, pX10_readEither_46, pX10_readEither_47, pX10_readEither_49, pX10_readEither_51, pX10_readEither_52, pX10_readEither_55, pX10_readEither_58, pX10_readEither_61, pX10_readEither_62, pX10_readEither_62t, pX10_readEither_62f, kd_i0, kd_i1, kd_i2, kd_i3, kd_jA, kd_r5, kd_r6, kd_r7, al_i, al_j, al_r, ai_i, aj_j, aq_r, cls_o, fv_o, sti_i, stj_j, st2_s, st2_n, bnd_some, set1_same, set1_twice, wc_0 hi, wc_1 hi, wc_2 hi, wc_3 hi, wc_4 hi, wc_5 hi, ww_1 hi, ww_2 hi, ww_3 hi, ww_4 hi, ww_5 hi, wow_1 hi, wow_2 hi, wow_3 hi, wow_7 hi, wo_0, wo_1, wo_2, wo_3, wo_4, wo_5, wo_6, wo_7, wo_8, ↓reduceIte, set1_ne, ne_eq, Nat.reduceEqDiff, not_false_eq_true, not_true_eq_false, if_true, if_false, ite_Ei, bI_eq0, pk_us, ix4, cx4, ix5, cx5, ix6, cx6, ix7, cx7, ix8, cx8, ix10, cx10, ix11, cx11, ix12, cx12, ix20, cx20, ix24, cx24, ix60, cx60, ix64, cx64, ix100, cx100, ix101, cx101, ix360, cx360, ix600, cx600, h2, ofNat_nI, q2, bI_f, nb0]
    · have q2 : nI tx.length ≤ nI 0 := nI_le (by omega) (by omega)
      simp (decide := true) only [pX10_readEither_0, pX10_readEither_1, pX10_readEither_2, pX10_readEither_5, pX10_readEither_6, pX10_readEither_7, pX10_readEither_9, pX10_readEither_10, pX10_readEither_13, pX10_readEither_14, pX10_readEither_17, pX10_readEither_18, pX10_readEither_21, pX10_readEither_22, pX10_readEither_25, pX10_readEither_27, pX10_readEither_30, pX10_readEither_31, pX10_readEither_32, pX10_readEither_35, pX10_readEither_36, pX10_readEither_37, pX10_readEither_40, pX10_readEither_41, pX10_readEither_42, pX10_readEither_45, pX10_readEither_46, pX10_readEither_47, pX10_readEither_49, pX10_readEither_51, pX10_readEither_52, pX10_readEither_55, pX10_readEither_58, pX10_readEither_61, pX10_readEither_62, pX10_readEither_62t, pX10_readEither_62f, kd_i0, kd_i1, kd_i2, kd_i3, kd_jA, kd_r5, kd_r6, kd_r7, al_i, al_j, al_r, ai_i, aj_j, aq_r, cls_o, fv_o, sti_i, stj_j, st2_s, st2_n, bnd_some, set1_same, set1_twice, wc_0 hi, wc_1 hi, wc_2 hi, wc_3 hi, wc_4 hi, wc_5 hi, ww_1 hi, ww_2 hi, ww_3 hi, ww_4 hi, ww_5 hi, wow_1 hi, wow_2 hi, wow_3 hi, wow_7 hi, wo_0, wo_1, wo_2, wo_3, wo_4, wo_5, wo_6, wo_7, wo_8, ↓reduceIte, set1_ne, ne_eq, Nat.reduceEqDiff, not_false_eq_true, not_true_eq_false, if_true, if_false, ite_Ei, bI_eq0, pk_us, ix4, cx4, ix5, cx5, ix6, cx6, ix7, cx7, ix8, cx8, ix10, cx10, ix11, cx11, ix12, cx12, ix20, cx20, ix24, cx24, ix60, cx60, ix64, cx64, ix100, cx100, ix101, cx101, ix360, cx360, ix600, cx600, h2, ofNat_nI, q2, bI_f, nb0]
  | true =>
    rw [if_pos rfl]
    rw [hr] at run
    obtain ⟨o1, o2⟩ := ok hr
    obtain ⟨W, S2, e2, wW, fW, d1, d2, d3, ok2⟩ := hR2 hr K i Y S' n z 0 (Nat.zero_le _) wY
    refine ⟨W, S2, run.trans e2, wW, FW_trans fY fW b2, by show S2 + p ≤ S + R2.2.1; omega, by omega, by show p ≤ R2.2.1; omega, fun q => ?_⟩
    obtain ⟨u1, u2⟩ := ok2 q
    show S2 = S + (R.2.2 ++ R2.2.2).length ∧ AtS W i S ((R.2.2 ++ R2.2.2).map stp1)
    rw [List.length_append, List.map_append]
    refine ⟨by omega, AtS_join (AtS_keep fW o2 (by rw [List.length_map]; omega)) ?_⟩
    rw [List.length_map, ← o1]
    exact u2
