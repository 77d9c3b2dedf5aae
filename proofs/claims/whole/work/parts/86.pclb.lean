/-! Class and reference read a clause alike: the clause. -/
theorem WS_en {K : KT} {tx : List Int32} {i p S : Nat} {v : Int32} {X : Nat → Nat → Int32} (h : WS K tx i X p S) : WS K tx i (set1 X (186 + 6 * i) (upd (X (186 + 6 * i)) 3 v)) p S := by
  obtain ⟨h1, h2, h3, h4, h5, h6, h7, h8⟩ := h
  refine ⟨h1, h2, h3, ?_, ?_, ?_, h7, h8⟩
  · intro j hj
    rw [set1_ne _ _ (by omega)]; exact h4 j hj
  · rw [set1_same, pk_un (by decide)]; exact h5
  · rw [set1_same, pk_un (by decide)]; exact h6
theorem FWc_en {i S : Nat} {v : Int32} {X : Nat → Nat → Int32} : FWc i S X (set1 X (186 + 6 * i) (upd (X (186 + 6 * i)) 3 v)) := by
  refine ⟨fun q a _ _ _ => set1_ne _ _ a, fun j _ => ?_⟩
  rw [set1_ne _ _ (by omega), set1_ne _ _ (by omega), set1_ne _ _ (by omega)]
  exact ⟨rfl, rfl, rfl⟩
def d0 : Cla := (0, 0, [])
/-- behind the head: what the clause is -/
def pCl (tx : List Int32) (t : Nat) (w : List Int32) (p : Nat) (R : PR) : PC :=
  if (pW (sg tx) w p).1 = false then (false, (pW (sg tx) w p).2, d0)
  else if (pN (sg tx) (pW (sg tx) w p).2).1 = false then (false, (pN (sg tx) (pW (sg tx) w p).2).2.1, d0)
  else if t = 2 then (true, (pN (sg tx) (pW (sg tx) w p).2).2.1, (2, nI (pN (sg tx) (pW (sg tx) w p).2).2.2, []))
  else if ¬ sg tx (pN (sg tx) (pW (sg tx) w p).2).2.1 = 32 then (false, (pN (sg tx) (pW (sg tx) w p).2).2.1, d0)
  else if R.1 = false then (false, R.2.1, d0)
  else (true, R.2.1, (nI t, nI (pN (sg tx) (pW (sg tx) w p).2).2.2, R.2.2))
section CLA
variable {tx w : List Int32} {p t : Nat} {R : PR}
theorem R_cl (hw : t = 2 ∧ sg tx p = 114 ∧ w = wdR ∨ t = 1 ∧ ¬ sg tx p = 114 ∧ sg tx (p + 1) = 104 ∧ w = wdS ∨ t = 0 ∧ ¬ sg tx p = 114 ∧ ¬ sg tx (p + 1) = 104 ∧ w = wdU) (hp0 : p ≤ tx.length) (hwn : ∀ c, c ∈ w → c ≠ -1)
    (hR : t ≠ 2 → (pN (sg tx) (pW (sg tx) w p).2).1 = true → sg tx (pN (sg tx) (pW (sg tx) w p).2).2.1 = 32 → REi tx 0 ((pN (sg tx) (pW (sg tx) w p).2).2.1 + 1) R ∧ Wf 11 R ∧ (R.1 = true → R.2.1 ≤ tx.length ∧ ¬ sg tx R.2.1 = 38 ∧ ¬ sg tx R.2.1 = 124)) : RC tx p (pCl tx t w p R) := by
  intro K X c B s n z h hc
  obtain ⟨w', t', hw', eh⟩ := r_head (K := K) (n := n) (z := z) h hc
  have ewt : w' = w ∧ t' = t := by
    rcases hw with ⟨a1, a2, a3⟩ | ⟨a1, a2, a3, a4⟩ | ⟨a1, a2, a3, a4⟩ <;> rcases hw' with ⟨b1, b2, b3⟩ | ⟨b1, b2, b3, b4⟩ | ⟨b1, b2, b3, b4⟩
    · exact ⟨b3.trans a3.symm, b1.trans a1.symm⟩
    · exact absurd a2 b2
    · exact absurd a2 b2
    · exact absurd b2 a2
    · exact ⟨b4.trans a4.symm, b1.trans a1.symm⟩
    · exact absurd a3 b3
    · exact absurd b2 a2
    · exact absurd b3 a3
    · exact ⟨b4.trans a4.symm, b1.trans a1.symm⟩
  obtain ⟨rfl, rfl⟩ := ewt
  have ht3 : t' < 3 := by rcases hw with ⟨a, _⟩ | ⟨a, _⟩ | ⟨a, _⟩ <;> omega
  have wl := pW_len (tx := tx) w' p hwn hp0
  have wle := (pW_le (sg tx) w' p).1
  have h1 := RSc_set (c := c) (x := nI t') (Or.inl rfl) h
  have h2 := RSc_at h1 wl wle
  have f2 : FC c s X (sA (set1 X 149 (upd (X 149) c (nI t'))) (pW (sg tx) w' p).2) := FC_trans (FC_set (Or.inl rfl)) (FC_FE FE_at) (Nat.le_refl _)
  unfold pCl
  cases hb1 : (pW (sg tx) w' p).1 with
  | false =>
    rw [if_pos rfl]
    rw [hb1] at eh
    refine ⟨_, ?_, ?_, f2, fun q => by cases q⟩
    · simp (decide := true) only [pX12_takesClause_0, pX12_takesClause_1, pX12_takesClause_2, pX12_takesClause_5, pX12_takesClause_8, pX12_takesClause_9, pX12_takesClause_12, pX12_takesClause_15, pX12_takesClause_16, pX12_takesClause_16t, pX12_takesClause_16f, pX12_takesClause_17, pX12_takesClause_18, pX12_takesClause_21, pX12_takesClause_22, pX12_takesClause_23, pX12_takesClause_26, pX12_takesClause_27, pX12_takesClause_28, pX12_takesClause_31, pX12_takesClause_32, pX12_takesClause_33, pX12_takesClause_34, pX12_takesClause_37, pX12_takesClause_38, pX12_takesClause_40, pX12_takesClause_43, pX12_takesClause_46, pX12_takesClause_47, pX12_takesClause_48, pX12_takesClause_51, pX12_takesClause_54, pX12_takesClause_55, pX12_takesClause_58, pX12_takesClause_59, pX12_takesClause_59t, pX12_takesClause_59f, kd_i0, kd_i1, kd_i2, kd_i3, kd_jA, kd_r5, kd_r6, kd_r7, al_i, al_j, al_r, ai_i, aj_j, aq_r, cls_o, fv_o, sti_i, stj_j, st2_s, st2_n, bnd_some, set1_same, set1_twice, hc_141, of_141_0, ow_141_0, of_141_1, ow_141_1, of_141_2, ow_141_2, of_141_3, of_141_4, of_141_5, of_141_6, of_141_7, of_141_8, ow_141_8, of_141_9, ow_141_9, of_141_10, ow_141_10, of_141_11, ow_141_11, of_141_12, ow_141_12, of_141_13, of_141_14, of_141_15, of_141_16, of_141_17, of_141_18, of_141_19, of_141_20, of_141_21, ow_141_21, of_141_22, ow_141_22, of_141_23, ow_141_23, of_141_24, of_141_25, of_141_26, of_141_27, ow_141_27, of_141_28, ow_141_28, of_141_29, ow_141_29, of_141_30, of_141_31, of_141_32, ow_141_32, of_141_33, of_141_34, of_141_35, of_141_36, ow_141_36, of_141_37, of_141_38, of_141_39, ow_141_39, of_141_40, ow_141_40, of_141_41, of_141_42, of_141_43, of_141_44, of_141_45, ow_141_45, of_141_46, ow_141_46, of_141_47, ow_141_47, of_141_48, ow_141_48, of_141_49, ow_141_49, of_141_50, ow_141_50, of_141_51, ow_141_51, of_141_52, ow_141_52, of_141_53, ow_141_53, of_141_54, of_141_55, of_141_56, of_141_57, of_141_58, of_141_59, of_141_60, of_141_61, of_141_62, of_141_63, of_141_64, of_141_65, of_141_66, ow_141_66, of_141_67, of_141_68, of_141_69, of_141_70, of_141_71, hc_142, hw_142, hc_143, hw_143, hc_144, hw_144, hc_145, hw_145, hc_146, hw_146, hc_147, hw_147, hc_148, hw_148, hc_149, hw_149, hc_150, hw_150, hc_151, hw_151, hc_152, hw_152, hc_153, hw_153, hc_154, hw_154, hc_155, hw_155, hc_156, hw_156, hc_157, hw_157, hc_158, hw_158, hc_159, hw_159, hc_160, hw_160, hc_161, hw_161, hc_162, hw_162, hc_163, hw_163, hc_164, hw_164, hc_165, hw_165, hc_166, hw_166, hc_167, hw_167, hc_168, hw_168, hc_169, hw_169, hc_170, hw_170, hc_171, hw_171, hc_172, hw_172, hc_173, hw_173, hc_174, hw_174, hc_175, hw_175, hc_176, hw_176, hc_177, hw_177, hc_178, hw_178, hc_179, hw_179, hc_180, hw_180, hc_181, hw_181, hc_182, hw_182, hc_183, hw_183, hc_184, hw_184, hc_185, hw_185, ↓reduceIte, set1_ne, ne_eq, Nat.reduceEqDiff, not_false_eq_true, not_true_eq_false, if_true, if_false, ite_Ei, bI_eq0, pk_us, ix4, cx4, ix5, cx5, ix6, cx6, ix7, cx7, ix8, cx8, ix10, cx10, ix11, cx11, ix12, cx12, ix20, cx20, ix24, cx24, ix60, cx60, ix64, cx64, ix100, cx100, ix101, cx101, ix360, cx360, ix600, cx600, eh, bI_f, nb0]
    · exact h2.1.2.1
  | true =>
    rw [if_neg (by decide)]
    rw [hb1] at eh
    have en := r_num (K := K) (n := n) (z := z) h2.1
    have nle := pN_le (g := sg tx) (p := (pW (sg tx) w' p).2)
    have nlen := pN_len (tx := tx) (p := (pW (sg tx) w' p).2) wl
    cases hb2 : (pN (sg tx) (pW (sg tx) w' p).2).1 with
    | false =>
      rw [if_pos rfl]
      rw [hb2, if_neg (by decide)] at en
      refine ⟨_, ?_, ?_, f2, fun q => by cases q⟩
      · simp (decide := true) only [pX12_takesClause_0, pX12_takesClause_1, pX12_takesClause_2, pX12_takesClause_5, pX12_takesClause_8, pX12_takesClause_9, pX12_takesClause_12, pX12_takesClause_15, pX12_takesClause_16, pX12_takesClause_16t, pX12_takesClause_16f, pX12_takesClause_17, pX12_takesClause_18, pX12_takesClause_21, pX12_takesClause_22, pX12_takesClause_23, pX12_takesClause_26, pX12_takesClause_27, pX12_takesClause_28, pX12_takesClause_31, pX12_takesClause_32, pX12_takesClause_33, pX12_takesClause_34, pX12_takesClause_37, pX12_takesClause_38, pX12_takesClause_40, pX12_takesClause_43, pX12_takesClause_46, pX12_takesClause_47, pX12_takesClause_48, pX12_takesClause_51, pX12_takesClause_54, pX12_takesClause_55, pX12_takesClause_58, pX12_takesClause_59, pX12_takesClause_59t, pX12_takesClause_59f, kd_i0, kd_i1, kd_i2, kd_i3, kd_jA, kd_r5, kd_r6, kd_r7, al_i, al_j, al_r, ai_i, aj_j, aq_r, cls_o, fv_o, sti_i, stj_j, st2_s, st2_n, bnd_some, set1_same, set1_twice, hc_141, of_141_0, ow_141_0, of_141_1, ow_141_1, of_141_2, ow_141_2, of_141_3, of_141_4, of_141_5, of_141_6, of_141_7, of_141_8, ow_141_8, of_141_9, ow_141_9, of_141_10, ow_141_10, of_141_11, ow_141_11, of_141_12, ow_141_12, of_141_13, of_141_14, of_141_15, of_141_16, of_141_17, of_141_18, of_141_19, of_141_20, of_141_21, ow_141_21, of_141_22, ow_141_22, of_141_23, ow_141_23, of_141_24, of_141_25, of_141_26, of_141_27, ow_141_27, of_141_28, ow_141_28, of_141_29, ow_141_29, of_141_30, of_141_31, of_141_32, ow_141_32, of_141_33, of_141_34, of_141_35, of_141_36, ow_141_36, of_141_37, of_141_38, of_141_39, ow_141_39, of_141_40, ow_141_40, of_141_41, of_141_42, of_141_43, of_141_44, of_141_45, ow_141_45, of_141_46, ow_141_46, of_141_47, ow_141_47, of_141_48, ow_141_48, of_141_49, ow_141_49, of_141_50, ow_141_50, of_141_51, ow_141_51, of_141_52, ow_141_52, of_141_53, ow_141_53, of_141_54, of_141_55, of_141_56, of_141_57, of_141_58, of_141_59, of_141_60, of_141_61, of_141_62, of_141_63, of_141_64, of_141_65, of_141_66, ow_141_66, of_141_67, of_141_68, of_141_69, of_141_70, of_141_71, hc_142, hw_142, hc_143, hw_143, hc_144, hw_144, hc_145, hw_145, hc_146, hw_146, hc_147, hw_147, hc_148, hw_148, hc_149, hw_149, hc_150, hw_150, hc_151, hw_151, hc_152, hw_152, hc_153, hw_153, hc_154, hw_154, hc_155, hw_155, hc_156, hw_156, hc_157, hw_157, hc_158, hw_158, hc_159, hw_159, hc_160, hw_160, hc_161, hw_161, hc_162, hw_162, hc_163, hw_163, hc_164, hw_164, hc_165, hw_165, hc_166, hw_166, hc_167, hw_167, hc_168, hw_168, hc_169, hw_169, hc_170, hw_170, hc_171, hw_171, hc_172, hw_172, hc_173, hw_173, hc_174, hw_174, hc_175, hw_175, hc_176, hw_176, hc_177, hw_177, hc_178, hw_178, hc_179, hw_179, hc_180, hw_180, hc_181, hw_181, hc_182, hw_182, hc_183, hw_183, hc_184, hw_184, hc_185, hw_185, ↓reduceIte, set1_ne, ne_eq, Nat.reduceEqDiff, not_false_eq_true, not_true_eq_false, if_true, if_false, ite_Ei, bI_eq0, pk_us, ix4, cx4, ix5, cx5, ix6, cx6, ix7, cx7, ix8, cx8, ix10, cx10, ix11, cx11, ix12, cx12, ix20, cx20, ix24, cx24, ix60, cx60, ix64, cx64, ix100, cx100, ix101, cx101, ix360, cx360, ix600, cx600, eh, en, bI_t, bI_f, nb0]
      · show _ = nI (pN (sg tx) (pW (sg tx) w' p).2).2.1
        rw [nle.2.2.2.2 hb2]
        exact h2.1.2.1
    | true =>
      rw [if_neg (by decide)]
      rw [hb2, if_pos rfl] at en
      have h3 := RSc_an (q := (pN (sg tx) (pW (sg tx) w' p).2).2.1) (v := nI (pN (sg tx) (pW (sg tx) w' p).2).2.2) h2 nlen nle.1
      have f3 : FC c s X (sAN (sA (set1 X 149 (upd (X 149) c (nI t'))) (pW (sg tx) w' p).2) (pN (sg tx) (pW (sg tx) w' p).2).2.1 (nI (pN (sg tx) (pW (sg tx) w' p).2).2.2)) := FC_trans f2 (FC_FE FE_an) (Nat.le_refl _)
      have e12 : sAN (sA (set1 X 149 (upd (X 149) c (nI t'))) (pW (sg tx) w' p).2) (pN (sg tx) (pW (sg tx) w' p).2).2.1 (nI (pN (sg tx) (pW (sg tx) w' p).2).2.2) 141 12 = nI (pN (sg tx) (pW (sg tx) w' p).2).2.2 := by
        unfold sAN
        rw [set1_same, pk_un (by decide), pk_us]
      have e149 : sAN (sA (set1 X 149 (upd (X 149) c (nI t'))) (pW (sg tx) w' p).2) (pN (sg tx) (pW (sg tx) w' p).2).2.1 (nI (pN (sg tx) (pW (sg tx) w' p).2).2.2) 149 c = nI t' := by
        unfold sAN
        rw [set1_ne _ _ (by decide), sA_n (by decide), set1_same, pk_us]
      generalize sAN (sA (set1 X 149 (upd (X 149) c (nI t'))) (pW (sg tx) w' p).2) (pN (sg tx) (pW (sg tx) w' p).2).2.1 (nI (pN (sg tx) (pW (sg tx) w' p).2).2.2) = Z at en h3 f3 e12 e149
      have h4 := RSc_set (c := c) (x := nI (pN (sg tx) (pW (sg tx) w' p).2).2.2) (Or.inr (Or.inl rfl)) h3
      have f4 : FC c s X (set1 Z 150 (upd (Z 150) c (nI (pN (sg tx) (pW (sg tx) w' p).2).2.2))) := FC_trans f3 (FC_set (Or.inr (Or.inl rfl))) (Nat.le_refl _)
      have g149 : (set1 Z 150 (upd (Z 150) c (nI (pN (sg tx) (pW (sg tx) w' p).2).2.2))) 149 c = nI t' := by rw [set1_ne _ _ (by decide)]; exact e149
      have g150 : (set1 Z 150 (upd (Z 150) c (nI (pN (sg tx) (pW (sg tx) w' p).2).2.2))) 150 c = nI (pN (sg tx) (pW (sg tx) w' p).2).2.2 := by rw [set1_same, pk_us]
      have run : E 6 mX12_takesClause 0 [.ref 141, .int (nI c)] [] (hp K X, n, z) = E 6 mX12_takesClause 27 [.ref 141, .int (nI c)] [] (hp K (set1 Z 150 (upd (Z 150) c (nI (pN (sg tx) (pW (sg tx) w' p).2).2.2))), n, z) := by
        simp (decide := true) only [pX12_takesClause_0, pX12_takesClause_1, pX12_takesClause_2, pX12_takesClause_5, pX12_takesClause_8, pX12_takesClause_9, pX12_takesClause_12, pX12_takesClause_15, pX12_takesClause_16, pX12_takesClause_16t, pX12_takesClause_16f, pX12_takesClause_17, pX12_takesClause_18, pX12_takesClause_21, pX12_takesClause_22, pX12_takesClause_23, pX12_takesClause_26, pX12_takesClause_28, pX12_takesClause_31, pX12_takesClause_32, pX12_takesClause_33, pX12_takesClause_34, pX12_takesClause_37, pX12_takesClause_38, pX12_takesClause_40, pX12_takesClause_43, pX12_takesClause_46, pX12_takesClause_47, pX12_takesClause_48, pX12_takesClause_51, pX12_takesClause_54, pX12_takesClause_55, pX12_takesClause_58, pX12_takesClause_59, pX12_takesClause_59t, pX12_takesClause_59f, kd_i0, kd_i1, kd_i2, kd_i3, kd_jA, kd_r5, kd_r6, kd_r7, al_i, al_j, al_r, ai_i, aj_j, aq_r, cls_o, fv_o, sti_i, stj_j, st2_s, st2_n, bnd_some, set1_same, set1_twice, hc_141, of_141_0, ow_141_0, of_141_1, ow_141_1, of_141_2, ow_141_2, of_141_3, of_141_4, of_141_5, of_141_6, of_141_7, of_141_8, ow_141_8, of_141_9, ow_141_9, of_141_10, ow_141_10, of_141_11, ow_141_11, of_141_12, ow_141_12, of_141_13, of_141_14, of_141_15, of_141_16, of_141_17, of_141_18, of_141_19, of_141_20, of_141_21, ow_141_21, of_141_22, ow_141_22, of_141_23, ow_141_23, of_141_24, of_141_25, of_141_26, of_141_27, ow_141_27, of_141_28, ow_141_28, of_141_29, ow_141_29, of_141_30, of_141_31, of_141_32, ow_141_32, of_141_33, of_141_34, of_141_35, of_141_36, ow_141_36, of_141_37, of_141_38, of_141_39, ow_141_39, of_141_40, ow_141_40, of_141_41, of_141_42, of_141_43, of_141_44, of_141_45, ow_141_45, of_141_46, ow_141_46, of_141_47, ow_141_47, of_141_48, ow_141_48, of_141_49, ow_141_49, of_141_50, ow_141_50, of_141_51, ow_141_51, of_141_52, ow_141_52, of_141_53, ow_141_53, of_141_54, of_141_55, of_141_56, of_141_57, of_141_58, of_141_59, of_141_60, of_141_61, of_141_62, of_141_63, of_141_64, of_141_65, of_141_66, ow_141_66, of_141_67, of_141_68, of_141_69, of_141_70, of_141_71, hc_142, hw_142, hc_143, hw_143, hc_144, hw_144, hc_145, hw_145, hc_146, hw_146, hc_147, hw_147, hc_148, hw_148, hc_149, hw_149, hc_150, hw_150, hc_151, hw_151, hc_152, hw_152, hc_153, hw_153, hc_154, hw_154, hc_155, hw_155, hc_156, hw_156, hc_157, hw_157, hc_158, hw_158, hc_159, hw_159, hc_160, hw_160, hc_161, hw_161, hc_162, hw_162, hc_163, hw_163, hc_164, hw_164, hc_165, hw_165, hc_166, hw_166, hc_167, hw_167, hc_168, hw_168, hc_169, hw_169, hc_170, hw_170, hc_171, hw_171, hc_172, hw_172, hc_173, hw_173, hc_174, hw_174, hc_175, hw_175, hc_176, hw_176, hc_177, hw_177, hc_178, hw_178, hc_179, hw_179, hc_180, hw_180, hc_181, hw_181, hc_182, hw_182, hc_183, hw_183, hc_184, hw_184, hc_185, hw_185, ↓reduceIte, set1_ne, ne_eq, Nat.reduceEqDiff, not_false_eq_true, not_true_eq_false, if_true, if_false, ite_Ei, bI_eq0, pk_us, ix4, cx4, ix5, cx5, ix6, cx6, ix7, cx7, ix8, cx8, ix10, cx10, ix11, cx11, ix12, cx12, ix20, cx20, ix24, cx24, ix60, cx60, ix64, cx64, ix100, cx100, ix101, cx101, ix360, cx360, ix600, cx600, eh, en, bI_t, e12, hc]
      generalize set1 Z 150 (upd (Z 150) c (nI (pN (sg tx) (pW (sg tx) w' p).2).2.2)) = V at h4 f4 g149 g150 run
      rw [run]
      by_cases t2 : t' = 2
      · rw [if_pos t2]
        subst t2
        have e2 : V 149 c = 2 := g149
        refine ⟨V, ?_, h4.1.2.1, f4, fun _ => ⟨⟨g149, g150, Or.inl rfl⟩, s, Nat.le_refl _, h4⟩⟩
        simp (decide := true) only [pX12_takesClause_0, pX12_takesClause_1, pX12_takesClause_2, pX12_takesClause_5, pX12_takesClause_8, pX12_takesClause_9, pX12_takesClause_12, pX12_takesClause_15, pX12_takesClause_16, pX12_takesClause_16t, pX12_takesClause_16f, pX12_takesClause_17, pX12_takesClause_18, pX12_takesClause_21, pX12_takesClause_22, pX12_takesClause_23, pX12_takesClause_26, pX12_takesClause_27, pX12_takesClause_28, pX12_takesClause_31, pX12_takesClause_32, pX12_takesClause_33, pX12_takesClause_34, pX12_takesClause_37, pX12_takesClause_38, pX12_takesClause_40, pX12_takesClause_43, pX12_takesClause_46, pX12_takesClause_47, pX12_takesClause_48, pX12_takesClause_51, pX12_takesClause_54, pX12_takesClause_55, pX12_takesClause_58, pX12_takesClause_59, pX12_takesClause_59t, pX12_takesClause_59f, kd_i0, kd_i1, kd_i2, kd_i3, kd_jA, kd_r5, kd_r6, kd_r7, al_i, al_j, al_r, ai_i, aj_j, aq_r, cls_o, fv_o, sti_i, stj_j, st2_s, st2_n, bnd_some, set1_same, set1_twice, hc_141, of_141_0, ow_141_0, of_141_1, ow_141_1, of_141_2, ow_141_2, of_141_3, of_141_4, of_141_5, of_141_6, of_141_7, of_141_8, ow_141_8, of_141_9, ow_141_9, of_141_10, ow_141_10, of_141_11, ow_141_11, of_141_12, ow_141_12, of_141_13, of_141_14, of_141_15, of_141_16, of_141_17, of_141_18, of_141_19, of_141_20, of_141_21, ow_141_21, of_141_22, ow_141_22, of_141_23, ow_141_23, of_141_24, of_141_25, of_141_26, of_141_27, ow_141_27, of_141_28, ow_141_28, of_141_29, ow_141_29, of_141_30, of_141_31, of_141_32, ow_141_32, of_141_33, of_141_34, of_141_35, of_141_36, ow_141_36, of_141_37, of_141_38, of_141_39, ow_141_39, of_141_40, ow_141_40, of_141_41, of_141_42, of_141_43, of_141_44, of_141_45, ow_141_45, of_141_46, ow_141_46, of_141_47, ow_141_47, of_141_48, ow_141_48, of_141_49, ow_141_49, of_141_50, ow_141_50, of_141_51, ow_141_51, of_141_52, ow_141_52, of_141_53, ow_141_53, of_141_54, of_141_55, of_141_56, of_141_57, of_141_58, of_141_59, of_141_60, of_141_61, of_141_62, of_141_63, of_141_64, of_141_65, of_141_66, ow_141_66, of_141_67, of_141_68, of_141_69, of_141_70, of_141_71, hc_142, hw_142, hc_143, hw_143, hc_144, hw_144, hc_145, hw_145, hc_146, hw_146, hc_147, hw_147, hc_148, hw_148, hc_149, hw_149, hc_150, hw_150, hc_151, hw_151, hc_152, hw_152, hc_153, hw_153, hc_154, hw_154, hc_155, hw_155, hc_156, hw_156, hc_157, hw_157, hc_158, hw_158, hc_159, hw_159, hc_160, hw_160, hc_161, hw_161, hc_162, hw_162, hc_163, hw_163, hc_164, hw_164, hc_165, hw_165, hc_166, hw_166, hc_167, hw_167, hc_168, hw_168, hc_169, hw_169, hc_170, hw_170, hc_171, hw_171, hc_172, hw_172, hc_173, hw_173, hc_174, hw_174, hc_175, hw_175, hc_176, hw_176, hc_177, hw_177, hc_178, hw_178, hc_179, hw_179, hc_180, hw_180, hc_181, hw_181, hc_182, hw_182, hc_183, hw_183, hc_184, hw_184, hc_185, hw_185, ↓reduceIte, set1_ne, ne_eq, Nat.reduceEqDiff, not_false_eq_true, not_true_eq_false, if_true, if_false, ite_Ei, bI_eq0, pk_us, ix4, cx4, ix5, cx5, ix6, cx6, ix7, cx7, ix8, cx8, ix10, cx10, ix11, cx11, ix12, cx12, ix20, cx20, ix24, cx24, ix60, cx60, ix64, cx64, ix100, cx100, ix101, cx101, ix360, cx360, ix600, cx600, hc, e2, bI_t, nb1]
      · rw [if_neg t2]
        have n2 : ¬ nI t' = 2 := fun q => t2 ((nI_eq (b := 2) (by omega) (by decide)).mp q)
        have er := r_takes (K := K) (n := n) (z := z) (c := 32) h4.1
        by_cases g32 : sg tx (pN (sg tx) (pW (sg tx) w' p).2).2.1 = 32
        · have gn : ¬ ¬ sg tx (pN (sg tx) (pW (sg tx) w' p).2).2.1 = 32 := fun q => q g32
          rw [if_neg gn]
          rw [decide_eq_true g32, if_pos g32] at er
          have hlt := sg_len g32 (by decide)
          obtain ⟨hRE, hWf, hRs⟩ := hR t2 hb2 g32
          have h5 := RSc_at (q := (pN (sg tx) (pW (sg tx) w' p).2).2.1 + 1) h4 (by omega) (by omega)
          obtain ⟨Y, eY, y11, fY, oY⟩ := r_takesE (K := K) (n := n) (z := z) h5 hc hRE (fun q => (hRs q).2)
          have fXY : FC c s X Y := FC_trans (FC_trans f4 (FC_FE FE_at) (Nat.le_refl _)) fY (Nat.le_refl _)
          cases hb3 : R.1 with
          | false =>
            rw [if_pos rfl]
            rw [hb3] at eY
            refine ⟨Y, ?_, y11, fXY, fun q => by cases q⟩
            simp (decide := true) only [pX12_takesClause_0, pX12_takesClause_1, pX12_takesClause_2, pX12_takesClause_5, pX12_takesClause_8, pX12_takesClause_9, pX12_takesClause_12, pX12_takesClause_15, pX12_takesClause_16, pX12_takesClause_16t, pX12_takesClause_16f, pX12_takesClause_17, pX12_takesClause_18, pX12_takesClause_21, pX12_takesClause_22, pX12_takesClause_23, pX12_takesClause_26, pX12_takesClause_27, pX12_takesClause_28, pX12_takesClause_31, pX12_takesClause_32, pX12_takesClause_33, pX12_takesClause_34, pX12_takesClause_37, pX12_takesClause_38, pX12_takesClause_40, pX12_takesClause_43, pX12_takesClause_46, pX12_takesClause_47, pX12_takesClause_48, pX12_takesClause_51, pX12_takesClause_54, pX12_takesClause_55, pX12_takesClause_58, pX12_takesClause_59, pX12_takesClause_59t, pX12_takesClause_59f, kd_i0, kd_i1, kd_i2, kd_i3, kd_jA, kd_r5, kd_r6, kd_r7, al_i, al_j, al_r, ai_i, aj_j, aq_r, cls_o, fv_o, sti_i, stj_j, st2_s, st2_n, bnd_some, set1_same, set1_twice, hc_141, of_141_0, ow_141_0, of_141_1, ow_141_1, of_141_2, ow_141_2, of_141_3, of_141_4, of_141_5, of_141_6, of_141_7, of_141_8, ow_141_8, of_141_9, ow_141_9, of_141_10, ow_141_10, of_141_11, ow_141_11, of_141_12, ow_141_12, of_141_13, of_141_14, of_141_15, of_141_16, of_141_17, of_141_18, of_141_19, of_141_20, of_141_21, ow_141_21, of_141_22, ow_141_22, of_141_23, ow_141_23, of_141_24, of_141_25, of_141_26, of_141_27, ow_141_27, of_141_28, ow_141_28, of_141_29, ow_141_29, of_141_30, of_141_31, of_141_32, ow_141_32, of_141_33, of_141_34, of_141_35, of_141_36, ow_141_36, of_141_37, of_141_38, of_141_39, ow_141_39, of_141_40, ow_141_40, of_141_41, of_141_42, of_141_43, of_141_44, of_141_45, ow_141_45, of_141_46, ow_141_46, of_141_47, ow_141_47, of_141_48, ow_141_48, of_141_49, ow_141_49, of_141_50, ow_141_50, of_141_51, ow_141_51, of_141_52, ow_141_52, of_141_53, ow_141_53, of_141_54, of_141_55, of_141_56, of_141_57, of_141_58, of_141_59, of_141_60, of_141_61, of_141_62, of_141_63, of_141_64, of_141_65, of_141_66, ow_141_66, of_141_67, of_141_68, of_141_69, of_141_70, of_141_71, hc_142, hw_142, hc_143, hw_143, hc_144, hw_144, hc_145, hw_145, hc_146, hw_146, hc_147, hw_147, hc_148, hw_148, hc_149, hw_149, hc_150, hw_150, hc_151, hw_151, hc_152, hw_152, hc_153, hw_153, hc_154, hw_154, hc_155, hw_155, hc_156, hw_156, hc_157, hw_157, hc_158, hw_158, hc_159, hw_159, hc_160, hw_160, hc_161, hw_161, hc_162, hw_162, hc_163, hw_163, hc_164, hw_164, hc_165, hw_165, hc_166, hw_166, hc_167, hw_167, hc_168, hw_168, hc_169, hw_169, hc_170, hw_170, hc_171, hw_171, hc_172, hw_172, hc_173, hw_173, hc_174, hw_174, hc_175, hw_175, hc_176, hw_176, hc_177, hw_177, hc_178, hw_178, hc_179, hw_179, hc_180, hw_180, hc_181, hw_181, hc_182, hw_182, hc_183, hw_183, hc_184, hw_184, hc_185, hw_185, ↓reduceIte, set1_ne, ne_eq, Nat.reduceEqDiff, not_false_eq_true, not_true_eq_false, if_true, if_false, ite_Ei, bI_eq0, pk_us, ix4, cx4, ix5, cx5, ix6, cx6, ix7, cx7, ix8, cx8, ix10, cx10, ix11, cx11, ix12, cx12, ix20, cx20, ix24, cx24, ix60, cx60, ix64, cx64, ix100, cx100, ix101, cx101, ix360, cx360, ix600, cx600, hc, g149, n2, er, eY, bI_t, bI_f, nb0]
          | true =>
            rw [if_neg (by decide)]
            rw [hb3] at eY
            obtain ⟨o1, o2, o3, o4, o5, o6⟩ := oY hb3
            refine ⟨Y, ?_, y11, fXY, fun _ => ⟨⟨?_, ?_, Or.inr ⟨?_, s, o1, o2, ?_, ?_, ?_⟩⟩, s + R.2.2.length, by omega, o4⟩⟩
            · simp (decide := true) only [pX12_takesClause_0, pX12_takesClause_1, pX12_takesClause_2, pX12_takesClause_5, pX12_takesClause_8, pX12_takesClause_9, pX12_takesClause_12, pX12_takesClause_15, pX12_takesClause_16, pX12_takesClause_16t, pX12_takesClause_16f, pX12_takesClause_17, pX12_takesClause_18, pX12_takesClause_21, pX12_takesClause_22, pX12_takesClause_23, pX12_takesClause_26, pX12_takesClause_27, pX12_takesClause_28, pX12_takesClause_31, pX12_takesClause_32, pX12_takesClause_33, pX12_takesClause_34, pX12_takesClause_37, pX12_takesClause_38, pX12_takesClause_40, pX12_takesClause_43, pX12_takesClause_46, pX12_takesClause_47, pX12_takesClause_48, pX12_takesClause_51, pX12_takesClause_54, pX12_takesClause_55, pX12_takesClause_58, pX12_takesClause_59, pX12_takesClause_59t, pX12_takesClause_59f, kd_i0, kd_i1, kd_i2, kd_i3, kd_jA, kd_r5, kd_r6, kd_r7, al_i, al_j, al_r, ai_i, aj_j, aq_r, cls_o, fv_o, sti_i, stj_j, st2_s, st2_n, bnd_some, set1_same, set1_twice, hc_141, of_141_0, ow_141_0, of_141_1, ow_141_1, of_141_2, ow_141_2, of_141_3, of_141_4, of_141_5, of_141_6, of_141_7, of_141_8, ow_141_8, of_141_9, ow_141_9, of_141_10, ow_141_10, of_141_11, ow_141_11, of_141_12, ow_141_12, of_141_13, of_141_14, of_141_15, of_141_16, of_141_17, of_141_18, of_141_19, of_141_20, of_141_21, ow_141_21, of_141_22, ow_141_22, of_141_23, ow_141_23, of_141_24, of_141_25, of_141_26, of_141_27, ow_141_27, of_141_28, ow_141_28, of_141_29, ow_141_29, of_141_30, of_141_31, of_141_32, ow_141_32, of_141_33, of_141_34, of_141_35, of_141_36, ow_141_36, of_141_37, of_141_38, of_141_39, ow_141_39, of_141_40, ow_141_40, of_141_41, of_141_42, of_141_43, of_141_44, of_141_45, ow_141_45, of_141_46, ow_141_46, of_141_47, ow_141_47, of_141_48, ow_141_48, of_141_49, ow_141_49, of_141_50, ow_141_50, of_141_51, ow_141_51, of_141_52, ow_141_52, of_141_53, ow_141_53, of_141_54, of_141_55, of_141_56, of_141_57, of_141_58, of_141_59, of_141_60, of_141_61, of_141_62, of_141_63, of_141_64, of_141_65, of_141_66, ow_141_66, of_141_67, of_141_68, of_141_69, of_141_70, of_141_71, hc_142, hw_142, hc_143, hw_143, hc_144, hw_144, hc_145, hw_145, hc_146, hw_146, hc_147, hw_147, hc_148, hw_148, hc_149, hw_149, hc_150, hw_150, hc_151, hw_151, hc_152, hw_152, hc_153, hw_153, hc_154, hw_154, hc_155, hw_155, hc_156, hw_156, hc_157, hw_157, hc_158, hw_158, hc_159, hw_159, hc_160, hw_160, hc_161, hw_161, hc_162, hw_162, hc_163, hw_163, hc_164, hw_164, hc_165, hw_165, hc_166, hw_166, hc_167, hw_167, hc_168, hw_168, hc_169, hw_169, hc_170, hw_170, hc_171, hw_171, hc_172, hw_172, hc_173, hw_173, hc_174, hw_174, hc_175, hw_175, hc_176, hw_176, hc_177, hw_177, hc_178, hw_178, hc_179, hw_179, hc_180, hw_180, hc_181, hw_181, hc_182, hw_182, hc_183, hw_183, hc_184, hw_184, hc_185, hw_185, ↓reduceIte, set1_ne, ne_eq, Nat.reduceEqDiff, not_false_eq_true, not_true_eq_false, if_true, if_false, ite_Ei, bI_eq0, pk_us, ix4, cx4, ix5, cx5, ix6, cx6, ix7, cx7, ix8, cx8, ix10, cx10, ix11, cx11, ix12, cx12, ix20, cx20, ix24, cx24, ix60, cx60, ix64, cx64, ix100, cx100, ix101, cx101, ix360, cx360, ix600, cx600, hc, g149, n2, er, eY, bI_t, nb1]
            · show Y 149 c = nI t'
              rw [o5, sA_n (by decide)]; exact g149
            · show Y 150 c = _
              rw [o6, sA_n (by decide)]; exact g150
            · show nI t' = 0 ∨ nI t' = 1
              have : t' = 0 ∨ t' = 1 := by omega
              rcases this with q | q
              · rw [q]; exact Or.inl rfl
              · rw [q]; exact Or.inr rfl
            · show s + R.2.2.length ≤ 600
              have b1 := o4.2.2.1
              have b2 := o4.1.2.2
              have b3 := o4.1.1.2.2
              have b4 := o4.2.2.2.2.1
              omega
            · intro i hi
              rw [o3 i hi]
              show R.2.2.getD i 0 = R.2.2[i]
              simp [List.getD, show i < R.2.2.length from hi]
            · show wfl R.2.2 0
              have := (hWf hb3).2 0 [] (by omega) rfl
              rwa [List.append_nil] at this
        · rw [if_pos g32]
          rw [decide_eq_false g32, if_neg g32] at er
          refine ⟨V, ?_, h4.1.2.1, f4, fun q => by cases q⟩
          simp (decide := true) only [pX12_takesClause_0, pX12_takesClause_1, pX12_takesClause_2, pX12_takesClause_5, pX12_takesClause_8, pX12_takesClause_9, pX12_takesClause_12, pX12_takesClause_15, pX12_takesClause_16, pX12_takesClause_16t, pX12_takesClause_16f, pX12_takesClause_17, pX12_takesClause_18, pX12_takesClause_21, pX12_takesClause_22, pX12_takesClause_23, pX12_takesClause_26, pX12_takesClause_27, pX12_takesClause_28, pX12_takesClause_31, pX12_takesClause_32, pX12_takesClause_33, pX12_takesClause_34, pX12_takesClause_37, pX12_takesClause_38, pX12_takesClause_40, pX12_takesClause_43, pX12_takesClause_46, pX12_takesClause_47, pX12_takesClause_48, pX12_takesClause_51, pX12_takesClause_54, pX12_takesClause_55, pX12_takesClause_58, pX12_takesClause_59, pX12_takesClause_59t, pX12_takesClause_59f, kd_i0, kd_i1, kd_i2, kd_i3, kd_jA, kd_r5, kd_r6, kd_r7, al_i, al_j, al_r, ai_i, aj_j, aq_r, cls_o, fv_o, sti_i, stj_j, st2_s, st2_n, bnd_some, set1_same, set1_twice, hc_141, of_141_0, ow_141_0, of_141_1, ow_141_1, of_141_2, ow_141_2, of_141_3, of_141_4, of_141_5, of_141_6, of_141_7, of_141_8, ow_141_8, of_141_9, ow_141_9, of_141_10, ow_141_10, of_141_11, ow_141_11, of_141_12, ow_141_12, of_141_13, of_141_14, of_141_15, of_141_16, of_141_17, of_141_18, of_141_19, of_141_20, of_141_21, ow_141_21, of_141_22, ow_141_22, of_141_23, ow_141_23, of_141_24, of_141_25, of_141_26, of_141_27, ow_141_27, of_141_28, ow_141_28, of_141_29, ow_141_29, of_141_30, of_141_31, of_141_32, ow_141_32, of_141_33, of_141_34, of_141_35, of_141_36, ow_141_36, of_141_37, of_141_38, of_141_39, ow_141_39, of_141_40, ow_141_40, of_141_41, of_141_42, of_141_43, of_141_44, of_141_45, ow_141_45, of_141_46, ow_141_46, of_141_47, ow_141_47, of_141_48, ow_141_48, of_141_49, ow_141_49, of_141_50, ow_141_50, of_141_51, ow_141_51, of_141_52, ow_141_52, of_141_53, ow_141_53, of_141_54, of_141_55, of_141_56, of_141_57, of_141_58, of_141_59, of_141_60, of_141_61, of_141_62, of_141_63, of_141_64, of_141_65, of_141_66, ow_141_66, of_141_67, of_141_68, of_141_69, of_141_70, of_141_71, hc_142, hw_142, hc_143, hw_143, hc_144, hw_144, hc_145, hw_145, hc_146, hw_146, hc_147, hw_147, hc_148, hw_148, hc_149, hw_149, hc_150, hw_150, hc_151, hw_151, hc_152, hw_152, hc_153, hw_153, hc_154, hw_154, hc_155, hw_155, hc_156, hw_156, hc_157, hw_157, hc_158, hw_158, hc_159, hw_159, hc_160, hw_160, hc_161, hw_161, hc_162, hw_162, hc_163, hw_163, hc_164, hw_164, hc_165, hw_165, hc_166, hw_166, hc_167, hw_167, hc_168, hw_168, hc_169, hw_169, hc_170, hw_170, hc_171, hw_171, hc_172, hw_172, hc_173, hw_173, hc_174, hw_174, hc_175, hw_175, hc_176, hw_176, hc_177, hw_177, hc_178, hw_178, hc_179, hw_179, hc_180, hw_180, hc_181, hw_181, hc_182, hw_182, hc_183, hw_183, hc_184, hw_184, hc_185, hw_185, ↓reduceIte, set1_ne, ne_eq, Nat.reduceEqDiff, not_false_eq_true, not_true_eq_false, if_true, if_false, ite_Ei, bI_eq0, pk_us, ix4, cx4, ix5, cx5, ix6, cx6, ix7, cx7, ix8, cx8, ix10, cx10, ix11, cx11, ix12, cx12, ix20, cx20, ix24, cx24, ix60, cx60, ix64, cx64, ix100, cx100, ix101, cx101, ix360, cx360, ix600, cx600, hc, g149, n2, er, bI_f, nb0]
theorem C_cl (hw : t = 2 ∧ sg tx p = 114 ∧ w = wdR ∨ t = 1 ∧ ¬ sg tx p = 114 ∧ sg tx (p + 1) = 104 ∧ w = wdS ∨ t = 0 ∧ ¬ sg tx p = 114 ∧ ¬ sg tx (p + 1) = 104 ∧ w = wdU) (hp0 : p ≤ tx.length) (hwn : ∀ c, c ∈ w → c ≠ -1)
    (hR : t ≠ 2 → (pN (sg tx) (pW (sg tx) w p).2).1 = true → sg tx (pN (sg tx) (pW (sg tx) w p).2).2.1 = 32 → CE tx 0 ((pN (sg tx) (pW (sg tx) w p).2).2.1 + 1) R) : CC tx p (pCl tx t w p R) := by
  intro K i X S n z h
  have hi := h.1
  have hlen := h.2.2.1
  have h2 := h.2.1
  have h5 := h.2.2.2.2.1
  have h8 := h.2.2.2.2.2.2.2
  have es := w_sign (n := n) (z := z) h
  have wl := pW_len (tx := tx) w p hwn hp0
  have wle := pW_le (sg tx) w p
  have hA := WS_at (q := (pW (sg tx) w p).2) h wl (by omega)
  have en := w_num (n := n) (z := z) hA
  have nle := pN_le (g := sg tx) (p := (pW (sg tx) w p).2)
  have nlen := pN_len (tx := tx) (p := (pW (sg tx) w p).2) wl
  have hB := WS_an (q := (pN (sg tx) (pW (sg tx) w p).2).2.1) (v := nI (pN (sg tx) (pW (sg tx) w p).2).2.2) hA nlen (by omega)
  have fA : FW i S X (setAt X i (pW (sg tx) w p).2) := FW_at
  have fB : FW i S X (setAN (setAt X i (pW (sg tx) w p).2) i (pN (sg tx) (pW (sg tx) w p).2).2.1 (nI (pN (sg tx) (pW (sg tx) w p).2).2.2)) := FW_trans FW_at FW_an (Nat.le_refl _)
  have eB2 := an_2 (X := setAt X i (pW (sg tx) w p).2) (i := i) (q := (pN (sg tx) (pW (sg tx) w p).2).2.1) (v := nI (pN (sg tx) (pW (sg tx) w p).2).2.2)
  have wcA := wc_0 (K := K) (X := setAt X i (pW (sg tx) w p).2) hi
  generalize hAg : setAt X i (pW (sg tx) w p).2 = A at hA en fA wcA
  rw [hAg] at hB fB eB2
  generalize hBg : setAN A i (pN (sg tx) (pW (sg tx) w p).2).2.1 (nI (pN (sg tx) (pW (sg tx) w p).2).2.2) = Bx at en hB fB eB2
  have wcB := wc_0 (K := K) (X := Bx) hi
  unfold pCl
  by_cases t2 : t = 2
  · have hw1 : sg tx p = 114 ∧ w = wdR := by
      rcases hw with ⟨_, a⟩ | ⟨a, _⟩ | ⟨a, _⟩
      · exact a
      · omega
      · omega
    obtain ⟨q114, rfl⟩ := hw1
    rw [q114] at es
    have ew := w_word (n := n) (z := z) h (sto2 K)
    rw [hAg] at ew
    cases hb1 : (pW (sg tx) wdR p).1 with
    | false =>
      rw [if_pos rfl]
      rw [hb1] at ew
      refine ⟨A, S, ?_, hA, FWc_of fA, Nat.le_refl _, fun q => by cases q⟩
      simp (decide := true) only [pX10_readClause_0, pX10_readClause_1, pX10_readClause_4, pX10_readClause_6, pX10_readClause_9, pX10_readClause_10, pX10_readClause_12, pX10_readClause_15, pX10_readClause_18, pX10_readClause_19, pX10_readClause_22, pX10_readClause_25, pX10_readClause_26, pX10_readClause_26t, pX10_readClause_26f, pX10_readClause_27, pX10_readClause_28, pX10_readClause_29, pX10_readClause_32, pX10_readClause_35, pX10_readClause_36, pX10_readClause_36t, pX10_readClause_36f, pX10_readClause_37, pX10_readClause_38, pX10_readClause_41, pX10_readClause_42, pX10_readClause_43, pX10_readClause_44, pX10_readClause_47, pX10_readClause_48, pX10_readClause_51, pX10_readClause_52, pX10_readClause_55, pX10_readClause_56, pX10_readClause_59, pX10_readClause_60, pX10_readClause_61, pX10_readClause_62, pX10_readClause_64, pX10_readClause_67, pX10_readClause_68, pX10_readClause_71, pX10_readClause_72, pX10_readClause_73, pX10_readClause_74, pX10_readClause_75, pX10_readClause_78, pX10_readClause_80, pX10_readClause_83, pX10_readClause_85, pX10_readClause_88, pX10_readClause_91, pX10_readClause_92, pX10_readClause_95, pX10_readClause_98, pX10_readClause_99, pX10_readClause_99t, pX10_readClause_99f, pX10_readClause_100, pX10_readClause_101, pX10_readClause_104, pX10_readClause_105, pX10_readClause_106, pX10_readClause_108, pX10_readClause_111, pX10_readClause_114, pX10_readClause_115, pX10_readClause_116, pX10_readClause_119, pX10_readClause_122, pX10_readClause_123, pX10_readClause_123t, pX10_readClause_123f, pX10_readClause_124, pX10_readClause_125, pX10_readClause_126, pX10_readClause_129, pX10_readClause_131, pX10_readClause_134, pX10_readClause_136, pX10_readClause_138, pX10_readClause_139, pX10_readClause_142, pX10_readClause_143, pX10_readClause_143t, pX10_readClause_143f, kd_i0, kd_i1, kd_i2, kd_i3, kd_jA, kd_r5, kd_r6, kd_r7, al_i, al_j, al_r, ai_i, aj_j, aq_r, cls_o, fv_o, sti_i, stj_j, st2_s, st2_n, bnd_some, set1_same, set1_twice, wc_0 hi, wc_1 hi, wc_2 hi, wc_3 hi, wc_4 hi, wc_5 hi, ww_1 hi, ww_2 hi, ww_3 hi, ww_4 hi, ww_5 hi, wow_1 hi, wow_2 hi, wow_3 hi, wow_7 hi, wo_0, wo_1, wo_2, wo_3, wo_4, wo_5, wo_6, wo_7, wo_8, ↓reduceIte, set1_ne, ne_eq, Nat.reduceEqDiff, not_false_eq_true, not_true_eq_false, if_true, if_false, ite_Ei, bI_eq0, pk_us, ix4, cx4, ix5, cx5, ix6, cx6, ix7, cx7, ix8, cx8, ix10, cx10, ix11, cx11, ix12, cx12, ix20, cx20, ix24, cx24, ix60, cx60, ix64, cx64, ix100, cx100, ix101, cx101, ix360, cx360, ix600, cx600, es, ew, bI_f, nb0]
    | true =>
      rw [if_neg (by decide)]
      rw [hb1] at ew
      cases hb2 : (pN (sg tx) (pW (sg tx) wdR p).2).1 with
      | false =>
        rw [if_pos rfl]
        rw [hb2] at en
        refine ⟨Bx, S, ?_, hB, FWc_of fB, Nat.le_refl _, fun q => by cases q⟩
        simp (decide := true) only [pX10_readClause_0, pX10_readClause_1, pX10_readClause_4, pX10_readClause_6, pX10_readClause_9, pX10_readClause_10, pX10_readClause_12, pX10_readClause_15, pX10_readClause_18, pX10_readClause_19, pX10_readClause_22, pX10_readClause_25, pX10_readClause_26, pX10_readClause_26t, pX10_readClause_26f, pX10_readClause_27, pX10_readClause_28, pX10_readClause_29, pX10_readClause_32, pX10_readClause_35, pX10_readClause_36, pX10_readClause_36t, pX10_readClause_36f, pX10_readClause_37, pX10_readClause_38, pX10_readClause_41, pX10_readClause_42, pX10_readClause_43, pX10_readClause_44, pX10_readClause_47, pX10_readClause_48, pX10_readClause_51, pX10_readClause_52, pX10_readClause_55, pX10_readClause_56, pX10_readClause_59, pX10_readClause_60, pX10_readClause_61, pX10_readClause_62, pX10_readClause_64, pX10_readClause_67, pX10_readClause_68, pX10_readClause_71, pX10_readClause_72, pX10_readClause_73, pX10_readClause_74, pX10_readClause_75, pX10_readClause_78, pX10_readClause_80, pX10_readClause_83, pX10_readClause_85, pX10_readClause_88, pX10_readClause_91, pX10_readClause_92, pX10_readClause_95, pX10_readClause_98, pX10_readClause_99, pX10_readClause_99t, pX10_readClause_99f, pX10_readClause_100, pX10_readClause_101, pX10_readClause_104, pX10_readClause_105, pX10_readClause_106, pX10_readClause_108, pX10_readClause_111, pX10_readClause_114, pX10_readClause_115, pX10_readClause_116, pX10_readClause_119, pX10_readClause_122, pX10_readClause_123, pX10_readClause_123t, pX10_readClause_123f, pX10_readClause_124, pX10_readClause_125, pX10_readClause_126, pX10_readClause_129, pX10_readClause_131, pX10_readClause_134, pX10_readClause_136, pX10_readClause_138, pX10_readClause_139, pX10_readClause_142, pX10_readClause_143, pX10_readClause_143t, pX10_readClause_143f, kd_i0, kd_i1, kd_i2, kd_i3, kd_jA, kd_r5, kd_r6, kd_r7, al_i, al_j, al_r, ai_i, aj_j, aq_r, cls_o, fv_o, sti_i, stj_j, st2_s, st2_n, bnd_some, set1_same, set1_twice, wc_0 hi, wc_1 hi, wc_2 hi, wc_3 hi, wc_4 hi, wc_5 hi, ww_1 hi, ww_2 hi, ww_3 hi, ww_4 hi, ww_5 hi, wow_1 hi, wow_2 hi, wow_3 hi, wow_7 hi, wo_0, wo_1, wo_2, wo_3, wo_4, wo_5, wo_6, wo_7, wo_8, ↓reduceIte, set1_ne, ne_eq, Nat.reduceEqDiff, not_false_eq_true, not_true_eq_false, if_true, if_false, ite_Ei, bI_eq0, pk_us, ix4, cx4, ix5, cx5, ix6, cx6, ix7, cx7, ix8, cx8, ix10, cx10, ix11, cx11, ix12, cx12, ix20, cx20, ix24, cx24, ix60, cx60, ix64, cx64, ix100, cx100, ix101, cx101, ix360, cx360, ix600, cx600, es, ew, en, bI_t, bI_f, nb0]
      | true =>
        rw [if_neg (by decide), if_pos t2]
        rw [hb2] at en
        refine ⟨set1 Bx (186 + 6 * i) (upd (Bx (186 + 6 * i)) 3 (nI (pN (sg tx) (pW (sg tx) wdR p).2).2.2)), S, ?_, WS_en hB, FWc_trans (FWc_of fB) FWc_en (Nat.le_refl _), Nat.le_refl _, fun _ => ?_⟩
        · simp (decide := true) only [pX10_readClause_0, pX10_readClause_1, pX10_readClause_4, pX10_readClause_6, pX10_readClause_9, pX10_readClause_10, pX10_readClause_12, pX10_readClause_15, pX10_readClause_18, pX10_readClause_19, pX10_readClause_22, pX10_readClause_25, pX10_readClause_26, pX10_readClause_26t, pX10_readClause_26f, pX10_readClause_27, pX10_readClause_28, pX10_readClause_29, pX10_readClause_32, pX10_readClause_35, pX10_readClause_36, pX10_readClause_36t, pX10_readClause_36f, pX10_readClause_37, pX10_readClause_38, pX10_readClause_41, pX10_readClause_42, pX10_readClause_43, pX10_readClause_44, pX10_readClause_47, pX10_readClause_48, pX10_readClause_51, pX10_readClause_52, pX10_readClause_55, pX10_readClause_56, pX10_readClause_59, pX10_readClause_60, pX10_readClause_61, pX10_readClause_62, pX10_readClause_64, pX10_readClause_67, pX10_readClause_68, pX10_readClause_71, pX10_readClause_72, pX10_readClause_73, pX10_readClause_74, pX10_readClause_75, pX10_readClause_78, pX10_readClause_80, pX10_readClause_83, pX10_readClause_85, pX10_readClause_88, pX10_readClause_91, pX10_readClause_92, pX10_readClause_95, pX10_readClause_98, pX10_readClause_99, pX10_readClause_99t, pX10_readClause_99f, pX10_readClause_100, pX10_readClause_101, pX10_readClause_104, pX10_readClause_105, pX10_readClause_106, pX10_readClause_108, pX10_readClause_111, pX10_readClause_114, pX10_readClause_115, pX10_readClause_116, pX10_readClause_119, pX10_readClause_122, pX10_readClause_123, pX10_readClause_123t, pX10_readClause_123f, pX10_readClause_124, pX10_readClause_125, pX10_readClause_126, pX10_readClause_129, pX10_readClause_131, pX10_readClause_134, pX10_readClause_136, pX10_readClause_138, pX10_readClause_139, pX10_readClause_142, pX10_readClause_143, pX10_readClause_143t, pX10_readClause_143f, kd_i0, kd_i1, kd_i2, kd_i3, kd_jA, kd_r5, kd_r6, kd_r7, al_i, al_j, al_r, ai_i, aj_j, aq_r, cls_o, fv_o, sti_i, stj_j, st2_s, st2_n, bnd_some, set1_same, set1_twice, wc_0 hi, wc_1 hi, wc_2 hi, wc_3 hi, wc_4 hi, wc_5 hi, ww_1 hi, ww_2 hi, ww_3 hi, ww_4 hi, ww_5 hi, wow_1 hi, wow_2 hi, wow_3 hi, wow_7 hi, wo_0, wo_1, wo_2, wo_3, wo_4, wo_5, wo_6, wo_7, wo_8, ↓reduceIte, set1_ne, ne_eq, Nat.reduceEqDiff, not_false_eq_true, not_true_eq_false, if_true, if_false, ite_Ei, bI_eq0, pk_us, ix4, cx4, ix5, cx5, ix6, cx6, ix7, cx7, ix8, cx8, ix10, cx10, ix11, cx11, ix12, cx12, ix20, cx20, ix24, cx24, ix60, cx60, ix64, cx64, ix100, cx100, ix101, cx101, ix360, cx360, ix600, cx600, es, ew, en, bI_t, eB2, nb1]
        · have ec : codC ((2, nI (pN (sg tx) (pW (sg tx) wdR p).2).2.2, []) : Cla) = [] := by unfold codC; rw [if_pos rfl]
          show S = S + (codC ((2, nI (pN (sg tx) (pW (sg tx) wdR p).2).2.2, []) : Cla)).length ∧ AtS _ i S (codC ((2, nI (pN (sg tx) (pW (sg tx) wdR p).2).2.2, []) : Cla)) ∧ _ = if (2 : Int32) = 2 then nI (pN (sg tx) (pW (sg tx) wdR p).2).2.2 else _
          rw [ec, if_pos rfl, set1_same, pk_us]
          exact ⟨rfl, fun k hk => absurd hk (by simp), rfl⟩
  · -- sun, shade
    obtain ⟨sh, qc, hsh, hq, n114, ht01⟩ : ∃ (sh : Bool) (qc : Nat), StO K qc w ∧ (sh = true ∧ t = 1 ∧ sg tx (p + 1) = 104 ∧ qc = 3 ∨ sh = false ∧ t = 0 ∧ ¬ sg tx (p + 1) = 104 ∧ qc = 4) ∧ ¬ sg tx p = 114 ∧ t < 2 := by
      rcases hw with ⟨a, _⟩ | ⟨a, b, c, d⟩ | ⟨a, b, c, d⟩
      · exact absurd a t2
      · exact ⟨true, 3, by rw [d]; exact sto3 K, Or.inl ⟨rfl, a, c, rfl⟩, b, by omega⟩
      · exact ⟨false, 4, by rw [d]; exact sto4 K, Or.inr ⟨rfl, a, c, rfl⟩, b, by omega⟩
    have ew := w_word (n := n) (z := z) h hsh
    rw [hAg] at ew
    have run1 : E 24 mX10_readClause 0 [.ref (186 + 6 * i), .null, .null] [] (hp K X, n, z) = E 24 mX10_readClause 88 [.ref (186 + 6 * i), .int (bI sh), .null] [.int (bI (pW (sg tx) w p).1)] (hp K A, n, z) := by
      by_cases pl : p + 1 < tx.length
      · have q1 : ¬ nI tx.length ≤ nI (p + 1) := nI_ge pl (by omega)
        have ip : ix (nI (p + 1)) tx.length = true := ix_nI pl (by omega)
        have cp : cx (nI (p + 1)) = p + 1 := cx_nI (by omega)
        have e4 := h.2.2.2.1 (p + 1) pl
        rcases hq with ⟨rfl, _, g, rfl⟩ | ⟨rfl, _, g, rfl⟩
        · rw [sg_lt pl] at g
          rw [g] at e4
          simp (decide := true) only [pX10_readClause_0, pX10_readClause_1, pX10_readClause_4, pX10_readClause_6, pX10_readClause_9, pX10_readClause_10, pX10_readClause_12, pX10_readClause_15, pX10_readClause_18, pX10_readClause_19, pX10_readClause_22, pX10_readClause_25, pX10_readClause_26, pX10_readClause_26t, pX10_readClause_26f, pX10_readClause_27, pX10_readClause_28, pX10_readClause_29, pX10_readClause_32, pX10_readClause_35, pX10_readClause_36, pX10_readClause_36t, pX10_readClause_36f, pX10_readClause_37, pX10_readClause_38, pX10_readClause_41, pX10_readClause_42, pX10_readClause_43, pX10_readClause_44, pX10_readClause_47, pX10_readClause_48, pX10_readClause_51, pX10_readClause_52, pX10_readClause_55, pX10_readClause_56, pX10_readClause_59, pX10_readClause_60, pX10_readClause_61, pX10_readClause_62, pX10_readClause_64, pX10_readClause_67, pX10_readClause_68, pX10_readClause_71, pX10_readClause_72, pX10_readClause_73, pX10_readClause_74, pX10_readClause_75, pX10_readClause_78, pX10_readClause_80, pX10_readClause_83, pX10_readClause_85, pX10_readClause_91, pX10_readClause_92, pX10_readClause_95, pX10_readClause_98, pX10_readClause_99, pX10_readClause_99t, pX10_readClause_99f, pX10_readClause_100, pX10_readClause_101, pX10_readClause_104, pX10_readClause_105, pX10_readClause_106, pX10_readClause_108, pX10_readClause_111, pX10_readClause_114, pX10_readClause_115, pX10_readClause_116, pX10_readClause_119, pX10_readClause_122, pX10_readClause_123, pX10_readClause_123t, pX10_readClause_123f, pX10_readClause_124, pX10_readClause_125, pX10_readClause_126, pX10_readClause_129, pX10_readClause_131, pX10_readClause_134, pX10_readClause_136, pX10_readClause_138, pX10_readClause_139, pX10_readClause_142, pX10_readClause_143, pX10_readClause_143t, pX10_readClause_143f, kd_i0, kd_i1, kd_i2, kd_i3, kd_jA, kd_r5, kd_r6, kd_r7, al_i, al_j, al_r, ai_i, aj_j, aq_r, cls_o, fv_o, sti_i, stj_j, st2_s, st2_n, bnd_some, set1_same, set1_twice, wc_0 hi, wc_1 hi, wc_2 hi, wc_3 hi, wc_4 hi, wc_5 hi, ww_1 hi, ww_2 hi, ww_3 hi, ww_4 hi, ww_5 hi, wow_1 hi, wow_2 hi, wow_3 hi, wow_7 hi, wo_0, wo_1, wo_2, wo_3, wo_4, wo_5, wo_6, wo_7, wo_8, ↓reduceIte, set1_ne, ne_eq, Nat.reduceEqDiff, not_false_eq_true, not_true_eq_false, if_true, if_false, ite_Ei, bI_eq0, pk_us, ix4, cx4, ix5, cx5, ix6, cx6, ix7, cx7, ix8, cx8, ix10, cx10, ix11, cx11, ix12, cx12, ix20, cx20, ix24, cx24, ix60, cx60, ix64, cx64, ix100, cx100, ix101, cx101, ix360, cx360, ix600, cx600, es, n114, h2, h5, ofNat_nI, nI_1, q1, ip, cp, e4, ew, bI_t]
        · rw [sg_lt pl] at g
          simp (decide := true) only [pX10_readClause_0, pX10_readClause_1, pX10_readClause_4, pX10_readClause_6, pX10_readClause_9, pX10_readClause_10, pX10_readClause_12, pX10_readClause_15, pX10_readClause_18, pX10_readClause_19, pX10_readClause_22, pX10_readClause_25, pX10_readClause_26, pX10_readClause_26t, pX10_readClause_26f, pX10_readClause_27, pX10_readClause_28, pX10_readClause_29, pX10_readClause_32, pX10_readClause_35, pX10_readClause_36, pX10_readClause_36t, pX10_readClause_36f, pX10_readClause_37, pX10_readClause_38, pX10_readClause_41, pX10_readClause_42, pX10_readClause_43, pX10_readClause_44, pX10_readClause_47, pX10_readClause_48, pX10_readClause_51, pX10_readClause_52, pX10_readClause_55, pX10_readClause_56, pX10_readClause_59, pX10_readClause_60, pX10_readClause_61, pX10_readClause_62, pX10_readClause_64, pX10_readClause_67, pX10_readClause_68, pX10_readClause_71, pX10_readClause_72, pX10_readClause_73, pX10_readClause_74, pX10_readClause_75, pX10_readClause_78, pX10_readClause_80, pX10_readClause_83, pX10_readClause_85, pX10_readClause_91, pX10_readClause_92, pX10_readClause_95, pX10_readClause_98, pX10_readClause_99, pX10_readClause_99t, pX10_readClause_99f, pX10_readClause_100, pX10_readClause_101, pX10_readClause_104, pX10_readClause_105, pX10_readClause_106, pX10_readClause_108, pX10_readClause_111, pX10_readClause_114, pX10_readClause_115, pX10_readClause_116, pX10_readClause_119, pX10_readClause_122, pX10_readClause_123, pX10_readClause_123t, pX10_readClause_123f, pX10_readClause_124, pX10_readClause_125, pX10_readClause_126, pX10_readClause_129, pX10_readClause_131, pX10_readClause_134, pX10_readClause_136, pX10_readClause_138, pX10_readClause_139, pX10_readClause_142, pX10_readClause_143, pX10_readClause_143t, pX10_readClause_143f, kd_i0, kd_i1, kd_i2, kd_i3, kd_jA, kd_r5, kd_r6, kd_r7, al_i, al_j, al_r, ai_i, aj_j, aq_r, cls_o, fv_o, sti_i, stj_j, st2_s, st2_n, bnd_some, set1_same, set1_twice, wc_0 hi, wc_1 hi, wc_2 hi, wc_3 hi, wc_4 hi, wc_5 hi, ww_1 hi, ww_2 hi, ww_3 hi, ww_4 hi, ww_5 hi, wow_1 hi, wow_2 hi, wow_3 hi, wow_7 hi, wo_0, wo_1, wo_2, wo_3, wo_4, wo_5, wo_6, wo_7, wo_8, ↓reduceIte, set1_ne, ne_eq, Nat.reduceEqDiff, not_false_eq_true, not_true_eq_false, if_true, if_false, ite_Ei, bI_eq0, pk_us, ix4, cx4, ix5, cx5, ix6, cx6, ix7, cx7, ix8, cx8, ix10, cx10, ix11, cx11, ix12, cx12, ix20, cx20, ix24, cx24, ix60, cx60, ix64, cx64, ix100, cx100, ix101, cx101, ix360, cx360, ix600, cx600, es, n114, h2, h5, ofNat_nI, nI_1, q1, ip, cp, e4, g, ew, bI_f]
      · have q1 : nI tx.length ≤ nI (p + 1) := nI_le (by omega) (by omega)
        rcases hq with ⟨rfl, _, g, rfl⟩ | ⟨rfl, _, g, rfl⟩
        · rw [sg_ge pl] at g; exact absurd g (by decide)
        · simp (decide := true) only [pX10_readClause_0, pX10_readClause_1, pX10_readClause_4, pX10_readClause_6, pX10_readClause_9, pX10_readClause_10, pX10_readClause_12, pX10_readClause_15, pX10_readClause_18, pX10_readClause_19, pX10_readClause_22, pX10_readClause_25, pX10_readClause_26, pX10_readClause_26t, pX10_readClause_26f, pX10_readClause_27, pX10_readClause_28, pX10_readClause_29, pX10_readClause_32, pX10_readClause_35, pX10_readClause_36, pX10_readClause_36t, pX10_readClause_36f, pX10_readClause_37, pX10_readClause_38, pX10_readClause_41, pX10_readClause_42, pX10_readClause_43, pX10_readClause_44, pX10_readClause_47, pX10_readClause_48, pX10_readClause_51, pX10_readClause_52, pX10_readClause_55, pX10_readClause_56, pX10_readClause_59, pX10_readClause_60, pX10_readClause_61, pX10_readClause_62, pX10_readClause_64, pX10_readClause_67, pX10_readClause_68, pX10_readClause_71, pX10_readClause_72, pX10_readClause_73, pX10_readClause_74, pX10_readClause_75, pX10_readClause_78, pX10_readClause_80, pX10_readClause_83, pX10_readClause_85, pX10_readClause_91, pX10_readClause_92, pX10_readClause_95, pX10_readClause_98, pX10_readClause_99, pX10_readClause_99t, pX10_readClause_99f, pX10_readClause_100, pX10_readClause_101, pX10_readClause_104, pX10_readClause_105, pX10_readClause_106, pX10_readClause_108, pX10_readClause_111, pX10_readClause_114, pX10_readClause_115, pX10_readClause_116, pX10_readClause_119, pX10_readClause_122, pX10_readClause_123, pX10_readClause_123t, pX10_readClause_123f, pX10_readClause_124, pX10_readClause_125, pX10_readClause_126, pX10_readClause_129, pX10_readClause_131, pX10_readClause_134, pX10_readClause_136, pX10_readClause_138, pX10_readClause_139, pX10_readClause_142, pX10_readClause_143, pX10_readClause_143t, pX10_readClause_143f, kd_i0, kd_i1, kd_i2, kd_i3, kd_jA, kd_r5, kd_r6, kd_r7, al_i, al_j, al_r, ai_i, aj_j, aq_r, cls_o, fv_o, sti_i, stj_j, st2_s, st2_n, bnd_some, set1_same, set1_twice, wc_0 hi, wc_1 hi, wc_2 hi, wc_3 hi, wc_4 hi, wc_5 hi, ww_1 hi, ww_2 hi, ww_3 hi, ww_4 hi, ww_5 hi, wow_1 hi, wow_2 hi, wow_3 hi, wow_7 hi, wo_0, wo_1, wo_2, wo_3, wo_4, wo_5, wo_6, wo_7, wo_8, ↓reduceIte, set1_ne, ne_eq, Nat.reduceEqDiff, not_false_eq_true, not_true_eq_false, if_true, if_false, ite_Ei, bI_eq0, pk_us, ix4, cx4, ix5, cx5, ix6, cx6, ix7, cx7, ix8, cx8, ix10, cx10, ix11, cx11, ix12, cx12, ix20, cx20, ix24, cx24, ix60, cx60, ix64, cx64, ix100, cx100, ix101, cx101, ix360, cx360, ix600, cx600, es, n114, h2, h5, ofNat_nI, nI_1, q1, ew, bI_f]
    rw [run1]
    cases hb1 : (pW (sg tx) w p).1 with
    | false =>
      rw [if_pos rfl]
      refine ⟨A, S, ?_, hA, FWc_of fA, Nat.le_refl _, fun q => by cases q⟩
      simp (decide := true) only [pX10_readClause_0, pX10_readClause_1, pX10_readClause_4, pX10_readClause_6, pX10_readClause_9, pX10_readClause_10, pX10_readClause_12, pX10_readClause_15, pX10_readClause_18, pX10_readClause_19, pX10_readClause_22, pX10_readClause_25, pX10_readClause_26, pX10_readClause_26t, pX10_readClause_26f, pX10_readClause_27, pX10_readClause_28, pX10_readClause_29, pX10_readClause_32, pX10_readClause_35, pX10_readClause_36, pX10_readClause_36t, pX10_readClause_36f, pX10_readClause_37, pX10_readClause_38, pX10_readClause_41, pX10_readClause_42, pX10_readClause_43, pX10_readClause_44, pX10_readClause_47, pX10_readClause_48, pX10_readClause_51, pX10_readClause_52, pX10_readClause_55, pX10_readClause_56, pX10_readClause_59, pX10_readClause_60, pX10_readClause_61, pX10_readClause_62, pX10_readClause_64, pX10_readClause_67, pX10_readClause_68, pX10_readClause_71, pX10_readClause_72, pX10_readClause_73, pX10_readClause_74, pX10_readClause_75, pX10_readClause_78, pX10_readClause_80, pX10_readClause_83, pX10_readClause_85, pX10_readClause_88, pX10_readClause_91, pX10_readClause_92, pX10_readClause_95, pX10_readClause_98, pX10_readClause_99, pX10_readClause_99t, pX10_readClause_99f, pX10_readClause_100, pX10_readClause_101, pX10_readClause_104, pX10_readClause_105, pX10_readClause_106, pX10_readClause_108, pX10_readClause_111, pX10_readClause_114, pX10_readClause_115, pX10_readClause_116, pX10_readClause_119, pX10_readClause_122, pX10_readClause_123, pX10_readClause_123t, pX10_readClause_123f, pX10_readClause_124, pX10_readClause_125, pX10_readClause_126, pX10_readClause_129, pX10_readClause_131, pX10_readClause_134, pX10_readClause_136, pX10_readClause_138, pX10_readClause_139, pX10_readClause_142, pX10_readClause_143, pX10_readClause_143t, pX10_readClause_143f, kd_i0, kd_i1, kd_i2, kd_i3, kd_jA, kd_r5, kd_r6, kd_r7, al_i, al_j, al_r, ai_i, aj_j, aq_r, cls_o, fv_o, sti_i, stj_j, st2_s, st2_n, bnd_some, set1_same, set1_twice, wc_0 hi, wc_1 hi, wc_2 hi, wc_3 hi, wc_4 hi, wc_5 hi, ww_1 hi, ww_2 hi, ww_3 hi, ww_4 hi, ww_5 hi, wow_1 hi, wow_2 hi, wow_3 hi, wow_7 hi, wo_0, wo_1, wo_2, wo_3, wo_4, wo_5, wo_6, wo_7, wo_8, ↓reduceIte, set1_ne, ne_eq, Nat.reduceEqDiff, not_false_eq_true, not_true_eq_false, if_true, if_false, ite_Ei, bI_eq0, pk_us, ix4, cx4, ix5, cx5, ix6, cx6, ix7, cx7, ix8, cx8, ix10, cx10, ix11, cx11, ix12, cx12, ix20, cx20, ix24, cx24, ix60, cx60, ix64, cx64, ix100, cx100, ix101, cx101, ix360, cx360, ix600, cx600, bI_f, nb0]
    | true =>
      rw [if_neg (by decide)]
      cases hb2 : (pN (sg tx) (pW (sg tx) w p).2).1 with
      | false =>
        rw [if_pos rfl]
        rw [hb2] at en
        refine ⟨Bx, S, ?_, hB, FWc_of fB, Nat.le_refl _, fun q => by cases q⟩
        simp (decide := true) only [pX10_readClause_0, pX10_readClause_1, pX10_readClause_4, pX10_readClause_6, pX10_readClause_9, pX10_readClause_10, pX10_readClause_12, pX10_readClause_15, pX10_readClause_18, pX10_readClause_19, pX10_readClause_22, pX10_readClause_25, pX10_readClause_26, pX10_readClause_26t, pX10_readClause_26f, pX10_readClause_27, pX10_readClause_28, pX10_readClause_29, pX10_readClause_32, pX10_readClause_35, pX10_readClause_36, pX10_readClause_36t, pX10_readClause_36f, pX10_readClause_37, pX10_readClause_38, pX10_readClause_41, pX10_readClause_42, pX10_readClause_43, pX10_readClause_44, pX10_readClause_47, pX10_readClause_48, pX10_readClause_51, pX10_readClause_52, pX10_readClause_55, pX10_readClause_56, pX10_readClause_59, pX10_readClause_60, pX10_readClause_61, pX10_readClause_62, pX10_readClause_64, pX10_readClause_67, pX10_readClause_68, pX10_readClause_71, pX10_readClause_72, pX10_readClause_73, pX10_readClause_74, pX10_readClause_75, pX10_readClause_78, pX10_readClause_80, pX10_readClause_83, pX10_readClause_85, pX10_readClause_88, pX10_readClause_91, pX10_readClause_92, pX10_readClause_95, pX10_readClause_98, pX10_readClause_99, pX10_readClause_99t, pX10_readClause_99f, pX10_readClause_100, pX10_readClause_101, pX10_readClause_104, pX10_readClause_105, pX10_readClause_106, pX10_readClause_108, pX10_readClause_111, pX10_readClause_114, pX10_readClause_115, pX10_readClause_116, pX10_readClause_119, pX10_readClause_122, pX10_readClause_123, pX10_readClause_123t, pX10_readClause_123f, pX10_readClause_124, pX10_readClause_125, pX10_readClause_126, pX10_readClause_129, pX10_readClause_131, pX10_readClause_134, pX10_readClause_136, pX10_readClause_138, pX10_readClause_139, pX10_readClause_142, pX10_readClause_143, pX10_readClause_143t, pX10_readClause_143f, kd_i0, kd_i1, kd_i2, kd_i3, kd_jA, kd_r5, kd_r6, kd_r7, al_i, al_j, al_r, ai_i, aj_j, aq_r, cls_o, fv_o, sti_i, stj_j, st2_s, st2_n, bnd_some, set1_same, set1_twice, wc_0 hi, wc_1 hi, wc_2 hi, wc_3 hi, wc_4 hi, wc_5 hi, ww_1 hi, ww_2 hi, ww_3 hi, ww_4 hi, ww_5 hi, wow_1 hi, wow_2 hi, wow_3 hi, wow_7 hi, wo_0, wo_1, wo_2, wo_3, wo_4, wo_5, wo_6, wo_7, wo_8, ↓reduceIte, set1_ne, ne_eq, Nat.reduceEqDiff, not_false_eq_true, not_true_eq_false, if_true, if_false, ite_Ei, bI_eq0, pk_us, ix4, cx4, ix5, cx5, ix6, cx6, ix7, cx7, ix8, cx8, ix10, cx10, ix11, cx11, ix12, cx12, ix20, cx20, ix24, cx24, ix60, cx60, ix64, cx64, ix100, cx100, ix101, cx101, ix360, cx360, ix600, cx600, en, bI_t, bI_f, nb0]
      | true =>
        rw [if_neg (by decide), if_neg t2]
        rw [hb2] at en
        have er := w_rs (n := n) (z := z) (c := 32) hB
        by_cases g32 : sg tx (pN (sg tx) (pW (sg tx) w p).2).2.1 = 32
        · have gn : ¬ ¬ sg tx (pN (sg tx) (pW (sg tx) w p).2).2.1 = 32 := fun q => q g32
          rw [if_neg gn]
          rw [decide_eq_true g32, if_pos g32] at er
          have hlt := sg_len g32 (by decide)
          have hSB := hB.2.2.2.2.2.2.2
          have hC := WS_at (q := (pN (sg tx) (pW (sg tx) w p).2).2.1 + 1) hB (by omega) (by omega)
          obtain ⟨Y, S', eY, wY, fY, b1, b2, b3, ok⟩ := hR t2 hb2 g32 K i _ S n z hC
          have e0 : 8 + 3 * (5 - 0) = 23 := rfl
          have ei0 : nI 0 = 0 := rfl
          rw [e0, ei0] at eY
          have fXY : FW i S X Y := FW_trans fB (FW_trans FW_at fY (Nat.le_refl _)) (Nat.le_refl _)
          have wcY := wc_0 (K := K) (X := Y) hi
          have wcC := wc_0 (K := K) (X := setAt Bx i ((pN (sg tx) (pW (sg tx) w p).2).2.1 + 1)) hi
          cases hb3 : R.1 with
          | false =>
            rw [if_pos rfl]
            rw [hb3] at eY
            refine ⟨Y, S', ?_, wY, FWc_of fXY, b2, fun q => by cases q⟩
            simp (decide := true) only [pX10_readClause_0, pX10_readClause_1, pX10_readClause_4, pX10_readClause_6, pX10_readClause_9, pX10_readClause_10, pX10_readClause_12, pX10_readClause_15, pX10_readClause_18, pX10_readClause_19, pX10_readClause_22, pX10_readClause_25, pX10_readClause_26, pX10_readClause_26t, pX10_readClause_26f, pX10_readClause_27, pX10_readClause_28, pX10_readClause_29, pX10_readClause_32, pX10_readClause_35, pX10_readClause_36, pX10_readClause_36t, pX10_readClause_36f, pX10_readClause_37, pX10_readClause_38, pX10_readClause_41, pX10_readClause_42, pX10_readClause_43, pX10_readClause_44, pX10_readClause_47, pX10_readClause_48, pX10_readClause_51, pX10_readClause_52, pX10_readClause_55, pX10_readClause_56, pX10_readClause_59, pX10_readClause_60, pX10_readClause_61, pX10_readClause_62, pX10_readClause_64, pX10_readClause_67, pX10_readClause_68, pX10_readClause_71, pX10_readClause_72, pX10_readClause_73, pX10_readClause_74, pX10_readClause_75, pX10_readClause_78, pX10_readClause_80, pX10_readClause_83, pX10_readClause_85, pX10_readClause_88, pX10_readClause_91, pX10_readClause_92, pX10_readClause_95, pX10_readClause_98, pX10_readClause_99, pX10_readClause_99t, pX10_readClause_99f, pX10_readClause_100, pX10_readClause_101, pX10_readClause_104, pX10_readClause_105, pX10_readClause_106, pX10_readClause_108, pX10_readClause_111, pX10_readClause_114, pX10_readClause_115, pX10_readClause_116, pX10_readClause_119, pX10_readClause_122, pX10_readClause_123, pX10_readClause_123t, pX10_readClause_123f, pX10_readClause_124, pX10_readClause_125, pX10_readClause_126, pX10_readClause_129, pX10_readClause_131, pX10_readClause_134, pX10_readClause_136, pX10_readClause_138, pX10_readClause_139, pX10_readClause_142, pX10_readClause_143, pX10_readClause_143t, pX10_readClause_143f, kd_i0, kd_i1, kd_i2, kd_i3, kd_jA, kd_r5, kd_r6, kd_r7, al_i, al_j, al_r, ai_i, aj_j, aq_r, cls_o, fv_o, sti_i, stj_j, st2_s, st2_n, bnd_some, set1_same, set1_twice, wc_0 hi, wc_1 hi, wc_2 hi, wc_3 hi, wc_4 hi, wc_5 hi, ww_1 hi, ww_2 hi, ww_3 hi, ww_4 hi, ww_5 hi, wow_1 hi, wow_2 hi, wow_3 hi, wow_7 hi, wo_0, wo_1, wo_2, wo_3, wo_4, wo_5, wo_6, wo_7, wo_8, ↓reduceIte, set1_ne, ne_eq, Nat.reduceEqDiff, not_false_eq_true, not_true_eq_false, if_true, if_false, ite_Ei, bI_eq0, pk_us, ix4, cx4, ix5, cx5, ix6, cx6, ix7, cx7, ix8, cx8, ix10, cx10, ix11, cx11, ix12, cx12, ix20, cx20, ix24, cx24, ix60, cx60, ix64, cx64, ix100, cx100, ix101, cx101, ix360, cx360, ix600, cx600, en, eB2, er, eY, cxl_0, bI_t, bI_f, nb0]
          | true =>
            rw [if_neg (by decide)]
            rw [hb3] at eY
            obtain ⟨o1, o2⟩ := ok hb3
            have hS : S' < R.2.1 := by omega
            have e32 : nI 32 = 32 := rfl
            have e43 : nI 43 = 43 := rfl
            have e45 : nI 45 = 45 := rfl
            have fin : ∀ (a : Nat), a < 65536 → (a = 43 ∧ t = 0 ∨ a = 45 ∧ t = 1) → ∀ L1 L2, E 24 mX10_readClause 88 [.ref (186 + 6 * i), L1, L2] [.int (bI true)] (hp K A, n, z) = some (some (.int 1), (hp K (addX3 Y i S' (nI a) 32 (nI (pN (sg tx) (pW (sg tx) w p).2).2.2)), n, z)) → ∃ Y S', E 24 mX10_readClause 88 [.ref (186 + 6 * i), L1, L2] [.int (bI true)] (hp K A, n, z) = some (some (.int (bI true)), (hp K Y, n, z)) ∧ WS K tx i Y R.2.1 S' ∧ FWc i S X Y ∧ S ≤ S' ∧ (true = true → S' = S + (codC ((nI t, nI (pN (sg tx) (pW (sg tx) w p).2).2.2, R.2.2) : Cla)).length ∧ AtS Y i S (codC ((nI t, nI (pN (sg tx) (pW (sg tx) w p).2).2.2, R.2.2) : Cla)) ∧ Y (186 + 6 * i) 3 = if nI t = 2 then nI (pN (sg tx) (pW (sg tx) w p).2).2.2 else X (186 + 6 * i) 3) := by
              intro a ha hat L1 L2 eE
              refine ⟨_, S' + 1, eE, WS_add wY hS, FWc_of (FW_trans fXY FW_add b2), by omega, fun _ => ?_⟩
              have n2 : ¬ nI t = 2 := fun q => by have := (nI_eq (b := 2) (by omega) (by decide)).mp q; omega
              have ec : codC ((nI t, nI (pN (sg tx) (pW (sg tx) w p).2).2.2, R.2.2) : Cla) = R.2.2.map stp1 ++ [(nI a, 32, nI (pN (sg tx) (pW (sg tx) w p).2).2.2)] := by
                unfold codC
                rw [if_neg n2]
                show R.2.2.map stp1 ++ [((if nI t = 0 then (43 : Int32) else 45), (32 : Int32), _)] = _
                rcases hat with ⟨rfl, rfl⟩ | ⟨rfl, rfl⟩
                · rw [if_pos (show nI 0 = 0 from rfl)]; rfl
                · rw [if_neg (show ¬ nI 1 = 0 by decide)]; rfl
              rw [ec, List.length_append, List.length_map, if_neg n2]
              refine ⟨by show S' + 1 = S + (R.2.2.length + 1); omega, AtS_join (AtS_keep (S := S') FW_add o2 (by rw [List.length_map]; omega)) ?_, ?_⟩
              · rw [List.length_map, ← o1]
                exact At_add
              · exact (FW_add (i := i) (S := S') (X := Y)).2.1.trans fXY.2.1
            rcases hq with ⟨rfl, rfl, _, _⟩ | ⟨rfl, rfl, _, _⟩
            · have ea := w_add (n := n) (z := z) (a := 45) (l := 32) (v := nI (pN (sg tx) (pW (sg tx) w p).2).2.2) wY hS (by decide) (by decide)
              rw [e32] at ea
              refine fin 45 (by decide) (Or.inr ⟨rfl, rfl⟩) _ _ ?_
              rw [e45] at ea ⊢
              simp (decide := true) only [pX10_readClause_0, pX10_readClause_1, pX10_readClause_4, pX10_readClause_6, pX10_readClause_9, pX10_readClause_10, pX10_readClause_12, pX10_readClause_15, pX10_readClause_18, pX10_readClause_19, pX10_readClause_22, pX10_readClause_25, pX10_readClause_26, pX10_readClause_26t, pX10_readClause_26f, pX10_readClause_27, pX10_readClause_28, pX10_readClause_29, pX10_readClause_32, pX10_readClause_35, pX10_readClause_36, pX10_readClause_36t, pX10_readClause_36f, pX10_readClause_37, pX10_readClause_38, pX10_readClause_41, pX10_readClause_42, pX10_readClause_43, pX10_readClause_44, pX10_readClause_47, pX10_readClause_48, pX10_readClause_51, pX10_readClause_52, pX10_readClause_55, pX10_readClause_56, pX10_readClause_59, pX10_readClause_60, pX10_readClause_61, pX10_readClause_62, pX10_readClause_64, pX10_readClause_67, pX10_readClause_68, pX10_readClause_71, pX10_readClause_72, pX10_readClause_73, pX10_readClause_74, pX10_readClause_75, pX10_readClause_78, pX10_readClause_80, pX10_readClause_83, pX10_readClause_85, pX10_readClause_88, pX10_readClause_91, pX10_readClause_92, pX10_readClause_95, pX10_readClause_98, pX10_readClause_99, pX10_readClause_99t, pX10_readClause_99f, pX10_readClause_100, pX10_readClause_101, pX10_readClause_104, pX10_readClause_105, pX10_readClause_106, pX10_readClause_108, pX10_readClause_111, pX10_readClause_114, pX10_readClause_115, pX10_readClause_116, pX10_readClause_119, pX10_readClause_122, pX10_readClause_123, pX10_readClause_123t, pX10_readClause_123f, pX10_readClause_124, pX10_readClause_125, pX10_readClause_126, pX10_readClause_129, pX10_readClause_131, pX10_readClause_134, pX10_readClause_136, pX10_readClause_138, pX10_readClause_139, pX10_readClause_142, pX10_readClause_143, pX10_readClause_143t, pX10_readClause_143f, kd_i0, kd_i1, kd_i2, kd_i3, kd_jA, kd_r5, kd_r6, kd_r7, al_i, al_j, al_r, ai_i, aj_j, aq_r, cls_o, fv_o, sti_i, stj_j, st2_s, st2_n, bnd_some, set1_same, set1_twice, wc_0 hi, wc_1 hi, wc_2 hi, wc_3 hi, wc_4 hi, wc_5 hi, ww_1 hi, ww_2 hi, ww_3 hi, ww_4 hi, ww_5 hi, wow_1 hi, wow_2 hi, wow_3 hi, wow_7 hi, wo_0, wo_1, wo_2, wo_3, wo_4, wo_5, wo_6, wo_7, wo_8, ↓reduceIte, set1_ne, ne_eq, Nat.reduceEqDiff, not_false_eq_true, not_true_eq_false, if_true, if_false, ite_Ei, bI_eq0, pk_us, ix4, cx4, ix5, cx5, ix6, cx6, ix7, cx7, ix8, cx8, ix10, cx10, ix11, cx11, ix12, cx12, ix20, cx20, ix24, cx24, ix60, cx60, ix64, cx64, ix100, cx100, ix101, cx101, ix360, cx360, ix600, cx600, en, eB2, er, eY, cxl_0, ea, bI_t, nb1]
            · have ea := w_add (n := n) (z := z) (a := 43) (l := 32) (v := nI (pN (sg tx) (pW (sg tx) w p).2).2.2) wY hS (by decide) (by decide)
              rw [e32] at ea
              refine fin 43 (by decide) (Or.inl ⟨rfl, rfl⟩) _ _ ?_
              rw [e43] at ea ⊢
              simp (decide := true) only [pX10_readClause_0, pX10_readClause_1, pX10_readClause_4, pX10_readClause_6, pX10_readClause_9, pX10_readClause_10, pX10_readClause_12, pX10_readClause_15, pX10_readClause_18, pX10_readClause_19, pX10_readClause_22, pX10_readClause_25, pX10_readClause_26, pX10_readClause_26t, pX10_readClause_26f, pX10_readClause_27, pX10_readClause_28, pX10_readClause_29, pX10_readClause_32, pX10_readClause_35, pX10_readClause_36, pX10_readClause_36t, pX10_readClause_36f, pX10_readClause_37, pX10_readClause_38, pX10_readClause_41, pX10_readClause_42, pX10_readClause_43, pX10_readClause_44, pX10_readClause_47, pX10_readClause_48, pX10_readClause_51, pX10_readClause_52, pX10_readClause_55, pX10_readClause_56, pX10_readClause_59, pX10_readClause_60, pX10_readClause_61, pX10_readClause_62, pX10_readClause_64, pX10_readClause_67, pX10_readClause_68, pX10_readClause_71, pX10_readClause_72, pX10_readClause_73, pX10_readClause_74, pX10_readClause_75, pX10_readClause_78, pX10_readClause_80, pX10_readClause_83, pX10_readClause_85, pX10_readClause_88, pX10_readClause_91, pX10_readClause_92, pX10_readClause_95, pX10_readClause_98, pX10_readClause_99, pX10_readClause_99t, pX10_readClause_99f, pX10_readClause_100, pX10_readClause_101, pX10_readClause_104, pX10_readClause_105, pX10_readClause_106, pX10_readClause_108, pX10_readClause_111, pX10_readClause_114, pX10_readClause_115, pX10_readClause_116, pX10_readClause_119, pX10_readClause_122, pX10_readClause_123, pX10_readClause_123t, pX10_readClause_123f, pX10_readClause_124, pX10_readClause_125, pX10_readClause_126, pX10_readClause_129, pX10_readClause_131, pX10_readClause_134, pX10_readClause_136, pX10_readClause_138, pX10_readClause_139, pX10_readClause_142, pX10_readClause_143, pX10_readClause_143t, pX10_readClause_143f, kd_i0, kd_i1, kd_i2, kd_i3, kd_jA, kd_r5, kd_r6, kd_r7, al_i, al_j, al_r, ai_i, aj_j, aq_r, cls_o, fv_o, sti_i, stj_j, st2_s, st2_n, bnd_some, set1_same, set1_twice, wc_0 hi, wc_1 hi, wc_2 hi, wc_3 hi, wc_4 hi, wc_5 hi, ww_1 hi, ww_2 hi, ww_3 hi, ww_4 hi, ww_5 hi, wow_1 hi, wow_2 hi, wow_3 hi, wow_7 hi, wo_0, wo_1, wo_2, wo_3, wo_4, wo_5, wo_6, wo_7, wo_8, ↓reduceIte, set1_ne, ne_eq, Nat.reduceEqDiff, not_false_eq_true, not_true_eq_false, if_true, if_false, ite_Ei, bI_eq0, pk_us, ix4, cx4, ix5, cx5, ix6, cx6, ix7, cx7, ix8, cx8, ix10, cx10, ix11, cx11, ix12, cx12, ix20, cx20, ix24, cx24, ix60, cx60, ix64, cx64, ix100, cx100, ix101, cx101, ix360, cx360, ix600, cx600, en, eB2, er, eY, cxl_0, ea, bI_t, bI_f, nb1]
        · rw [if_pos g32]
          rw [decide_eq_false g32, if_neg g32] at er
          refine ⟨Bx, S, ?_, hB, FWc_of fB, Nat.le_refl _, fun q => by cases q⟩
          simp (decide := true) only [pX10_readClause_0, pX10_readClause_1, pX10_readClause_4, pX10_readClause_6, pX10_readClause_9, pX10_readClause_10, pX10_readClause_12, pX10_readClause_15, pX10_readClause_18, pX10_readClause_19, pX10_readClause_22, pX10_readClause_25, pX10_readClause_26, pX10_readClause_26t, pX10_readClause_26f, pX10_readClause_27, pX10_readClause_28, pX10_readClause_29, pX10_readClause_32, pX10_readClause_35, pX10_readClause_36, pX10_readClause_36t, pX10_readClause_36f, pX10_readClause_37, pX10_readClause_38, pX10_readClause_41, pX10_readClause_42, pX10_readClause_43, pX10_readClause_44, pX10_readClause_47, pX10_readClause_48, pX10_readClause_51, pX10_readClause_52, pX10_readClause_55, pX10_readClause_56, pX10_readClause_59, pX10_readClause_60, pX10_readClause_61, pX10_readClause_62, pX10_readClause_64, pX10_readClause_67, pX10_readClause_68, pX10_readClause_71, pX10_readClause_72, pX10_readClause_73, pX10_readClause_74, pX10_readClause_75, pX10_readClause_78, pX10_readClause_80, pX10_readClause_83, pX10_readClause_85, pX10_readClause_88, pX10_readClause_91, pX10_readClause_92, pX10_readClause_95, pX10_readClause_98, pX10_readClause_99, pX10_readClause_99t, pX10_readClause_99f, pX10_readClause_100, pX10_readClause_101, pX10_readClause_104, pX10_readClause_105, pX10_readClause_106, pX10_readClause_108, pX10_readClause_111, pX10_readClause_114, pX10_readClause_115, pX10_readClause_116, pX10_readClause_119, pX10_readClause_122, pX10_readClause_123, pX10_readClause_123t, pX10_readClause_123f, pX10_readClause_124, pX10_readClause_125, pX10_readClause_126, pX10_readClause_129, pX10_readClause_131, pX10_readClause_134, pX10_readClause_136, pX10_readClause_138, pX10_readClause_139, pX10_readClause_142, pX10_readClause_143, pX10_readClause_143t, pX10_readClause_143f, kd_i0, kd_i1, kd_i2, kd_i3, kd_jA, kd_r5, kd_r6, kd_r7, al_i, al_j, al_r, ai_i, aj_j, aq_r, cls_o, fv_o, sti_i, stj_j, st2_s, st2_n, bnd_some, set1_same, set1_twice, wc_0 hi, wc_1 hi, wc_2 hi, wc_3 hi, wc_4 hi, wc_5 hi, ww_1 hi, ww_2 hi, ww_3 hi, ww_4 hi, ww_5 hi, wow_1 hi, wow_2 hi, wow_3 hi, wow_7 hi, wo_0, wo_1, wo_2, wo_3, wo_4, wo_5, wo_6, wo_7, wo_8, ↓reduceIte, set1_ne, ne_eq, Nat.reduceEqDiff, not_false_eq_true, not_true_eq_false, if_true, if_false, ite_Ei, bI_eq0, pk_us, ix4, cx4, ix5, cx5, ix6, cx6, ix7, cx7, ix8, cx8, ix10, cx10, ix11, cx11, ix12, cx12, ix20, cx20, ix24, cx24, ix60, cx60, ix64, cx64, ix100, cx100, ix101, cx101, ix360, cx360, ix600, cx600, en, eB2, er, bI_t, bI_f, nb0]
end CLA
theorem pclx {tx : List Int32} (ht : tOk tx) {p : Nat} (hp0 : p ≤ tx.length) : ∃ R : PC, CC tx p R ∧ RC tx p R ∧ (R.1 = true → p < R.2.1 ∧ R.2.1 ≤ tx.length ∧ wfc R.2.2) := by
  have key : ∀ (t : Nat) (w : List Int32), (t = 2 ∧ sg tx p = 114 ∧ w = wdR ∨ t = 1 ∧ ¬ sg tx p = 114 ∧ sg tx (p + 1) = 104 ∧ w = wdS ∨ t = 0 ∧ ¬ sg tx p = 114 ∧ ¬ sg tx (p + 1) = 104 ∧ w = wdU) → (∀ c, c ∈ w → c ≠ -1) → ∃ R : PC, CC tx p R ∧ RC tx p R ∧ (R.1 = true → p < R.2.1 ∧ R.2.1 ≤ tx.length ∧ wfc R.2.2) := by
    intro t w hw hwn
    have wl := pW_len (tx := tx) w p hwn hp0
    have wle := pW_le (sg tx) w p
    have nle := pN_le (g := sg tx) (p := (pW (sg tx) w p).2)
    have nlen := pN_len (tx := tx) (p := (pW (sg tx) w p).2) wl
    have ht3 : t < 3 := by rcases hw with ⟨a, _⟩ | ⟨a, _⟩ | ⟨a, _⟩ <;> omega
    by_cases g : t ≠ 2 ∧ (pN (sg tx) (pW (sg tx) w p).2).1 = true ∧ sg tx (pN (sg tx) (pW (sg tx) w p).2).2.1 = 32
    · have hlt := sg_len g.2.2 (by decide)
      obtain ⟨R, c1, c2, c3, c4⟩ := (pex ht _ ((pN (sg tx) (pW (sg tx) w p).2).2.1 + 1) rfl (by omega) 0 (by decide)).2.2.2.2
      refine ⟨pCl tx t w p R, C_cl hw hp0 hwn (fun _ _ _ => c1), R_cl hw hp0 hwn (fun _ _ _ => ⟨c2, c3, fun q => (c4 q).2⟩), ?_⟩
      intro q
      unfold pCl at q ⊢
      have g32 : ¬ ¬ sg tx (pN (sg tx) (pW (sg tx) w p).2).2.1 = 32 := fun a => a g.2.2
      have htf : ¬ true = false := by decide
      cases hb1 : (pW (sg tx) w p).1 with
      | false => rw [hb1, if_pos rfl] at q; cases q
      | true =>
        rw [hb1, if_neg htf, g.2.1, if_neg htf, if_neg g.1, if_neg g32] at q
        rw [if_neg htf, g.2.1, if_neg htf, if_neg g.1, if_neg g32]
        cases hb3 : R.1 with
        | false => rw [hb3, if_pos rfl] at q; cases q
        | true =>
          rw [if_neg htf]
          obtain ⟨d1, d2, _⟩ := c4 hb3
          obtain ⟨a1, a2⟩ := c3 hb3
          refine ⟨by show p < R.2.1; omega, d2, Or.inr ⟨?_, ?_, a1⟩⟩
          · show nI t = 0 ∨ nI t = 1
            have : t = 0 ∨ t = 1 := by have := g.1; omega
            rcases this with q | q
            · rw [q]; exact Or.inl rfl
            · rw [q]; exact Or.inr rfl
          · have := a2 0 [] (by omega) rfl
            rwa [List.append_nil] at this
    · have vac : ∀ {A : Prop}, t ≠ 2 → (pN (sg tx) (pW (sg tx) w p).2).1 = true → sg tx (pN (sg tx) (pW (sg tx) w p).2).2.1 = 32 → A := fun a b c => absurd ⟨a, b, c⟩ g
      refine ⟨pCl tx t w p (false, 0, []), C_cl hw hp0 hwn (fun a b c => vac a b c), R_cl hw hp0 hwn (fun a b c => vac a b c), ?_⟩
      intro q
      unfold pCl at q ⊢
      have htf : ¬ true = false := by decide
      cases hb1 : (pW (sg tx) w p).1 with
      | false => rw [hb1, if_pos rfl] at q; cases q
      | true =>
        have w1 := wle.2 hb1
        rw [hb1, if_neg htf] at q
        rw [if_neg htf]
        cases hb2 : (pN (sg tx) (pW (sg tx) w p).2).1 with
        | false => rw [hb2, if_pos rfl] at q; cases q
        | true =>
          rw [hb2, if_neg htf] at q
          rw [if_neg htf]
          by_cases t2 : t = 2
          · rw [if_pos t2]
            exact ⟨by show p < (pN (sg tx) (pW (sg tx) w p).2).2.1; omega, nlen, Or.inl rfl⟩
          · rw [if_neg t2] at q
            have g32 : ¬ sg tx (pN (sg tx) (pW (sg tx) w p).2).2.1 = 32 := fun a => g ⟨t2, hb2, a⟩
            rw [if_pos g32] at q
            cases q
  by_cases q : sg tx p = 114
  · exact key 2 wdR (Or.inl ⟨rfl, q, rfl⟩) wdR_n
  · by_cases q2 : sg tx (p + 1) = 104
    · exact key 1 wdS (Or.inr (Or.inl ⟨rfl, q, q2, rfl⟩)) wdS_n
    · exact key 0 wdU (Or.inr (Or.inr ⟨rfl, q, q2, rfl⟩)) wdU_n
