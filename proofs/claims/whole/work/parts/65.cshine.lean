/-! The class: shine, light. -/
section SHINE
variable {K : KT} {X : Nat → Nat → Int32} {n z t p i j S : Nat} {T : TR}
/-- ! -/
theorem s_not {b : Int32} {r : List Int32} {l5 : Value} (hi : i < kM K) (hS : X (186 + 6 * i) 7 = nI S) (hj : j < S) (hl : S ≤ kW K i) (h100 : kW K i ≤ 100) (h1 : X (186 + 6 * i + 3) j = 33) (hr : r.length < 11) (hb : X (186 + 6 * i + 2) r.length = b) :
    E 3 mX10_shine 5 [.ref (186 + 6 * i), .ref t, .int (nI p), .int (nI r.length), .int (nI j), l5] [] (hp K X, n, z) = E 3 mX10_shine 5 [.ref (186 + 6 * i), .ref t, .int (nI p), .int (nI r.length), .int (nI (j + 1)), .int 33] [] (hp K (set1 X (186 + 6 * i + 2) (upd (X (186 + 6 * i + 2)) r.length (b ^^^ 4095))), n, z) := by
  have ij : ix (nI j) (kW K i) = true := ix_nI (by omega) (by omega)
  have cj : cx (nI j) = j := cx_nI (by omega)
  have hs : ¬ nI S ≤ nI j := nI_ge hj (by omega)
  have h0 : ¬ nI r.length < 0 := nI_pos (by omega)
  rw [pX10_shine_5]
  simp (decide := true) only [pX10_shine_0, pX10_shine_1, pX10_shine_2, pX10_shine_3, pX10_shine_7, pX10_shine_8, pX10_shine_11, pX10_shine_14, pX10_shine_15, pX10_shine_18, pX10_shine_20, pX10_shine_21, pX10_shine_23, pX10_shine_25, pX10_shine_27, pX10_shine_30, pX10_shine_32, pX10_shine_34, pX10_shine_37, pX10_shine_38, pX10_shine_39, pX10_shine_42, pX10_shine_45, pX10_shine_46, pX10_shine_49, pX10_shine_50, pX10_shine_52, pX10_shine_54, pX10_shine_57, pX10_shine_58, pX10_shine_61, pX10_shine_62, pX10_shine_63, pX10_shine_64, pX10_shine_67, pX10_shine_68, pX10_shine_69, pX10_shine_70, pX10_shine_71, pX10_shine_72, pX10_shine_75, pX10_shine_76, pX10_shine_79, pX10_shine_80, pX10_shine_81, pX10_shine_82, pX10_shine_85, pX10_shine_86, pX10_shine_87, pX10_shine_88, pX10_shine_89, pX10_shine_90, pX10_shine_91, pX10_shine_94, pX10_shine_96, pX10_shine_98, pX10_shine_101, pX10_shine_102, pX10_shine_105, pX10_shine_106, pX10_shine_109, pX10_shine_110, pX10_shine_111, pX10_shine_112, pX10_shine_115, pX10_shine_116, pX10_shine_117, pX10_shine_120, pX10_shine_122, pX10_shine_124, pX10_shine_127, pX10_shine_129, pX10_shine_131, pX10_shine_134, pX10_shine_135, pX10_shine_138, pX10_shine_139, pX10_shine_142, pX10_shine_143_5, pX10_shine_143_6, pX10_shine_143_7, pX10_shine_144, pX10_shine_145, pX10_shine_148, pX10_shine_149, pX10_shine_150, pX10_shine_152, pX10_shine_154, pX10_shine_157, pX10_shine_158, pX10_shine_161, pX10_shine_163, pX10_shine_164, pX10_shine_167, pX10_shine_168, pX10_shine_171, pX10_shine_173, pX10_shine_174, pX10_shine_175, pX10_shine_178, pX10_shine_181, pX10_shine_184, pX10_shine_185, pX10_shine_186, pX10_shine_187, pX10_shine_189, pX10_shine_192, pX10_shine_195, pX10_shine_196, pX10_shine_199, pX10_shine_200, pX10_shine_201, pX10_shine_203, pX10_shine_204, pX10_shine_205, pX10_shine_208, pX10_shine_209, pX10_shine_212, pX10_shine_215, kd_i0, kd_i1, kd_i2, kd_i3, kd_jA, kd_r5, kd_r6, kd_r7, al_i, al_j, al_r, ai_i, aj_j, aq_r, cls_o, fv_o, sti_i, stj_j, st2_s, st2_n, bnd_some, set1_same, set1_twice, wc_0 hi, wc_1 hi, wc_2 hi, wc_3 hi, wc_4 hi, wc_5 hi, ww_1 hi, ww_2 hi, ww_3 hi, ww_4 hi, ww_5 hi, wow_1 hi, wow_2 hi, wow_3 hi, wow_7 hi, wo_0, wo_1, wo_2, wo_3, wo_4, wo_5, wo_6, wo_7, wo_8, ↓reduceIte, set1_ne, ne_eq, Nat.reduceEqDiff, not_false_eq_true, not_true_eq_false, if_true, if_false, ite_Ei, bI_eq0, pk_us, ix4, cx4, ix5, cx5, ix6, cx6, ix7, cx7, ix8, cx8, ix10, cx10, ix11, cx11, ix12, cx12, ix20, cx20, ix24, cx24, ix60, cx60, ix64, cx64, ix100, cx100, ix101, cx101, ix360, cx360, ix600, cx600, hS, hs, ij, cj, h1, h0, hr, hb, nI_1]
/-- & or | -/
theorem s_bin2 {a b : Int32} {r : List Int32} {l5 : Value} {c : Int32} (hc : c = 38 ∨ c = 124) (hi : i < kM K) (hS : X (186 + 6 * i) 7 = nI S) (hj : j < S) (hl : S ≤ kW K i) (h100 : kW K i ≤ 100) (h1 : X (186 + 6 * i + 3) j = c) (hr : r.length + 1 < 11) (hb : X (186 + 6 * i + 2) (r.length + 1) = b) (ha : X (186 + 6 * i + 2) r.length = a) :
    E 3 mX10_shine 5 [.ref (186 + 6 * i), .ref t, .int (nI p), .int (nI (r.length + 1)), .int (nI j), l5] [] (hp K X, n, z) = E 3 mX10_shine 5 [.ref (186 + 6 * i), .ref t, .int (nI p), .int (nI r.length), .int (nI (j + 1)), .int c] [] (hp K (set1 X (186 + 6 * i + 2) (upd (X (186 + 6 * i + 2)) r.length (if c = 38 then a &&& b else a ||| b))), n, z) := by
  have ij : ix (nI j) (kW K i) = true := ix_nI (by omega) (by omega)
  have cj : cx (nI j) = j := cx_nI (by omega)
  have hs : ¬ nI S ≤ nI j := nI_ge hj (by omega)
  have h0 : ¬ nI (r.length + 1) < 1 := nI_nlt (a := r.length + 1) (b := 1) (by omega) (by omega)
  have e0 : nI (r.length + 1) + (-1) = nI r.length := pk_m1 _
  have hr0 : r.length < 11 := by omega
  rw [pX10_shine_5]
  rcases hc with rfl | rfl
  · simp (decide := true) only [pX10_shine_0, pX10_shine_1, pX10_shine_2, pX10_shine_3, pX10_shine_7, pX10_shine_8, pX10_shine_11, pX10_shine_14, pX10_shine_15, pX10_shine_18, pX10_shine_20, pX10_shine_21, pX10_shine_23, pX10_shine_25, pX10_shine_27, pX10_shine_30, pX10_shine_32, pX10_shine_34, pX10_shine_37, pX10_shine_38, pX10_shine_39, pX10_shine_42, pX10_shine_45, pX10_shine_46, pX10_shine_49, pX10_shine_50, pX10_shine_52, pX10_shine_54, pX10_shine_57, pX10_shine_58, pX10_shine_61, pX10_shine_62, pX10_shine_63, pX10_shine_64, pX10_shine_67, pX10_shine_68, pX10_shine_69, pX10_shine_70, pX10_shine_71, pX10_shine_72, pX10_shine_75, pX10_shine_76, pX10_shine_79, pX10_shine_80, pX10_shine_81, pX10_shine_82, pX10_shine_85, pX10_shine_86, pX10_shine_87, pX10_shine_88, pX10_shine_89, pX10_shine_90, pX10_shine_91, pX10_shine_94, pX10_shine_96, pX10_shine_98, pX10_shine_101, pX10_shine_102, pX10_shine_105, pX10_shine_106, pX10_shine_109, pX10_shine_110, pX10_shine_111, pX10_shine_112, pX10_shine_115, pX10_shine_116, pX10_shine_117, pX10_shine_120, pX10_shine_122, pX10_shine_124, pX10_shine_127, pX10_shine_129, pX10_shine_131, pX10_shine_134, pX10_shine_135, pX10_shine_138, pX10_shine_139, pX10_shine_142, pX10_shine_143_5, pX10_shine_143_6, pX10_shine_143_7, pX10_shine_144, pX10_shine_145, pX10_shine_148, pX10_shine_149, pX10_shine_150, pX10_shine_152, pX10_shine_154, pX10_shine_157, pX10_shine_158, pX10_shine_161, pX10_shine_163, pX10_shine_164, pX10_shine_167, pX10_shine_168, pX10_shine_171, pX10_shine_173, pX10_shine_174, pX10_shine_175, pX10_shine_178, pX10_shine_181, pX10_shine_184, pX10_shine_185, pX10_shine_186, pX10_shine_187, pX10_shine_189, pX10_shine_192, pX10_shine_195, pX10_shine_196, pX10_shine_199, pX10_shine_200, pX10_shine_201, pX10_shine_203, pX10_shine_204, pX10_shine_205, pX10_shine_208, pX10_shine_209, pX10_shine_212, pX10_shine_215, kd_i0, kd_i1, kd_i2, kd_i3, kd_jA, kd_r5, kd_r6, kd_r7, al_i, al_j, al_r, ai_i, aj_j, aq_r, cls_o, fv_o, sti_i, stj_j, st2_s, st2_n, bnd_some, set1_same, set1_twice, wc_0 hi, wc_1 hi, wc_2 hi, wc_3 hi, wc_4 hi, wc_5 hi, ww_1 hi, ww_2 hi, ww_3 hi, ww_4 hi, ww_5 hi, wow_1 hi, wow_2 hi, wow_3 hi, wow_7 hi, wo_0, wo_1, wo_2, wo_3, wo_4, wo_5, wo_6, wo_7, wo_8, ↓reduceIte, set1_ne, ne_eq, Nat.reduceEqDiff, not_false_eq_true, not_true_eq_false, if_true, if_false, ite_Ei, bI_eq0, pk_us, ix4, cx4, ix5, cx5, ix6, cx6, ix7, cx7, ix8, cx8, ix10, cx10, ix11, cx11, ix12, cx12, ix20, cx20, ix24, cx24, ix60, cx60, ix64, cx64, ix100, cx100, ix101, cx101, ix360, cx360, ix600, cx600, hS, hs, ij, cj, h1, h0, e0, hr, hr0, hb, ha, nI_1]
  · simp (decide := true) only [pX10_shine_0, pX10_shine_1, pX10_shine_2, pX10_shine_3, pX10_shine_7, pX10_shine_8, pX10_shine_11, pX10_shine_14, pX10_shine_15, pX10_shine_18, pX10_shine_20, pX10_shine_21, pX10_shine_23, pX10_shine_25, pX10_shine_27, pX10_shine_30, pX10_shine_32, pX10_shine_34, pX10_shine_37, pX10_shine_38, pX10_shine_39, pX10_shine_42, pX10_shine_45, pX10_shine_46, pX10_shine_49, pX10_shine_50, pX10_shine_52, pX10_shine_54, pX10_shine_57, pX10_shine_58, pX10_shine_61, pX10_shine_62, pX10_shine_63, pX10_shine_64, pX10_shine_67, pX10_shine_68, pX10_shine_69, pX10_shine_70, pX10_shine_71, pX10_shine_72, pX10_shine_75, pX10_shine_76, pX10_shine_79, pX10_shine_80, pX10_shine_81, pX10_shine_82, pX10_shine_85, pX10_shine_86, pX10_shine_87, pX10_shine_88, pX10_shine_89, pX10_shine_90, pX10_shine_91, pX10_shine_94, pX10_shine_96, pX10_shine_98, pX10_shine_101, pX10_shine_102, pX10_shine_105, pX10_shine_106, pX10_shine_109, pX10_shine_110, pX10_shine_111, pX10_shine_112, pX10_shine_115, pX10_shine_116, pX10_shine_117, pX10_shine_120, pX10_shine_122, pX10_shine_124, pX10_shine_127, pX10_shine_129, pX10_shine_131, pX10_shine_134, pX10_shine_135, pX10_shine_138, pX10_shine_139, pX10_shine_142, pX10_shine_143_5, pX10_shine_143_6, pX10_shine_143_7, pX10_shine_144, pX10_shine_145, pX10_shine_148, pX10_shine_149, pX10_shine_150, pX10_shine_152, pX10_shine_154, pX10_shine_157, pX10_shine_158, pX10_shine_161, pX10_shine_163, pX10_shine_164, pX10_shine_167, pX10_shine_168, pX10_shine_171, pX10_shine_173, pX10_shine_174, pX10_shine_175, pX10_shine_178, pX10_shine_181, pX10_shine_184, pX10_shine_185, pX10_shine_186, pX10_shine_187, pX10_shine_189, pX10_shine_192, pX10_shine_195, pX10_shine_196, pX10_shine_199, pX10_shine_200, pX10_shine_201, pX10_shine_203, pX10_shine_204, pX10_shine_205, pX10_shine_208, pX10_shine_209, pX10_shine_212, pX10_shine_215, kd_i0, kd_i1, kd_i2, kd_i3, kd_jA, kd_r5, kd_r6, kd_r7, al_i, al_j, al_r, ai_i, aj_j, aq_r, cls_o, fv_o, sti_i, stj_j, st2_s, st2_n, bnd_some, set1_same, set1_twice, wc_0 hi, wc_1 hi, wc_2 hi, wc_3 hi, wc_4 hi, wc_5 hi, ww_1 hi, ww_2 hi, ww_3 hi, ww_4 hi, ww_5 hi, wow_1 hi, wow_2 hi, wow_3 hi, wow_7 hi, wo_0, wo_1, wo_2, wo_3, wo_4, wo_5, wo_6, wo_7, wo_8, ↓reduceIte, set1_ne, ne_eq, Nat.reduceEqDiff, not_false_eq_true, not_true_eq_false, if_true, if_false, ite_Ei, bI_eq0, pk_us, ix4, cx4, ix5, cx5, ix6, cx6, ix7, cx7, ix8, cx8, ix10, cx10, ix11, cx11, ix12, cx12, ix20, cx20, ix24, cx24, ix60, cx60, ix64, cx64, ix100, cx100, ix101, cx101, ix360, cx360, ix600, cx600, hS, hs, ij, cj, h1, h0, e0, hr, hr0, hb, ha, nI_1]
/-- a test -/
theorem s_tst {k : Nat} {l5 : Value} {f r m : Nat} (hi : i < kM K) (ht : isT t) (hC : CT K X t T) (hpn : p < tN T) (hf : f < 6) (hr : r < 3) (hm : m < 100) (hS : X (186 + 6 * i) 7 = nI S) (hj : j < S) (hl : S ≤ kW K i) (h100 : kW K i ≤ 100) (hk : k < 11)
    (h1 : X (186 + 6 * i + 3) j = (stp1 (nI (1000 * f + 100 * r + m))).1) (h2 : X (186 + 6 * i + 4) j = (stp1 (nI (1000 * f + 100 * r + m))).2.1) (h3 : X (186 + 6 * i + 5) j = (stp1 (nI (1000 * f + 100 * r + m))).2.2) :
    ∃ l5', E 3 mX10_shine 5 [.ref (186 + 6 * i), .ref t, .int (nI p), .int (tp k), .int (nI j), l5] [] (hp K X, n, z) = E 3 mX10_shine 5 [.ref (186 + 6 * i), .ref t, .int (nI p), .int (nI k), .int (nI (j + 1)), l5'] [] (hp K (set1 X (186 + 6 * i + 2) (upd (X (186 + 6 * i + 2)) k (mskT T p (nI (1000 * f + 100 * r + m))))), n, z) := by
  have ij : ix (nI j) (kW K i) = true := ix_nI (by omega) (by omega)
  have cj : cx (nI j) = j := cx_nI (by omega)
  have hs : ¬ nI S ≤ nI j := nI_ge hj (by omega)
  have e0 : tp k + 1 = nI k := by
    match k with
    | 0 => rfl
    | k + 1 => exact nI_1 k
  have h11 : ¬ (11 : Int32) ≤ nI k := nI_ge (a := k) (b := 11) hk (by omega)
  have td := d_tested (K := K) (X := X) (n := n) (z := z) hi ht hC hpn hf hr hm (j := j) (by omega) h100 h1 h2 h3
  obtain ⟨c, hc, hcs⟩ : ∃ c, X (186 + 6 * i + 3) j = c ∧ (c = 104 ∨ c = 60 ∨ c = 61 ∨ c = 62) := by
    refine ⟨_, h1, ?_⟩
    obtain ⟨g0, g1, g2, g3⟩ := sg_parts hf hr hm
    unfold stp1
    rw [if_neg g0, g1, g2, g3]
    by_cases f3 : nI f = 3
    · rw [if_pos f3]; exact Or.inl rfl
    · rw [if_neg f3]
      right
      have : r = 0 ∨ r = 1 ∨ r = 2 := by omega
      rcases this with rfl | rfl | rfl
      · exact Or.inl (show (60 : Int32) + nI 0 = 60 by decide)
      · exact Or.inr (Or.inl (show (60 : Int32) + nI 1 = 61 by decide))
      · exact Or.inr (Or.inr (show (60 : Int32) + nI 2 = 62 by decide))
  refine ⟨.int c, ?_⟩
  rw [pX10_shine_5]
  rcases hcs with rfl | rfl | rfl | rfl <;> simp (decide := true) only [pX10_shine_0, pX10_shine_1, pX10_shine_2, pX10_shine_3, pX10_shine_7, pX10_shine_8, pX10_shine_11, pX10_shine_14, pX10_shine_15, pX10_shine_18, pX10_shine_20, pX10_shine_21, pX10_shine_23, pX10_shine_25, pX10_shine_27, pX10_shine_30, pX10_shine_32, pX10_shine_34, pX10_shine_37, pX10_shine_38, pX10_shine_39, pX10_shine_42, pX10_shine_45, pX10_shine_46, pX10_shine_49, pX10_shine_50, pX10_shine_52, pX10_shine_54, pX10_shine_57, pX10_shine_58, pX10_shine_61, pX10_shine_62, pX10_shine_63, pX10_shine_64, pX10_shine_67, pX10_shine_68, pX10_shine_69, pX10_shine_70, pX10_shine_71, pX10_shine_72, pX10_shine_75, pX10_shine_76, pX10_shine_79, pX10_shine_80, pX10_shine_81, pX10_shine_82, pX10_shine_85, pX10_shine_86, pX10_shine_87, pX10_shine_88, pX10_shine_89, pX10_shine_90, pX10_shine_91, pX10_shine_94, pX10_shine_96, pX10_shine_98, pX10_shine_101, pX10_shine_102, pX10_shine_105, pX10_shine_106, pX10_shine_109, pX10_shine_110, pX10_shine_111, pX10_shine_112, pX10_shine_115, pX10_shine_116, pX10_shine_117, pX10_shine_120, pX10_shine_122, pX10_shine_124, pX10_shine_127, pX10_shine_129, pX10_shine_131, pX10_shine_134, pX10_shine_135, pX10_shine_138, pX10_shine_139, pX10_shine_142, pX10_shine_143_5, pX10_shine_143_6, pX10_shine_143_7, pX10_shine_144, pX10_shine_145, pX10_shine_148, pX10_shine_149, pX10_shine_150, pX10_shine_152, pX10_shine_154, pX10_shine_157, pX10_shine_158, pX10_shine_161, pX10_shine_163, pX10_shine_164, pX10_shine_167, pX10_shine_168, pX10_shine_171, pX10_shine_173, pX10_shine_174, pX10_shine_175, pX10_shine_178, pX10_shine_181, pX10_shine_184, pX10_shine_185, pX10_shine_186, pX10_shine_187, pX10_shine_189, pX10_shine_192, pX10_shine_195, pX10_shine_196, pX10_shine_199, pX10_shine_200, pX10_shine_201, pX10_shine_203, pX10_shine_204, pX10_shine_205, pX10_shine_208, pX10_shine_209, pX10_shine_212, pX10_shine_215, kd_i0, kd_i1, kd_i2, kd_i3, kd_jA, kd_r5, kd_r6, kd_r7, al_i, al_j, al_r, ai_i, aj_j, aq_r, cls_o, fv_o, sti_i, stj_j, st2_s, st2_n, bnd_some, set1_same, set1_twice, wc_0 hi, wc_1 hi, wc_2 hi, wc_3 hi, wc_4 hi, wc_5 hi, ww_1 hi, ww_2 hi, ww_3 hi, ww_4 hi, ww_5 hi, wow_1 hi, wow_2 hi, wow_3 hi, wow_7 hi, wo_0, wo_1, wo_2, wo_3, wo_4, wo_5, wo_6, wo_7, wo_8, ↓reduceIte, set1_ne, ne_eq, Nat.reduceEqDiff, not_false_eq_true, not_true_eq_false, if_true, if_false, ite_Ei, bI_eq0, pk_us, ix4, cx4, ix5, cx5, ix6, cx6, ix7, cx7, ix8, cx8, ix10, cx10, ix11, cx11, ix12, cx12, ix20, cx20, ix24, cx24, ix60, cx60, ix64, cx64, ix100, cx100, ix101, cx101, ix360, cx360, ix600, cx600, hS, hs, ij, cj, hc, h11, e0, hk, td, nI_1]
/-- the end of a clause -/
theorem s_end {m x : Int32} {l5 : Value} {c : Int32} (hc : c = 43 ∨ c = 45) (hi : i < kM K) (ht : isT t) (hp6 : p < 6) (hS : X (186 + 6 * i) 7 = nI S) (hj : j < S) (hl : S ≤ kW K i) (h100 : kW K i ≤ 100) (h1 : X (186 + 6 * i + 3) j = c) (h3 : X (186 + 6 * i + 5) j = x) (hb : X (186 + 6 * i + 2) 0 = m) :
    ∃ f l5', E 3 mX10_shine 5 [.ref (186 + 6 * i), .ref t, .int (nI p), .int 0, .int (nI j), l5] [] (hp K X, n, z) = E 3 mX10_shine 5 [.ref (186 + 6 * i), .ref t, .int (nI p), .int (-1), .int (nI (j + 1)), l5'] [] (hp K (set1 X (t + 25 + p) f), n, z) ∧ ∀ h, h < 12 → f h = if hasb m (nI h) = true then X (t + 25 + p) h + (if c = 43 then x else -x) else X (t + 25 + p) h := by
  have ij : ix (nI j) (kW K i) = true := ix_nI (by omega) (by omega)
  have cj : cx (nI j) = j := cx_nI (by omega)
  have hs : ¬ nI S ≤ nI j := nI_ge hj (by omega)
  obtain ⟨f, e, hf⟩ := d_addAt (K := K) (X := X) (n := n) (z := z) (m := m) (x := if c = 43 then x else -x) (ts_s ht hp6)
  refine ⟨f, .int c, ?_, hf⟩
  rw [pX10_shine_5]
  have c0 : cx 0 = 0 := by decide
  have c1 : (0 : Int32) + -1 = -1 := by decide
  rcases hc with rfl | rfl
  · rw [if_pos rfl] at e
    simp (decide := true) only [pX10_shine_0, pX10_shine_1, pX10_shine_2, pX10_shine_3, pX10_shine_7, pX10_shine_8, pX10_shine_11, pX10_shine_14, pX10_shine_15, pX10_shine_18, pX10_shine_20, pX10_shine_21, pX10_shine_23, pX10_shine_25, pX10_shine_27, pX10_shine_30, pX10_shine_32, pX10_shine_34, pX10_shine_37, pX10_shine_38, pX10_shine_39, pX10_shine_42, pX10_shine_45, pX10_shine_46, pX10_shine_49, pX10_shine_50, pX10_shine_52, pX10_shine_54, pX10_shine_57, pX10_shine_58, pX10_shine_61, pX10_shine_62, pX10_shine_63, pX10_shine_64, pX10_shine_67, pX10_shine_68, pX10_shine_69, pX10_shine_70, pX10_shine_71, pX10_shine_72, pX10_shine_75, pX10_shine_76, pX10_shine_79, pX10_shine_80, pX10_shine_81, pX10_shine_82, pX10_shine_85, pX10_shine_86, pX10_shine_87, pX10_shine_88, pX10_shine_89, pX10_shine_90, pX10_shine_91, pX10_shine_94, pX10_shine_96, pX10_shine_98, pX10_shine_101, pX10_shine_102, pX10_shine_105, pX10_shine_106, pX10_shine_109, pX10_shine_110, pX10_shine_111, pX10_shine_112, pX10_shine_115, pX10_shine_116, pX10_shine_117, pX10_shine_120, pX10_shine_122, pX10_shine_124, pX10_shine_127, pX10_shine_129, pX10_shine_131, pX10_shine_134, pX10_shine_135, pX10_shine_138, pX10_shine_139, pX10_shine_142, pX10_shine_143_5, pX10_shine_143_6, pX10_shine_143_7, pX10_shine_144, pX10_shine_145, pX10_shine_148, pX10_shine_149, pX10_shine_150, pX10_shine_152, pX10_shine_154, pX10_shine_157, pX10_shine_158, pX10_shine_161, pX10_shine_163, pX10_shine_164, pX10_shine_167, pX10_shine_168, pX10_shine_171, pX10_shine_173, pX10_shine_174, pX10_shine_175, pX10_shine_178, pX10_shine_181, pX10_shine_184, pX10_shine_185, pX10_shine_186, pX10_shine_187, pX10_shine_189, pX10_shine_192, pX10_shine_195, pX10_shine_196, pX10_shine_199, pX10_shine_200, pX10_shine_201, pX10_shine_203, pX10_shine_204, pX10_shine_205, pX10_shine_208, pX10_shine_209, pX10_shine_212, pX10_shine_215, kd_i0, kd_i1, kd_i2, kd_i3, kd_jA, kd_r5, kd_r6, kd_r7, al_i, al_j, al_r, ai_i, aj_j, aq_r, cls_o, fv_o, sti_i, stj_j, st2_s, st2_n, bnd_some, set1_same, set1_twice, to_0, to_1, to_2, to_3, to_4, to_5, to_6, to_7, to_8, to_9, to_10, to_11, to_12, to_13, to_14, to_15, ro_12_0, ro_12_1, ro_12_2, ro_15_0, ro_15_1, ro_15_2, ro_18_0, ro_18_1, ro_18_2, ro_21_0, ro_21_1, ro_21_2, va_rfs, wc_0 hi, wc_1 hi, wc_2 hi, wc_3 hi, wc_4 hi, wc_5 hi, ww_1 hi, ww_2 hi, ww_3 hi, ww_4 hi, ww_5 hi, wow_1 hi, wow_2 hi, wow_3 hi, wow_7 hi, wo_0, wo_1, wo_2, wo_3, wo_4, wo_5, wo_6, wo_7, wo_8, tc_0 ht, tc_1 ht, tw_1 ht, tc_2 ht, tw_2 ht, tc_3 ht, tw_3 ht, tc_4 ht, tw_4 ht, tc_5 ht, tc_12 ht, tc_13 ht, tw_13 ht, tc_14 ht, tw_14 ht, tc_15 ht, tc_16 ht, tw_16 ht, tc_17 ht, tw_17 ht, tc_18 ht, tc_19 ht, tw_19 ht, tc_20 ht, tw_20 ht, tc_21 ht, tc_22 ht, tw_22 ht, tc_23 ht, tw_23 ht, tc_24 ht, tc_31 ht, tw_31 ht, tc_r ht, tw_r ht, tc_s ht, tw_s ht, tow_1 ht, tow_2 ht, tow_3 ht, tow_4 ht, row_12 ht, row_15 ht, row_18 ht, row_21 ht, ↓reduceIte, set1_ne, ne_eq, Nat.reduceEqDiff, not_false_eq_true, not_true_eq_false, if_true, if_false, ite_Ei, bI_eq0, pk_us, ix4, cx4, ix5, cx5, ix6, cx6, ix7, cx7, ix8, cx8, ix10, cx10, ix11, cx11, ix12, cx12, ix20, cx20, ix24, cx24, ix60, cx60, ix64, cx64, ix100, cx100, ix101, cx101, ix360, cx360, ix600, cx600, hS, hs, ij, cj, h1, h3, hb, hp6, c0, c1, e, nI_1]
  · rw [if_neg (by decide)] at e
    simp (decide := true) only [pX10_shine_0, pX10_shine_1, pX10_shine_2, pX10_shine_3, pX10_shine_7, pX10_shine_8, pX10_shine_11, pX10_shine_14, pX10_shine_15, pX10_shine_18, pX10_shine_20, pX10_shine_21, pX10_shine_23, pX10_shine_25, pX10_shine_27, pX10_shine_30, pX10_shine_32, pX10_shine_34, pX10_shine_37, pX10_shine_38, pX10_shine_39, pX10_shine_42, pX10_shine_45, pX10_shine_46, pX10_shine_49, pX10_shine_50, pX10_shine_52, pX10_shine_54, pX10_shine_57, pX10_shine_58, pX10_shine_61, pX10_shine_62, pX10_shine_63, pX10_shine_64, pX10_shine_67, pX10_shine_68, pX10_shine_69, pX10_shine_70, pX10_shine_71, pX10_shine_72, pX10_shine_75, pX10_shine_76, pX10_shine_79, pX10_shine_80, pX10_shine_81, pX10_shine_82, pX10_shine_85, pX10_shine_86, pX10_shine_87, pX10_shine_88, pX10_shine_89, pX10_shine_90, pX10_shine_91, pX10_shine_94, pX10_shine_96, pX10_shine_98, pX10_shine_101, pX10_shine_102, pX10_shine_105, pX10_shine_106, pX10_shine_109, pX10_shine_110, pX10_shine_111, pX10_shine_112, pX10_shine_115, pX10_shine_116, pX10_shine_117, pX10_shine_120, pX10_shine_122, pX10_shine_124, pX10_shine_127, pX10_shine_129, pX10_shine_131, pX10_shine_134, pX10_shine_135, pX10_shine_138, pX10_shine_139, pX10_shine_142, pX10_shine_143_5, pX10_shine_143_6, pX10_shine_143_7, pX10_shine_144, pX10_shine_145, pX10_shine_148, pX10_shine_149, pX10_shine_150, pX10_shine_152, pX10_shine_154, pX10_shine_157, pX10_shine_158, pX10_shine_161, pX10_shine_163, pX10_shine_164, pX10_shine_167, pX10_shine_168, pX10_shine_171, pX10_shine_173, pX10_shine_174, pX10_shine_175, pX10_shine_178, pX10_shine_181, pX10_shine_184, pX10_shine_185, pX10_shine_186, pX10_shine_187, pX10_shine_189, pX10_shine_192, pX10_shine_195, pX10_shine_196, pX10_shine_199, pX10_shine_200, pX10_shine_201, pX10_shine_203, pX10_shine_204, pX10_shine_205, pX10_shine_208, pX10_shine_209, pX10_shine_212, pX10_shine_215, kd_i0, kd_i1, kd_i2, kd_i3, kd_jA, kd_r5, kd_r6, kd_r7, al_i, al_j, al_r, ai_i, aj_j, aq_r, cls_o, fv_o, sti_i, stj_j, st2_s, st2_n, bnd_some, set1_same, set1_twice, to_0, to_1, to_2, to_3, to_4, to_5, to_6, to_7, to_8, to_9, to_10, to_11, to_12, to_13, to_14, to_15, ro_12_0, ro_12_1, ro_12_2, ro_15_0, ro_15_1, ro_15_2, ro_18_0, ro_18_1, ro_18_2, ro_21_0, ro_21_1, ro_21_2, va_rfs, wc_0 hi, wc_1 hi, wc_2 hi, wc_3 hi, wc_4 hi, wc_5 hi, ww_1 hi, ww_2 hi, ww_3 hi, ww_4 hi, ww_5 hi, wow_1 hi, wow_2 hi, wow_3 hi, wow_7 hi, wo_0, wo_1, wo_2, wo_3, wo_4, wo_5, wo_6, wo_7, wo_8, tc_0 ht, tc_1 ht, tw_1 ht, tc_2 ht, tw_2 ht, tc_3 ht, tw_3 ht, tc_4 ht, tw_4 ht, tc_5 ht, tc_12 ht, tc_13 ht, tw_13 ht, tc_14 ht, tw_14 ht, tc_15 ht, tc_16 ht, tw_16 ht, tc_17 ht, tw_17 ht, tc_18 ht, tc_19 ht, tw_19 ht, tc_20 ht, tw_20 ht, tc_21 ht, tc_22 ht, tw_22 ht, tc_23 ht, tw_23 ht, tc_24 ht, tc_31 ht, tw_31 ht, tc_r ht, tw_r ht, tc_s ht, tw_s ht, tow_1 ht, tow_2 ht, tow_3 ht, tow_4 ht, row_12 ht, row_15 ht, row_18 ht, row_21 ht, ↓reduceIte, set1_ne, ne_eq, Nat.reduceEqDiff, not_false_eq_true, not_true_eq_false, if_true, if_false, ite_Ei, bI_eq0, pk_us, ix4, cx4, ix5, cx5, ix6, cx6, ix7, cx7, ix8, cx8, ix10, cx10, ix11, cx11, ix12, cx12, ix20, cx20, ix24, cx24, ix60, cx60, ix64, cx64, ix100, cx100, ix101, cx101, ix360, cx360, ix600, cx600, hS, hs, ij, cj, h1, h3, hb, hp6, c0, c1, e, nI_1]
end SHINE
theorem stp1_33 : stp1 (-33) = (33, 32, 0) := by decide
theorem stp1_38 : stp1 (-38) = (38, 32, 0) := by decide
theorem stp1_124 : stp1 (-124) = (124, 32, 0) := by decide
theorem Fr1_W {X Y : Nat → Nat → Int32} {i : Nat} (f : Fr [186 + 6 * i + 2] X Y) : ∀ q, 186 ≤ q → ¬ isW q → Y q = X q := fun q h1 h2 => f q (fun m => by simp at m; apply h2; unfold isW; omega)
theorem sh_signs {K : KT} {n z t p i S : Nat} {T : TR} (hi : i < kM K) (ht : isT t) (hpn : p < tN T) (hl : S ≤ kW K i) (h100 : kW K i ≤ 100) : ∀ (l M : List Int32) (j : Nat) (l5 : Value) (X : Nat → Nat → Int32), CT K X t T → X (186 + 6 * i) 7 = nI S → wfl l M.length → (∀ t, t ∈ l → sgnOk t) → M.length ≤ 11 → plM (X (186 + 6 * i + 2)) M → AtS X i j (l.map stp1) → j + l.length ≤ S →
    ∃ Y l5', E 3 mX10_shine 5 [.ref (186 + 6 * i), .ref t, .int (nI p), .int (tp M.length), .int (nI j), l5] [] (hp K X, n, z) = E 3 mX10_shine 5 [.ref (186 + 6 * i), .ref t, .int (nI p), .int (tp (evm T p l M).length), .int (nI (j + l.length)), l5'] [] (hp K Y, n, z) ∧ Fr [186 + 6 * i + 2] X Y ∧ plM (Y (186 + 6 * i + 2)) (evm T p l M) := by
  intro l
  induction l with
  | nil => intro M j l5 X _ _ _ _ _ hM _ _; exact ⟨X, l5, rfl, Fr_refl _ _, hM⟩
  | cons s l ih =>
    intro M j l5 X hC hS hw ho h11 hM hA hjl
    have hw' := tkm_len (T := T) (p := p) hw
    simp only [List.map_cons] at hA
    simp only [List.length_cons] at hjl
    obtain ⟨a1, a2, a3⟩ := AtS_hd hA
    have hA' := AtS_tl hA
    have so := ho s List.mem_cons_self
    have go : ∀ (f : Nat → Int32) (M' : List Int32) (l5' : Value), tkm T p s M = M' → M'.length ≤ 11 → plM f M' → E 3 mX10_shine 5 [.ref (186 + 6 * i), .ref t, .int (nI p), .int (tp M.length), .int (nI j), l5] [] (hp K X, n, z) = E 3 mX10_shine 5 [.ref (186 + 6 * i), .ref t, .int (nI p), .int (tp M'.length), .int (nI (j + 1)), l5'] [] (hp K (set1 X (186 + 6 * i + 2) f), n, z) → ∃ Y l5', E 3 mX10_shine 5 [.ref (186 + 6 * i), .ref t, .int (nI p), .int (tp M.length), .int (nI j), l5] [] (hp K X, n, z) = E 3 mX10_shine 5 [.ref (186 + 6 * i), .ref t, .int (nI p), .int (tp (evm T p (s :: l) M).length), .int (nI (j + (s :: l).length)), l5'] [] (hp K Y, n, z) ∧ Fr [186 + 6 * i + 2] X Y ∧ plM (Y (186 + 6 * i + 2)) (evm T p (s :: l) M) := by
      intro f M' l5' eM hl11 hpl e
      have f1 : Fr [186 + 6 * i + 2] X (set1 X (186 + 6 * i + 2) f) := Fr_set (Fr_refl _ _) (by simp)
      have hC' : CT K (set1 X (186 + 6 * i + 2) f) t T := CT_fr (Fr1_W f1) (fun q hq => set1_ne _ _ (by have := isT_le ht; omega)) hC
      rw [eM] at hw'
      obtain ⟨Y, l6, e2, f2, h2⟩ := ih M' (j + 1) l5' (set1 X (186 + 6 * i + 2) f) hC' (by rw [set1_ne _ _ (by omega)]; exact hS) hw' (fun t ht => ho t (List.mem_cons_of_mem _ ht)) hl11 (by rw [set1_same]; exact hpl) (AtS_fr (Fr1_W f1) hA') (by omega)
      refine ⟨Y, l6, ?_, Fr_trans f1 f2, ?_⟩
      · rw [e, e2]
        show _ = E _ _ _ [_, _, _, .int (tp (evm T p l (tkm T p s M)).length), _, _] _ _
        rw [eM, List.length_cons, show j + 1 + l.length = j + (l.length + 1) by omega]
      · show plM _ (evm T p l (tkm T p s M))
        rw [eM]
        exact h2
    rcases hw with ⟨e, h1, _⟩ | ⟨hn, n3, h2, _⟩ | ⟨hn, hd, _⟩
    · subst e
      rw [stp1_33] at a1
      match M, h1, h11, hM with
      | b :: r, _, h11, hM =>
        simp only [List.length_cons] at h11
        exact go _ ((b ^^^ 4095) :: r) (.int 33) (by unfold tkm; rw [if_pos rfl]) (by simp; omega) ⟨pk_us, plM_upd (Nat.le_refl _) hM.2⟩ (s_not hi hS (by omega) hl h100 a1 (by omega) hM.1)
    · match M, h2, h11, hM with
      | b :: a :: r, _, h11, hM =>
        simp only [List.length_cons] at h11
        have hcs : s = -38 ∨ s = -124 := by
          rcases so with q | q | q | ⟨f, r, m, hf, hr, hm, q⟩
          · exact absurd q n3
          · exact Or.inl q
          · exact Or.inr q
          · exact absurd hn (by rw [q]; exact nI_pos (by omega))
        refine go _ ((if s = -38 then a &&& b else a ||| b) :: r) (.int (stp1 s).1) (by unfold tkm; rw [if_neg n3, if_pos hn]) (by simp; omega) ⟨pk_us, plM_upd (Nat.le_refl _) hM.2.2⟩ ?_
        rcases hcs with rfl | rfl
        · exact s_bin2 (c := 38) (Or.inl rfl) hi hS (by omega) hl h100 a1 (by omega) hM.1 hM.2.1
        · exact s_bin2 (c := 124) (Or.inr rfl) hi hS (by omega) hl h100 a1 (by omega) hM.1 hM.2.1
    · obtain ⟨f, r, m, hf, hr, hm, q⟩ : ∃ f r m, f < 6 ∧ r < 3 ∧ m < 100 ∧ s = nI (1000 * f + 100 * r + m) := by
        rcases so with q | q | q | q
        · exact absurd (by rw [q]; decide) hn
        · exact absurd (by rw [q]; decide) hn
        · exact absurd (by rw [q]; decide) hn
        · exact q
      subst q
      obtain ⟨l6, e⟩ := s_tst (K := K) (X := X) (n := n) (z := z) (p := p) (l5 := l5) (k := M.length) hi ht hC hpn hf hr hm hS (j := j) (by omega) hl h100 hd a1 a2 a3
      exact go _ (mskT T p (nI (1000 * f + 100 * r + m)) :: M) l6 (by unfold tkm; rw [if_neg (fun q => hn (by rw [q]; decide)), if_neg hn]) (by simp; omega) ⟨pk_us, plM_upd (Nat.le_refl _) hM⟩ e
theorem sh_clause {K : KT} {X : Nat → Nat → Int32} {n z t p i j S : Nat} {T : TR} {c : Cla} {l5 : Value} (hi : i < kM K) (ht : isT t) (hC : CT K X t T) (hpn : p < tN T) (hS : X (186 + 6 * i) 7 = nI S) (hl : S ≤ kW K i) (h100 : kW K i ≤ 100) (hc : wfc c) (hA : AtS X i j (codC c)) (hj : j + (codC c).length ≤ S) :
    ∃ Y l5', E 3 mX10_shine 5 [.ref (186 + 6 * i), .ref t, .int (nI p), .int (-1), .int (nI j), l5] [] (hp K X, n, z) = E 3 mX10_shine 5 [.ref (186 + 6 * i), .ref t, .int (nI p), .int (-1), .int (nI (j + (codC c).length)), l5'] [] (hp K Y, n, z) ∧ Fr [186 + 6 * i + 2, t + 25 + p] X Y ∧ ∀ h, h < 12 → Y (t + 25 + p) h = clv T p h (X (t + 25 + p) h) c := by
  have hp6 : p < 6 := Nat.lt_of_lt_of_le hpn hC.1
  have htl := isT_le ht
  by_cases c2 : c.1 = 2
  · have e : codC c = [] := by unfold codC; rw [if_pos c2]
    rw [e]
    refine ⟨X, l5, rfl, Fr_refl _ _, ?_⟩
    intro h hh
    unfold clv
    rw [if_pos (Or.inl (by rw [c2]; decide))]
  · rcases hc with hc | ⟨c01, hw, ho⟩
    · exact absurd hc c2
    have e : codC c = c.2.2.map stp1 ++ [(if c.1 = 0 then 43 else 45, 32, c.2.1)] := by unfold codC; rw [if_neg c2]
    rw [e] at hA hj ⊢
    simp only [List.length_append, List.length_map, List.length_cons, List.length_nil] at hj ⊢
    obtain ⟨hA1, hA2⟩ := AtS_app hA
    rw [List.length_map] at hA2
    obtain ⟨m, em, hm⟩ := evm_one (T := T) (p := p) hw ho
    obtain ⟨Y, l6, e1, f1, h1⟩ := sh_signs (K := K) (n := n) (z := z) hi ht hpn hl h100 c.2.2 [] j l5 X hC hS hw ho (by simp) trivial hA1 (by omega)
    rw [em] at e1 h1
    obtain ⟨b1, b2, b3⟩ := AtS_hd (AtS_fr (Fr1_W f1) hA2)
    have e43 : (if c.1 = 0 then (43 : Int32) else 45) = 43 ∨ (if c.1 = 0 then (43 : Int32) else 45) = 45 := by
      rcases c01 with q | q
      · rw [if_pos q]; exact Or.inl rfl
      · rw [if_neg (by rw [q]; decide)]; exact Or.inr rfl
    obtain ⟨f, l7, e2, h2⟩ := s_end (K := K) (X := Y) (n := n) (z := z) (p := p) (t := t) (l5 := l6) (m := m) e43 hi ht hp6 (by rw [f1 _ (by simp)]; exact hS) (j := j + c.2.2.length) (by omega) hl h100 b1 b3 h1.1
    refine ⟨set1 Y (t + 25 + p) f, l7, ?_, Fr_trans (Fr_sub f1 (by simp)) (Fr_set (Fr_refl _ _) (by simp)), ?_⟩
    · rw [show j + (c.2.2.length + (0 + 1)) = j + c.2.2.length + 1 by omega, ← e2]
      exact e1
    · intro h hh
      have h2' : f h = if hasb m (nI h) = true then Y (t + 25 + p) h + (if (if c.1 = 0 then (43 : Int32) else 45) = 43 then c.2.1 else -c.2.1) else Y (t + 25 + p) h := h2 h hh
      have e4 : (if (if c.1 = 0 then (43 : Int32) else 45) = 43 then c.2.1 else -c.2.1) = (if c.1 = 0 then c.2.1 else -c.2.1) := by
        by_cases q : c.1 = 0
        · rw [if_pos q, if_pos q, if_pos rfl]
        · rw [if_neg q, if_neg q, if_neg (by decide)]
      rw [set1_same, h2', e4, hm h hh, f1 _ (by simp; omega)]
      unfold clv
      have n1 : ¬ (1 : Int32) < c.1 := by rcases c01 with q | q <;> rw [q] <;> decide
      cases hdv T p h c with
      | false => rw [if_neg (by decide), if_pos (Or.inr rfl)]
      | true =>
        have n2 : ¬ (1 < c.1 ∨ true = false) := by simp [n1]
        rw [if_pos rfl, if_neg n2]
        by_cases q : c.1 = 0
        · rw [if_pos q, if_pos q]
        · rw [if_neg q, if_neg q]
theorem nin2 {q a b : Nat} (h1 : q ≠ a) (h2 : q ≠ b) : ¬ q ∈ [a, b] := by simp [h1, h2]
theorem d_shine {K : KT} {X : Nat → Nat → Int32} {n z t p i : Nat} {T : TR} (ht : isT t) (hC : CT K X t T) (hpn : p < tN T) (hv : kV K t = .ref (186 + 6 * i)) :
    ∃ Y, E 3 mX10_shine 0 [.ref (186 + 6 * i), .ref t, .int (nI p), .null, .null, .null] [] (hp K X, n, z) = some (none, (hp K Y, n, z)) ∧ Fr [186 + 6 * i + 2, t + 25 + p] X Y ∧ ∀ h, h < 12 → Y (t + 25 + p) h = (tL T).foldl (clv T p h) (X (t + 25 + p) h) := by
  have htl := isT_le ht
  rcases hC.2.2.2.2.2.2 with ⟨e, _⟩ | ⟨i', hi, e, _, hS, hl, h100, hA, hw⟩
  · rw [e] at hv; cases hv
  have hp6 : p < 6 := Nat.lt_of_lt_of_le hpn hC.1
  have ei : i' = i := by
    rw [hv] at e
    have e' : (186 + 6 * i : Nat) = 186 + 6 * i' := Value.ref.inj e
    omega
  subst ei
  have loop : ∀ (wl : List Cla) (j : Nat) (l5 : Value) (Z : Nat → Nat → Int32), (∀ c, c ∈ wl → wfc c) → AtS Z i' j (cods wl) → j + (cods wl).length = (cods (tL T)).length → Fr [186 + 6 * i' + 2, t + 25 + p] X Z →
      ∃ Y, E 3 mX10_shine 5 [.ref (186 + 6 * i'), .ref t, .int (nI p), .int (-1), .int (nI j), l5] [] (hp K Z, n, z) = some (none, (hp K Y, n, z)) ∧ Fr [186 + 6 * i' + 2, t + 25 + p] X Y ∧ ∀ h, h < 12 → Y (t + 25 + p) h = wl.foldl (clv T p h) (Z (t + 25 + p) h) := by
    intro wl
    induction wl with
    | nil =>
      intro j l5 Z _ _ hj f
      have hSZ : Z (186 + 6 * i') 7 = nI (cods (tL T)).length := by rw [f _ (by simp; omega)]; exact hS
      have hs : nI (cods (tL T)).length ≤ nI j := by rw [← hj]; exact Int32.le_refl _
      refine ⟨Z, ?_, f, fun h _ => rfl⟩
      simp only [pX10_shine_0, pX10_shine_1, pX10_shine_2, pX10_shine_3, pX10_shine_5, pX10_shine_7, pX10_shine_8, pX10_shine_11, pX10_shine_14, pX10_shine_15, pX10_shine_18, pX10_shine_20, pX10_shine_21, pX10_shine_23, pX10_shine_25, pX10_shine_27, pX10_shine_30, pX10_shine_32, pX10_shine_34, pX10_shine_37, pX10_shine_38, pX10_shine_39, pX10_shine_42, pX10_shine_45, pX10_shine_46, pX10_shine_49, pX10_shine_50, pX10_shine_52, pX10_shine_54, pX10_shine_57, pX10_shine_58, pX10_shine_61, pX10_shine_62, pX10_shine_63, pX10_shine_64, pX10_shine_67, pX10_shine_68, pX10_shine_69, pX10_shine_70, pX10_shine_71, pX10_shine_72, pX10_shine_75, pX10_shine_76, pX10_shine_79, pX10_shine_80, pX10_shine_81, pX10_shine_82, pX10_shine_85, pX10_shine_86, pX10_shine_87, pX10_shine_88, pX10_shine_89, pX10_shine_90, pX10_shine_91, pX10_shine_94, pX10_shine_96, pX10_shine_98, pX10_shine_101, pX10_shine_102, pX10_shine_105, pX10_shine_106, pX10_shine_109, pX10_shine_110, pX10_shine_111, pX10_shine_112, pX10_shine_115, pX10_shine_116, pX10_shine_117, pX10_shine_120, pX10_shine_122, pX10_shine_124, pX10_shine_127, pX10_shine_129, pX10_shine_131, pX10_shine_134, pX10_shine_135, pX10_shine_138, pX10_shine_139, pX10_shine_142, pX10_shine_143_5, pX10_shine_143_6, pX10_shine_143_7, pX10_shine_144, pX10_shine_145, pX10_shine_148, pX10_shine_149, pX10_shine_150, pX10_shine_152, pX10_shine_154, pX10_shine_157, pX10_shine_158, pX10_shine_161, pX10_shine_163, pX10_shine_164, pX10_shine_167, pX10_shine_168, pX10_shine_171, pX10_shine_173, pX10_shine_174, pX10_shine_175, pX10_shine_178, pX10_shine_181, pX10_shine_184, pX10_shine_185, pX10_shine_186, pX10_shine_187, pX10_shine_189, pX10_shine_192, pX10_shine_195, pX10_shine_196, pX10_shine_199, pX10_shine_200, pX10_shine_201, pX10_shine_203, pX10_shine_204, pX10_shine_205, pX10_shine_208, pX10_shine_209, pX10_shine_212, pX10_shine_215, kd_i0, kd_i1, kd_i2, kd_i3, kd_jA, kd_r5, kd_r6, kd_r7, al_i, al_j, al_r, ai_i, aj_j, aq_r, cls_o, fv_o, sti_i, stj_j, st2_s, st2_n, bnd_some, set1_same, set1_twice, wc_0 hi, wc_1 hi, wc_2 hi, wc_3 hi, wc_4 hi, wc_5 hi, ww_1 hi, ww_2 hi, ww_3 hi, ww_4 hi, ww_5 hi, wow_1 hi, wow_2 hi, wow_3 hi, wow_7 hi, wo_0, wo_1, wo_2, wo_3, wo_4, wo_5, wo_6, wo_7, wo_8, ↓reduceIte, set1_ne, ne_eq, Nat.reduceEqDiff, not_false_eq_true, not_true_eq_false, if_true, if_false, ite_Ei, bI_eq0, pk_us, ix4, cx4, ix5, cx5, ix6, cx6, ix7, cx7, ix8, cx8, ix10, cx10, ix11, cx11, ix12, cx12, ix20, cx20, ix24, cx24, ix60, cx60, ix64, cx64, ix100, cx100, ix101, cx101, ix360, cx360, ix600, cx600, hSZ, hs]
    | cons c wl ih =>
      intro j l5 Z hwf hAt hj f
      have fW : ∀ q, 186 ≤ q → ¬ isW q → Z q = X q := fun q h1 h2 => f q (nin2 (fun e => h2 (by unfold isW; omega)) (by omega))
      have hCZ : CT K Z t T := CT_fr fW (fun q hq => f _ (by simp; omega)) hC
      have hSZ : Z (186 + 6 * i') 7 = nI (cods (tL T)).length := by rw [f _ (by simp; omega)]; exact hS
      have ec : cods (c :: wl) = codC c ++ cods wl := by unfold cods; simp
      rw [ec] at hAt hj
      rw [List.length_append] at hj
      obtain ⟨A1, A2⟩ := AtS_app hAt
      obtain ⟨Y, l6, e1, f1, h1⟩ := sh_clause (K := K) (X := Z) (n := n) (z := z) (l5 := l5) hi ht hCZ hpn hSZ hl h100 (hwf c List.mem_cons_self) A1 (by omega)
      have fY : ∀ q, 186 ≤ q → ¬ isW q → Y q = Z q := fun q h1 h2 => f1 q (nin2 (fun e => h2 (by unfold isW; omega)) (by omega))
      obtain ⟨W, e2, f2, h2⟩ := ih (j + (codC c).length) l6 Y (fun c hc => hwf c (List.mem_cons_of_mem _ hc)) (AtS_fr fY A2) (by omega) (Fr_trans f f1)
      refine ⟨W, e1.trans e2, f2, ?_⟩
      intro h hh
      rw [h2 h hh, h1 h hh]
      rfl
  have hA0 : AtS X i' 0 (cods (tL T)) := by
    intro k hk
    rw [Nat.zero_add]
    exact hA k hk
  obtain ⟨Y, e1, f1, h1⟩ := loop (tL T) 0 .null X hw hA0 (by omega) (Fr_refl _ _)
  refine ⟨Y, ?_, f1, h1⟩
  rw [← e1]
  simp only [pX10_shine_0, pX10_shine_1, pX10_shine_2, pX10_shine_3, pX10_shine_7, pX10_shine_8, pX10_shine_11, pX10_shine_14, pX10_shine_15, pX10_shine_18, pX10_shine_20, pX10_shine_21, pX10_shine_23, pX10_shine_25, pX10_shine_27, pX10_shine_30, pX10_shine_32, pX10_shine_34, pX10_shine_37, pX10_shine_38, pX10_shine_39, pX10_shine_42, pX10_shine_45, pX10_shine_46, pX10_shine_49, pX10_shine_50, pX10_shine_52, pX10_shine_54, pX10_shine_57, pX10_shine_58, pX10_shine_61, pX10_shine_62, pX10_shine_63, pX10_shine_64, pX10_shine_67, pX10_shine_68, pX10_shine_69, pX10_shine_70, pX10_shine_71, pX10_shine_72, pX10_shine_75, pX10_shine_76, pX10_shine_79, pX10_shine_80, pX10_shine_81, pX10_shine_82, pX10_shine_85, pX10_shine_86, pX10_shine_87, pX10_shine_88, pX10_shine_89, pX10_shine_90, pX10_shine_91, pX10_shine_94, pX10_shine_96, pX10_shine_98, pX10_shine_101, pX10_shine_102, pX10_shine_105, pX10_shine_106, pX10_shine_109, pX10_shine_110, pX10_shine_111, pX10_shine_112, pX10_shine_115, pX10_shine_116, pX10_shine_117, pX10_shine_120, pX10_shine_122, pX10_shine_124, pX10_shine_127, pX10_shine_129, pX10_shine_131, pX10_shine_134, pX10_shine_135, pX10_shine_138, pX10_shine_139, pX10_shine_142, pX10_shine_143_5, pX10_shine_143_6, pX10_shine_143_7, pX10_shine_144, pX10_shine_145, pX10_shine_148, pX10_shine_149, pX10_shine_150, pX10_shine_152, pX10_shine_154, pX10_shine_157, pX10_shine_158, pX10_shine_161, pX10_shine_163, pX10_shine_164, pX10_shine_167, pX10_shine_168, pX10_shine_171, pX10_shine_173, pX10_shine_174, pX10_shine_175, pX10_shine_178, pX10_shine_181, pX10_shine_184, pX10_shine_185, pX10_shine_186, pX10_shine_187, pX10_shine_189, pX10_shine_192, pX10_shine_195, pX10_shine_196, pX10_shine_199, pX10_shine_200, pX10_shine_201, pX10_shine_203, pX10_shine_204, pX10_shine_205, pX10_shine_208, pX10_shine_209, pX10_shine_212, pX10_shine_215, kd_i0, kd_i1, kd_i2, kd_i3, kd_jA, kd_r5, kd_r6, kd_r7, al_i, al_j, al_r, ai_i, aj_j, aq_r, cls_o, fv_o, sti_i, stj_j, st2_s, st2_n, bnd_some, set1_same, set1_twice, wc_0 hi, wc_1 hi, wc_2 hi, wc_3 hi, wc_4 hi, wc_5 hi, ww_1 hi, ww_2 hi, ww_3 hi, ww_4 hi, ww_5 hi, wow_1 hi, wow_2 hi, wow_3 hi, wow_7 hi, wo_0, wo_1, wo_2, wo_3, wo_4, wo_5, wo_6, wo_7, wo_8, ↓reduceIte, set1_ne, ne_eq, Nat.reduceEqDiff, not_false_eq_true, not_true_eq_false, if_true, if_false, ite_Ei, bI_eq0, pk_us, ix4, cx4, ix5, cx5, ix6, cx6, ix7, cx7, ix8, cx8, ix10, cx10, ix11, cx11, ix12, cx12, ix20, cx20, ix24, cx24, ix60, cx60, ix64, cx64, ix100, cx100, ix101, cx101, ix360, cx360, ix600, cx600]
  rfl
/-- what light changes: a tree's sums, what waits in walls -/
def FL (t : Nat) (X Y : Nat → Nat → Int32) : Prop := ∀ q, ¬ (t + 25 ≤ q ∧ q ≤ t + 30) → ¬ isW q → Y q = X q
theorem FL_refl (t : Nat) (X : Nat → Nat → Int32) : FL t X X := fun _ _ _ => rfl
theorem FL_trans {t : Nat} {X Y Z : Nat → Nat → Int32} (h : FL t X Y) (g : FL t Y Z) : FL t X Z := fun q h1 h2 => (g q h1 h2).trans (h q h1 h2)
theorem CT_FL {K : KT} {X Y : Nat → Nat → Int32} {t : Nat} {T : TR} (ht : isT t) (f : FL t X Y) (h : CT K X t T) : CT K Y t T := by
  have := isT_le ht
  exact CT_fr (fun q h1 h2 => f q (by omega) h2) (fun q hq => f _ (by omega) (fun w => by unfold isW at w; omega)) h
theorem d_light {K : KT} {X : Nat → Nat → Int32} {n z t : Nat} {T : TR} (ht : isT t) (hC : CT K X t T) : ∃ Y, E 4 mX8_light 0 [.ref t, .null] [] (hp K X, n, z) = some (none, (hp K Y, n, z)) ∧ FL t X Y ∧ LiT Y t T := by
  have htl := isT_le ht
  have h6 := hC.1
  obtain ⟨L, Y, e, eL, f, hY⟩ := loopI (r := 4) (md := mX8_light) (pc := 2) (N := tN T) (K := K) (n := n) (z := z)
    (fun k L Y => L = [.ref t, .int (nI k)] ∧ FL t X Y ∧ ∀ p h, p < k → h < 12 → Y (t + 25 + p) h = sumT T p h)
    (by
      rintro k L Y hk ⟨rfl, f, hY⟩
      have hCY := CT_FL ht f hC
      have hn := hCY.2.1
      have hk6 : k < 6 := by omega
      have h1 : ¬ nI (tN T) ≤ nI k := nI_ge hk (by omega)
      obtain ⟨g, eg, hg⟩ := c_fill (K := K) (X := Y) (n := n) (z := z) (x := 5) (ts_s ht hk6) (by decide)
      have fg : FL t Y (set1 Y (t + 25 + k) g) := fun q a _ => set1_ne _ _ (by omega)
      rcases hCY.2.2.2.2.2.2 with ⟨ev, ew⟩ | ⟨i, hi, ev, _⟩
      · refine ⟨_, set1 Y (t + 25 + k) g, ?_, rfl, FL_trans f fg, ?_⟩
        · rw [pX8_light_2]
          simp only [pX8_light_0, pX8_light_1, pX8_light_3, pX8_light_4, pX8_light_7, pX8_light_10, pX8_light_11, pX8_light_14, pX8_light_15_5, pX8_light_15_6, pX8_light_15_7, pX8_light_16, pX8_light_17, pX8_light_20, pX8_light_21, pX8_light_24r, pX8_light_24n, pX8_light_27, pX8_light_28, pX8_light_31, pX8_light_32, pX8_light_33, pX8_light_36, pX8_light_39, pX8_light_42, kd_i0, kd_i1, kd_i2, kd_i3, kd_jA, kd_r5, kd_r6, kd_r7, al_i, al_j, al_r, ai_i, aj_j, aq_r, cls_o, fv_o, sti_i, stj_j, st2_s, st2_n, bnd_some, set1_same, set1_twice, to_0, to_1, to_2, to_3, to_4, to_5, to_6, to_7, to_8, to_9, to_10, to_11, to_12, to_13, to_14, to_15, ro_12_0, ro_12_1, ro_12_2, ro_15_0, ro_15_1, ro_15_2, ro_18_0, ro_18_1, ro_18_2, ro_21_0, ro_21_1, ro_21_2, va_rfs, tc_0 ht, tc_1 ht, tw_1 ht, tc_2 ht, tw_2 ht, tc_3 ht, tw_3 ht, tc_4 ht, tw_4 ht, tc_5 ht, tc_12 ht, tc_13 ht, tw_13 ht, tc_14 ht, tw_14 ht, tc_15 ht, tc_16 ht, tw_16 ht, tc_17 ht, tw_17 ht, tc_18 ht, tc_19 ht, tw_19 ht, tc_20 ht, tw_20 ht, tc_21 ht, tc_22 ht, tw_22 ht, tc_23 ht, tw_23 ht, tc_24 ht, tc_31 ht, tw_31 ht, tc_r ht, tw_r ht, tc_s ht, tw_s ht, tow_1 ht, tow_2 ht, tow_3 ht, tow_4 ht, row_12 ht, row_15 ht, row_18 ht, row_21 ht, ↓reduceIte, set1_ne, ne_eq, Nat.reduceEqDiff, not_false_eq_true, not_true_eq_false, if_true, if_false, ite_Ei, bI_eq0, pk_us, ix4, cx4, ix5, cx5, ix6, cx6, ix7, cx7, ix8, cx8, ix10, cx10, ix11, cx11, ix12, cx12, ix20, cx20, ix24, cx24, ix60, cx60, ix64, cx64, ix100, cx100, ix101, cx101, ix360, cx360, ix600, cx600, hn, h1, hk6, eg, ev, nI_1]
        · intro p h hp hh
          by_cases q : p = k
          · rw [q, set1_same, hg h hh]
            unfold sumT
            rw [ew]
            rfl
          · rw [set1_ne _ _ (by omega)]
            exact hY p h (by omega) hh
      · have hC2 := CT_FL ht fg hCY
        obtain ⟨W, eW, fW, hW⟩ := d_shine (K := K) (n := n) (z := z) ht hC2 hk ev
        have fW2 : FL t (set1 Y (t + 25 + k) g) W := fun q a b => fW q (nin2 (fun e => b (by unfold isW; omega)) (by omega))
        have wc := wc_0 (K := K) (X := set1 Y (t + 25 + k) g) hi
        refine ⟨_, W, ?_, rfl, FL_trans (FL_trans f fg) fW2, ?_⟩
        · rw [pX8_light_2]
          simp only [pX8_light_0, pX8_light_1, pX8_light_3, pX8_light_4, pX8_light_7, pX8_light_10, pX8_light_11, pX8_light_14, pX8_light_15_5, pX8_light_15_6, pX8_light_15_7, pX8_light_16, pX8_light_17, pX8_light_20, pX8_light_21, pX8_light_24r, pX8_light_24n, pX8_light_27, pX8_light_28, pX8_light_31, pX8_light_32, pX8_light_33, pX8_light_36, pX8_light_39, pX8_light_42, kd_i0, kd_i1, kd_i2, kd_i3, kd_jA, kd_r5, kd_r6, kd_r7, al_i, al_j, al_r, ai_i, aj_j, aq_r, cls_o, fv_o, sti_i, stj_j, st2_s, st2_n, bnd_some, set1_same, set1_twice, to_0, to_1, to_2, to_3, to_4, to_5, to_6, to_7, to_8, to_9, to_10, to_11, to_12, to_13, to_14, to_15, ro_12_0, ro_12_1, ro_12_2, ro_15_0, ro_15_1, ro_15_2, ro_18_0, ro_18_1, ro_18_2, ro_21_0, ro_21_1, ro_21_2, va_rfs, tc_0 ht, tc_1 ht, tw_1 ht, tc_2 ht, tw_2 ht, tc_3 ht, tw_3 ht, tc_4 ht, tw_4 ht, tc_5 ht, tc_12 ht, tc_13 ht, tw_13 ht, tc_14 ht, tw_14 ht, tc_15 ht, tc_16 ht, tw_16 ht, tc_17 ht, tw_17 ht, tc_18 ht, tc_19 ht, tw_19 ht, tc_20 ht, tw_20 ht, tc_21 ht, tc_22 ht, tw_22 ht, tc_23 ht, tw_23 ht, tc_24 ht, tc_31 ht, tw_31 ht, tc_r ht, tw_r ht, tc_s ht, tw_s ht, tow_1 ht, tow_2 ht, tow_3 ht, tow_4 ht, row_12 ht, row_15 ht, row_18 ht, row_21 ht, ↓reduceIte, set1_ne, ne_eq, Nat.reduceEqDiff, not_false_eq_true, not_true_eq_false, if_true, if_false, ite_Ei, bI_eq0, pk_us, ix4, cx4, ix5, cx5, ix6, cx6, ix7, cx7, ix8, cx8, ix10, cx10, ix11, cx11, ix12, cx12, ix20, cx20, ix24, cx24, ix60, cx60, ix64, cx64, ix100, cx100, ix101, cx101, ix360, cx360, ix600, cx600, hn, h1, hk6, eg, ev, wc, eW, nI_1]
        · intro p h hp hh
          by_cases q : p = k
          · rw [q, hW h hh, set1_same, hg h hh]
            rfl
          · rw [fW _ (by simp; omega), set1_ne _ _ (by omega)]
            exact hY p h (by omega) hh)
    (L := [.ref t, .int 0]) (X := X) ⟨rfl, FL_refl _ _, fun p h hp _ => absurd hp (by omega)⟩
  refine ⟨Y, ?_, f, fun p h hp hh => hY p h hp hh⟩
  have hn := (CT_FL ht f hC).2.1
  have h1 : nI (tN T) ≤ nI (tN T) := Int32.le_refl _
  simp only [pX8_light_0, pX8_light_1, pX8_light_3, pX8_light_4, pX8_light_7, pX8_light_10, pX8_light_11, pX8_light_14, pX8_light_15_5, pX8_light_15_6, pX8_light_15_7, pX8_light_16, pX8_light_17, pX8_light_20, pX8_light_21, pX8_light_24r, pX8_light_24n, pX8_light_27, pX8_light_28, pX8_light_31, pX8_light_32, pX8_light_33, pX8_light_36, pX8_light_39, pX8_light_42, kd_i0, kd_i1, kd_i2, kd_i3, kd_jA, kd_r5, kd_r6, kd_r7, al_i, al_j, al_r, ai_i, aj_j, aq_r, cls_o, fv_o, sti_i, stj_j, st2_s, st2_n, bnd_some, set1_same, set1_twice, to_0, to_1, to_2, to_3, to_4, to_5, to_6, to_7, to_8, to_9, to_10, to_11, to_12, to_13, to_14, to_15, ro_12_0, ro_12_1, ro_12_2, ro_15_0, ro_15_1, ro_15_2, ro_18_0, ro_18_1, ro_18_2, ro_21_0, ro_21_1, ro_21_2, va_rfs, tc_0 ht, tc_1 ht, tw_1 ht, tc_2 ht, tw_2 ht, tc_3 ht, tw_3 ht, tc_4 ht, tw_4 ht, tc_5 ht, tc_12 ht, tc_13 ht, tw_13 ht, tc_14 ht, tw_14 ht, tc_15 ht, tc_16 ht, tw_16 ht, tc_17 ht, tw_17 ht, tc_18 ht, tc_19 ht, tw_19 ht, tc_20 ht, tw_20 ht, tc_21 ht, tc_22 ht, tw_22 ht, tc_23 ht, tw_23 ht, tc_24 ht, tc_31 ht, tw_31 ht, tc_r ht, tw_r ht, tc_s ht, tw_s ht, tow_1 ht, tow_2 ht, tow_3 ht, tow_4 ht, row_12 ht, row_15 ht, row_18 ht, row_21 ht, ↓reduceIte, set1_ne, ne_eq, Nat.reduceEqDiff, not_false_eq_true, not_true_eq_false, if_true, if_false, ite_Ei, bI_eq0, pk_us, ix4, cx4, ix5, cx5, ix6, cx6, ix7, cx7, ix8, cx8, ix10, cx10, ix11, cx11, ix12, cx12, ix20, cx20, ix24, cx24, ix60, cx60, ix64, cx64, ix100, cx100, ix101, cx101, ix360, cx360, ix600, cx600]
  rw [e, eL]
  simp only [pX8_light_0, pX8_light_1, pX8_light_2, pX8_light_3, pX8_light_4, pX8_light_7, pX8_light_10, pX8_light_11, pX8_light_14, pX8_light_15_5, pX8_light_15_6, pX8_light_15_7, pX8_light_16, pX8_light_17, pX8_light_20, pX8_light_21, pX8_light_24r, pX8_light_24n, pX8_light_27, pX8_light_28, pX8_light_31, pX8_light_32, pX8_light_33, pX8_light_36, pX8_light_39, pX8_light_42, kd_i0, kd_i1, kd_i2, kd_i3, kd_jA, kd_r5, kd_r6, kd_r7, al_i, al_j, al_r, ai_i, aj_j, aq_r, cls_o, fv_o, sti_i, stj_j, st2_s, st2_n, bnd_some, set1_same, set1_twice, to_0, to_1, to_2, to_3, to_4, to_5, to_6, to_7, to_8, to_9, to_10, to_11, to_12, to_13, to_14, to_15, ro_12_0, ro_12_1, ro_12_2, ro_15_0, ro_15_1, ro_15_2, ro_18_0, ro_18_1, ro_18_2, ro_21_0, ro_21_1, ro_21_2, va_rfs, tc_0 ht, tc_1 ht, tw_1 ht, tc_2 ht, tw_2 ht, tc_3 ht, tw_3 ht, tc_4 ht, tw_4 ht, tc_5 ht, tc_12 ht, tc_13 ht, tw_13 ht, tc_14 ht, tw_14 ht, tc_15 ht, tc_16 ht, tw_16 ht, tc_17 ht, tw_17 ht, tc_18 ht, tc_19 ht, tw_19 ht, tc_20 ht, tw_20 ht, tc_21 ht, tc_22 ht, tw_22 ht, tc_23 ht, tw_23 ht, tc_24 ht, tc_31 ht, tw_31 ht, tc_r ht, tw_r ht, tc_s ht, tw_s ht, tow_1 ht, tow_2 ht, tow_3 ht, tow_4 ht, row_12 ht, row_15 ht, row_18 ht, row_21 ht, ↓reduceIte, set1_ne, ne_eq, Nat.reduceEqDiff, not_false_eq_true, not_true_eq_false, if_true, if_false, ite_Ei, bI_eq0, pk_us, ix4, cx4, ix5, cx5, ix6, cx6, ix7, cx7, ix8, cx8, ix10, cx10, ix11, cx11, ix12, cx12, ix20, cx20, ix24, cx24, ix60, cx60, ix64, cx64, ix100, cx100, ix101, cx101, ix360, cx360, ix600, cx600, hn, h1]
