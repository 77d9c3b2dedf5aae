/-! The reference: tapes. -/
theorem loopW {r : Nat} {md : Md} {pc N : Nat} (I : Nat → List Value → Wd → Prop)
    (step : ∀ k L w, k < N → I k L w → ∃ L' w', E r md pc L [] w = E r md pc L' [] w' ∧ I (k + 1) L' w')
    {L : List Value} {w : Wd} (h0 : I 0 L w) : ∃ L' w', E r md pc L [] w = E r md pc L' [] w' ∧ I N L' w' := by
  have g : ∀ k, k ≤ N → ∃ L' w', E r md pc L [] w = E r md pc L' [] w' ∧ I k L' w' := by
    intro k
    induction k with
    | zero => intro _; exact ⟨L, w, rfl, h0⟩
    | succ k ih =>
      intro hk
      obtain ⟨L1, X1, e1, i1⟩ := ih (by omega)
      obtain ⟨L2, X2, e2, i2⟩ := step k L1 X1 (by omega) i1
      exact ⟨L2, X2, e1.trans e2, i2⟩
  exact g N (Nat.le_refl N)
theorem kJ_same (K : KT) (q : Nat) (f : Nat → Int64) : kJ (setJ K q f) q = f := if_pos rfl
theorem kJ_ne (K : KT) {q a : Nat} (f : Nat → Int64) (h : a ≠ q) : kJ (setJ K q f) a = kJ K a := if_neg h
theorem setJ_twice (K : KT) (q : Nat) (f g : Nat → Int64) : setJ (setJ K q f) q g = setJ K q g := by
  unfold setJ
  congr 1
  funext a
  by_cases h : a = q
  · rw [if_pos h, if_pos h]
  · rw [if_neg h, if_neg h]
    exact if_neg h
theorem setJ_self (K : KT) (q : Nat) : setJ K q (kJ K q) = K := by
  have : (fun a => if a = q then kJ K q else K.1 a) = K.1 := by
    funext a
    by_cases h : a = q
    · rw [if_pos h, h]
    · rw [if_neg h]
  unfold setJ
  rw [this]
theorem lgc_eq {x y : Int64} : lg_cmp x y = 0 ↔ x = y := by
  unfold lg_cmp
  constructor
  · intro h
    by_cases q1 : x > y
    · rw [if_pos q1] at h; exact absurd h (by decide)
    · rw [if_neg q1] at h
      by_cases q2 : x = y
      · exact q2
      · rw [if_neg q2] at h; exact absurd h (by decide)
  · intro h
    subst h
    rw [if_neg (show ¬ x > x from Int64.lt_irrefl), if_pos rfl]
theorem sub_toInt {a c : Nat} (ha : a ≤ 1000) (hc : c < 2 ^ 31) : (nI a - nI c).toInt = (a : Int) - c := by
  rw [Int32.toInt_sub, nI_toInt (by omega), nI_toInt hc]
  rw [Int.bmod_def]
  split <;> omega
theorem le_sub {j a c : Nat} (hj : j < 2 ^ 31) (ha : a ≤ 1000) (hc : c < 2 ^ 31) : nI j ≤ nI a - nI c ↔ j + c ≤ a := by
  rw [Int32.le_iff_toInt_le, sub_toInt ha hc, nI_toInt hj]
  omega
/-- tapes: sorts, lengths, items -/
abbrev TP : Type := (Nat → Int32) × (Nat → Nat) × (Nat → Nat → Int64)
def TPok (P : TP) : Prop := ∀ t, t < 6 → P.2.1 t ≤ 60 ∧ ((P.1 t = -1 ∧ P.2.1 t = 0) ∨ (0 ≤ P.1 t ∧ P.1 t ≤ 4))
def RP (K : KT) (X : Nat → Nat → Int32) (P : TP) : Prop := ∀ t, t < 6 → X 182 t = P.1 t ∧ X 183 t = nI (P.2.1 t) ∧ ∀ i, i < P.2.1 t → kJ K 184 (60 * t + i) = P.2.2 t i
def updG {α : Type} (f : Nat → α) (i : Nat) (x : α) : Nat → α := fun a => if a = i then x else f a
theorem ug_s {α : Type} (f : Nat → α) (i : Nat) (x : α) : updG f i x i = x := if_pos rfl
theorem ug_n {α : Type} {f : Nat → α} {i a : Nat} {x : α} (h : a ≠ i) : updG f i x a = f a := if_neg h
theorem tp_ix {t : Int32} (h : 0 ≤ t ∧ t ≤ 5) : ∃ j, j < 6 ∧ t = nI j := by
  obtain ⟨j, hj, ej⟩ := nI_of2 (x := t) (M := 5) (n := 5) (by decide) (Int32.not_lt.mpr h.1) h.2
  exact ⟨j, by omega, ej⟩
def tapA (t s m : Int32) : Int32 := if ¬ (0 ≤ t ∧ t ≤ 5) then -1 else if ¬ (-1 ≤ s ∧ s ≤ 4) ∨ (0 ≤ s ∧ 60 < m) then -2 else if 0 ≤ s ∧ m < 0 then -14 else 1
def tapP (P : TP) (t s m : Int32) : TP := if tapA t s m = 1 then (updG P.1 (cx t) s, updG P.2.1 (cx t) (if s < 0 then 0 else cx m), updG P.2.2 (cx t) (fun _ => 0)) else P
theorem c_tape {K : KT} {X : Nat → Nat → Int32} {n z : Nat} {t s m : Int32} {P : TP} (hP : RP K X P) (hO : TPok P) : ∃ K' Y, E 3 mX12_tape 0 [.ref 141, .int t, .int s, .int m, .null] [] (hp K X, n, z) = some (some (.int (tapA t s m)), (hp K' Y, n, z)) ∧ Fr [182, 183] X Y ∧ (∃ f, K' = setJ K 184 f) ∧ RP K' Y (tapP P t s m) ∧ TPok (tapP P t s m) := by
  have stay : tapA t s m ≠ 1 → ∀ a, E 3 mX12_tape 0 [.ref 141, .int t, .int s, .int m, .null] [] (hp K X, n, z) = some (some (.int a), (hp K X, n, z)) → tapA t s m = a → ∃ K' Y, E 3 mX12_tape 0 [.ref 141, .int t, .int s, .int m, .null] [] (hp K X, n, z) = some (some (.int (tapA t s m)), (hp K' Y, n, z)) ∧ Fr [182, 183] X Y ∧ (∃ f, K' = setJ K 184 f) ∧ RP K' Y (tapP P t s m) ∧ TPok (tapP P t s m) := by
    intro h1 a e ea
    refine ⟨K, X, by rw [e, ea], Fr_refl _ _, ⟨kJ K 184, (setJ_self K 184).symm⟩, ?_, ?_⟩
    · unfold tapP; rw [if_neg h1]; exact hP
    · unfold tapP; rw [if_neg h1]; exact hO
  by_cases ht : 0 ≤ t ∧ t ≤ 5
  · obtain ⟨j, hj, rfl⟩ := tp_ix ht
    by_cases hs : -1 ≤ s ∧ s ≤ 4
    · by_cases s0 : s < 0
      · have s0' : ¬ 0 ≤ s := Int32.not_le.mpr s0
        have eA : tapA (nI j) s m = 1 := by
          unfold tapA
          rw [if_neg (fun q => q ht), if_neg (by simp [hs, s0']), if_neg (by simp [s0'])]
        have e1 : s = -1 := by
          apply Int32.toInt_inj.mp
          have h1 := Int32.le_iff_toInt_le.mp hs.1
          have h2 := Int32.lt_iff_toInt_lt.mp s0
          have h3 : (-1 : Int32).toInt = -1 := by decide
          have h4 : (0 : Int32).toInt = 0 := by decide
          omega
        subst e1
        obtain ⟨L, w, e2, eL, f, hw, hlo, hhi⟩ := loopW (r := 3) (md := mX12_tape) (pc := 69) (N := 60)
          (fun k L w => L = [.ref 141, .int (nI j), .int (-1), .int m, .int (nI k)] ∧ ∃ f, w = (hp (setJ K 184 f) (set1 (set1 X 182 (upd (X 182) j (-1))) 183 (upd (X 183) j 0)), n, z) ∧ (∀ a, ¬ (60 * j ≤ a ∧ a < 60 * j + k) → f a = kJ K 184 a) ∧ ∀ a, 60 * j ≤ a → a < 60 * j + k → f a = 0)
          (by
            rintro k L w hk ⟨rfl, f, rfl, hlo, hhi⟩
            have h1 : ¬ (60 : Int32) ≤ nI k := nI_ge (a := k) (b := 60) hk (by omega)
            have ea : (60 : Int32) * nI j + nI k = nI (60 * j + k) := by rw [show (60 : Int32) = nI 60 from rfl, pk_mul, nI_add]
            have h360 : 60 * j + k < 360 := by omega
            refine ⟨_, _, ?_, rfl, vp_updL f (60 * j + k) 0, rfl, ?_, ?_⟩
            · rw [pX12_tape_69]
              simp (decide := true) only [pX12_tape_0, pX12_tape_1, pX12_tape_2, pX12_tape_5, pX12_tape_8, pX12_tape_9, pX12_tape_10, pX12_tape_11, pX12_tape_12, pX12_tape_13, pX12_tape_14, pX12_tape_17, pX12_tape_20, pX12_tape_21, pX12_tape_24, pX12_tape_25, pX12_tape_27, pX12_tape_30, pX12_tape_32, pX12_tape_33, pX12_tape_34, pX12_tape_37, pX12_tape_38, pX12_tape_41, pX12_tape_43, pX12_tape_44, pX12_tape_45, pX12_tape_48, pX12_tape_49, pX12_tape_50, pX12_tape_51, pX12_tape_52, pX12_tape_55, pX12_tape_56, pX12_tape_57, pX12_tape_60, pX12_tape_61, pX12_tape_64, pX12_tape_65, pX12_tape_66, pX12_tape_67, pX12_tape_71, pX12_tape_73, pX12_tape_76, pX12_tape_77, pX12_tape_80, pX12_tape_82, pX12_tape_83, pX12_tape_84, pX12_tape_86, pX12_tape_87, pX12_tape_88, pX12_tape_89, pX12_tape_92, pX12_tape_95, pX12_tape_96, kd_i0, kd_i1, kd_i2, kd_i3, kd_jA, kd_r5, kd_r6, kd_r7, al_i, al_j, al_r, ai_i, aj_j, aq_r, cls_o, fv_o, sti_i, stj_j, st2_s, st2_n, bnd_some, set1_same, set1_twice, hc_141, of_141_0, ow_141_0, of_141_1, ow_141_1, of_141_2, ow_141_2, of_141_3, of_141_4, of_141_5, of_141_6, of_141_7, of_141_8, ow_141_8, of_141_9, ow_141_9, of_141_10, ow_141_10, of_141_11, ow_141_11, of_141_12, ow_141_12, of_141_13, of_141_14, of_141_15, of_141_16, of_141_17, of_141_18, of_141_19, of_141_20, of_141_21, ow_141_21, of_141_22, ow_141_22, of_141_23, ow_141_23, of_141_24, of_141_25, of_141_26, of_141_27, ow_141_27, of_141_28, ow_141_28, of_141_29, ow_141_29, of_141_30, of_141_31, of_141_32, ow_141_32, of_141_33, of_141_34, of_141_35, of_141_36, ow_141_36, of_141_37, of_141_38, of_141_39, ow_141_39, of_141_40, ow_141_40, of_141_41, of_141_42, of_141_43, of_141_44, of_141_45, ow_141_45, of_141_46, ow_141_46, of_141_47, ow_141_47, of_141_48, ow_141_48, of_141_49, ow_141_49, of_141_50, ow_141_50, of_141_51, ow_141_51, of_141_52, ow_141_52, of_141_53, ow_141_53, of_141_54, of_141_55, of_141_56, of_141_57, of_141_58, of_141_59, of_141_60, of_141_61, of_141_62, of_141_63, of_141_64, of_141_65, of_141_66, ow_141_66, of_141_67, of_141_68, of_141_69, of_141_70, of_141_71, hc_142, hw_142, hc_143, hw_143, hc_144, hw_144, hc_145, hw_145, hc_146, hw_146, hc_147, hw_147, hc_148, hw_148, hc_149, hw_149, hc_150, hw_150, hc_151, hw_151, hc_152, hw_152, hc_153, hw_153, hc_154, hw_154, hc_155, hw_155, hc_156, hw_156, hc_157, hw_157, hc_158, hw_158, hc_159, hw_159, hc_160, hw_160, hc_161, hw_161, hc_162, hw_162, hc_163, hw_163, hc_164, hw_164, hc_165, hw_165, hc_166, hw_166, hc_167, hw_167, hc_168, hw_168, hc_169, hw_169, hc_170, hw_170, hc_171, hw_171, hc_172, hw_172, hc_173, hw_173, hc_174, hw_174, hc_175, hw_175, hc_176, hw_176, hc_177, hw_177, hc_178, hw_178, hc_179, hw_179, hc_180, hw_180, hc_181, hw_181, hc_182, hw_182, hc_183, hw_183, hc_184, hw_184, hc_185, hw_185, ↓reduceIte, set1_ne, ne_eq, Nat.reduceEqDiff, not_false_eq_true, not_true_eq_false, if_true, if_false, ite_Ei, bI_eq0, pk_us, ix4, cx4, ix5, cx5, ix6, cx6, ix7, cx7, ix8, cx8, ix10, cx10, ix11, cx11, ix12, cx12, ix20, cx20, ix24, cx24, ix60, cx60, ix64, cx64, ix100, cx100, ix101, cx101, ix360, cx360, ix600, cx600, h1, ea, h360, kJ_same, setJ_twice, nI_1]
            · intro a ha
              rw [pk_uLn (by omega)]
              exact hlo a (by omega)
            · intro a h1 h2
              by_cases e : a = 60 * j + k
              · rw [e, pk_uLs]
              · rw [pk_uLn e]; exact hhi a h1 (by omega))
          (L := [.ref 141, .int (nI j), .int (-1), .int m, .int 0]) (w := (hp K (set1 (set1 X 182 (upd (X 182) j (-1))) 183 (upd (X 183) j 0)), n, z))
          ⟨rfl, kJ K 184, by rw [setJ_self], fun a _ => rfl, fun a h1 h2 => absurd h2 (by omega)⟩
        refine ⟨setJ K 184 f, set1 (set1 X 182 (upd (X 182) j (-1))) 183 (upd (X 183) j 0), ?_, Fr_set (Fr_set (Fr_refl _ _) (by decide)) (by decide), ⟨f, rfl⟩, ?_, ?_⟩
        · rw [eA]
          simp (decide := true) only [pX12_tape_0, pX12_tape_1, pX12_tape_2, pX12_tape_5, pX12_tape_8, pX12_tape_9, pX12_tape_10, pX12_tape_11, pX12_tape_12, pX12_tape_13, pX12_tape_14, pX12_tape_17, pX12_tape_20, pX12_tape_21, pX12_tape_24, pX12_tape_25, pX12_tape_27, pX12_tape_30, pX12_tape_32, pX12_tape_33, pX12_tape_34, pX12_tape_37, pX12_tape_38, pX12_tape_41, pX12_tape_43, pX12_tape_44, pX12_tape_45, pX12_tape_48, pX12_tape_49, pX12_tape_50, pX12_tape_51, pX12_tape_52, pX12_tape_55, pX12_tape_56, pX12_tape_57, pX12_tape_60, pX12_tape_61, pX12_tape_64, pX12_tape_65, pX12_tape_66, pX12_tape_67, pX12_tape_71, pX12_tape_73, pX12_tape_76, pX12_tape_77, pX12_tape_80, pX12_tape_82, pX12_tape_83, pX12_tape_84, pX12_tape_86, pX12_tape_87, pX12_tape_88, pX12_tape_89, pX12_tape_92, pX12_tape_95, pX12_tape_96, kd_i0, kd_i1, kd_i2, kd_i3, kd_jA, kd_r5, kd_r6, kd_r7, al_i, al_j, al_r, ai_i, aj_j, aq_r, cls_o, fv_o, sti_i, stj_j, st2_s, st2_n, bnd_some, set1_same, set1_twice, hc_141, of_141_0, ow_141_0, of_141_1, ow_141_1, of_141_2, ow_141_2, of_141_3, of_141_4, of_141_5, of_141_6, of_141_7, of_141_8, ow_141_8, of_141_9, ow_141_9, of_141_10, ow_141_10, of_141_11, ow_141_11, of_141_12, ow_141_12, of_141_13, of_141_14, of_141_15, of_141_16, of_141_17, of_141_18, of_141_19, of_141_20, of_141_21, ow_141_21, of_141_22, ow_141_22, of_141_23, ow_141_23, of_141_24, of_141_25, of_141_26, of_141_27, ow_141_27, of_141_28, ow_141_28, of_141_29, ow_141_29, of_141_30, of_141_31, of_141_32, ow_141_32, of_141_33, of_141_34, of_141_35, of_141_36, ow_141_36, of_141_37, of_141_38, of_141_39, ow_141_39, of_141_40, ow_141_40, of_141_41, of_141_42, of_141_43, of_141_44, of_141_45, ow_141_45, of_141_46, ow_141_46, of_141_47, ow_141_47, of_141_48, ow_141_48, of_141_49, ow_141_49, of_141_50, ow_141_50, of_141_51, ow_141_51, of_141_52, ow_141_52, of_141_53, ow_141_53, of_141_54, of_141_55, of_141_56, of_141_57, of_141_58, of_141_59, of_141_60, of_141_61, of_141_62, of_141_63, of_141_64, of_141_65, of_141_66, ow_141_66, of_141_67, of_141_68, of_141_69, of_141_70, of_141_71, hc_142, hw_142, hc_143, hw_143, hc_144, hw_144, hc_145, hw_145, hc_146, hw_146, hc_147, hw_147, hc_148, hw_148, hc_149, hw_149, hc_150, hw_150, hc_151, hw_151, hc_152, hw_152, hc_153, hw_153, hc_154, hw_154, hc_155, hw_155, hc_156, hw_156, hc_157, hw_157, hc_158, hw_158, hc_159, hw_159, hc_160, hw_160, hc_161, hw_161, hc_162, hw_162, hc_163, hw_163, hc_164, hw_164, hc_165, hw_165, hc_166, hw_166, hc_167, hw_167, hc_168, hw_168, hc_169, hw_169, hc_170, hw_170, hc_171, hw_171, hc_172, hw_172, hc_173, hw_173, hc_174, hw_174, hc_175, hw_175, hc_176, hw_176, hc_177, hw_177, hc_178, hw_178, hc_179, hw_179, hc_180, hw_180, hc_181, hw_181, hc_182, hw_182, hc_183, hw_183, hc_184, hw_184, hc_185, hw_185, ↓reduceIte, set1_ne, ne_eq, Nat.reduceEqDiff, not_false_eq_true, not_true_eq_false, if_true, if_false, ite_Ei, bI_eq0, pk_us, ix4, cx4, ix5, cx5, ix6, cx6, ix7, cx7, ix8, cx8, ix10, cx10, ix11, cx11, ix12, cx12, ix20, cx20, ix24, cx24, ix60, cx60, ix64, cx64, ix100, cx100, ix101, cx101, ix360, cx360, ix600, cx600, c_isTape, ht, and_self, bI_t, c_in, hj]
          rw [e2, eL, hw]
          simp (decide := true) only [pX12_tape_0, pX12_tape_1, pX12_tape_2, pX12_tape_5, pX12_tape_8, pX12_tape_9, pX12_tape_10, pX12_tape_11, pX12_tape_12, pX12_tape_13, pX12_tape_14, pX12_tape_17, pX12_tape_20, pX12_tape_21, pX12_tape_24, pX12_tape_25, pX12_tape_27, pX12_tape_30, pX12_tape_32, pX12_tape_33, pX12_tape_34, pX12_tape_37, pX12_tape_38, pX12_tape_41, pX12_tape_43, pX12_tape_44, pX12_tape_45, pX12_tape_48, pX12_tape_49, pX12_tape_50, pX12_tape_51, pX12_tape_52, pX12_tape_55, pX12_tape_56, pX12_tape_57, pX12_tape_60, pX12_tape_61, pX12_tape_64, pX12_tape_65, pX12_tape_66, pX12_tape_67, pX12_tape_69, pX12_tape_71, pX12_tape_73, pX12_tape_76, pX12_tape_77, pX12_tape_80, pX12_tape_82, pX12_tape_83, pX12_tape_84, pX12_tape_86, pX12_tape_87, pX12_tape_88, pX12_tape_89, pX12_tape_92, pX12_tape_95, pX12_tape_96, kd_i0, kd_i1, kd_i2, kd_i3, kd_jA, kd_r5, kd_r6, kd_r7, al_i, al_j, al_r, ai_i, aj_j, aq_r, cls_o, fv_o, sti_i, stj_j, st2_s, st2_n, bnd_some, set1_same, set1_twice, hc_141, of_141_0, ow_141_0, of_141_1, ow_141_1, of_141_2, ow_141_2, of_141_3, of_141_4, of_141_5, of_141_6, of_141_7, of_141_8, ow_141_8, of_141_9, ow_141_9, of_141_10, ow_141_10, of_141_11, ow_141_11, of_141_12, ow_141_12, of_141_13, of_141_14, of_141_15, of_141_16, of_141_17, of_141_18, of_141_19, of_141_20, of_141_21, ow_141_21, of_141_22, ow_141_22, of_141_23, ow_141_23, of_141_24, of_141_25, of_141_26, of_141_27, ow_141_27, of_141_28, ow_141_28, of_141_29, ow_141_29, of_141_30, of_141_31, of_141_32, ow_141_32, of_141_33, of_141_34, of_141_35, of_141_36, ow_141_36, of_141_37, of_141_38, of_141_39, ow_141_39, of_141_40, ow_141_40, of_141_41, of_141_42, of_141_43, of_141_44, of_141_45, ow_141_45, of_141_46, ow_141_46, of_141_47, ow_141_47, of_141_48, ow_141_48, of_141_49, ow_141_49, of_141_50, ow_141_50, of_141_51, ow_141_51, of_141_52, ow_141_52, of_141_53, ow_141_53, of_141_54, of_141_55, of_141_56, of_141_57, of_141_58, of_141_59, of_141_60, of_141_61, of_141_62, of_141_63, of_141_64, of_141_65, of_141_66, ow_141_66, of_141_67, of_141_68, of_141_69, of_141_70, of_141_71, hc_142, hw_142, hc_143, hw_143, hc_144, hw_144, hc_145, hw_145, hc_146, hw_146, hc_147, hw_147, hc_148, hw_148, hc_149, hw_149, hc_150, hw_150, hc_151, hw_151, hc_152, hw_152, hc_153, hw_153, hc_154, hw_154, hc_155, hw_155, hc_156, hw_156, hc_157, hw_157, hc_158, hw_158, hc_159, hw_159, hc_160, hw_160, hc_161, hw_161, hc_162, hw_162, hc_163, hw_163, hc_164, hw_164, hc_165, hw_165, hc_166, hw_166, hc_167, hw_167, hc_168, hw_168, hc_169, hw_169, hc_170, hw_170, hc_171, hw_171, hc_172, hw_172, hc_173, hw_173, hc_174, hw_174, hc_175, hw_175, hc_176, hw_176, hc_177, hw_177, hc_178, hw_178, hc_179, hw_179, hc_180, hw_180, hc_181, hw_181, hc_182, hw_182, hc_183, hw_183, hc_184, hw_184, hc_185, hw_185, ↓reduceIte, set1_ne, ne_eq, Nat.reduceEqDiff, not_false_eq_true, not_true_eq_false, if_true, if_false, ite_Ei, bI_eq0, pk_us, ix4, cx4, ix5, cx5, ix6, cx6, ix7, cx7, ix8, cx8, ix10, cx10, ix11, cx11, ix12, cx12, ix20, cx20, ix24, cx24, ix60, cx60, ix64, cx64, ix100, cx100, ix101, cx101, ix360, cx360, ix600, cx600]
        · unfold tapP
          rw [if_pos eA, cx6 hj]
          intro t ht6
          rw [set1_ne _ _ (by decide), set1_same, set1_same]
          show upd (X 182) j (-1) t = updG P.1 j (-1) t ∧ upd (X 183) j 0 t = nI (updG P.2.1 j 0 t) ∧ ∀ i, i < updG P.2.1 j 0 t → kJ (setJ K 184 f) 184 (60 * t + i) = updG P.2.2 j (fun _ => 0) t i
          by_cases e : t = j
          · subst e
            rw [pk_us, pk_us, ug_s, ug_s, ug_s]
            exact ⟨rfl, rfl, fun i hi => absurd hi (by omega)⟩
          · rw [pk_un e, pk_un e, ug_n e, ug_n e, ug_n e]
            obtain ⟨p1, p2, p3⟩ := hP t ht6
            refine ⟨p1, p2, fun i hi => ?_⟩
            have := (hO t ht6).1
            rw [kJ_same, hlo _ (by omega)]
            exact p3 i hi
        · unfold tapP
          rw [if_pos eA, cx6 hj]
          intro t ht6
          show updG P.2.1 j 0 t ≤ 60 ∧ ((updG P.1 j (-1) t = -1 ∧ updG P.2.1 j 0 t = 0) ∨ _)
          by_cases e : t = j
          · subst e
            rw [ug_s, ug_s]
            exact ⟨by omega, Or.inl ⟨rfl, rfl⟩⟩
          · have := hO t ht6
            show updG P.2.1 j 0 t ≤ 60 ∧ ((updG P.1 j (-1) t = -1 ∧ updG P.2.1 j 0 t = 0) ∨ (0 ≤ updG P.1 j (-1) t ∧ updG P.1 j (-1) t ≤ 4))
            rw [ug_n e, ug_n e]
            exact this
      · have s0' : 0 ≤ s := Int32.not_lt.mp s0
        by_cases m60 : 60 < m
        · have m60' := Int32.not_le.mpr m60
          have eA : tapA (nI j) s m = -2 := by
            unfold tapA
            rw [if_neg (fun q => q ht), if_pos (Or.inr ⟨s0', m60⟩)]
          refine stay (by rw [eA]; decide) (-2) ?_ eA
          simp (decide := true) only [pX12_tape_0, pX12_tape_1, pX12_tape_2, pX12_tape_5, pX12_tape_8, pX12_tape_9, pX12_tape_10, pX12_tape_11, pX12_tape_12, pX12_tape_13, pX12_tape_14, pX12_tape_17, pX12_tape_20, pX12_tape_21, pX12_tape_24, pX12_tape_25, pX12_tape_27, pX12_tape_30, pX12_tape_32, pX12_tape_33, pX12_tape_34, pX12_tape_37, pX12_tape_38, pX12_tape_41, pX12_tape_43, pX12_tape_44, pX12_tape_45, pX12_tape_48, pX12_tape_49, pX12_tape_50, pX12_tape_51, pX12_tape_52, pX12_tape_55, pX12_tape_56, pX12_tape_57, pX12_tape_60, pX12_tape_61, pX12_tape_64, pX12_tape_65, pX12_tape_66, pX12_tape_67, pX12_tape_71, pX12_tape_73, pX12_tape_76, pX12_tape_77, pX12_tape_80, pX12_tape_82, pX12_tape_83, pX12_tape_84, pX12_tape_86, pX12_tape_87, pX12_tape_88, pX12_tape_89, pX12_tape_92, pX12_tape_95, pX12_tape_96, kd_i0, kd_i1, kd_i2, kd_i3, kd_jA, kd_r5, kd_r6, kd_r7, al_i, al_j, al_r, ai_i, aj_j, aq_r, cls_o, fv_o, sti_i, stj_j, st2_s, st2_n, bnd_some, set1_same, set1_twice, hc_141, of_141_0, ow_141_0, of_141_1, ow_141_1, of_141_2, ow_141_2, of_141_3, of_141_4, of_141_5, of_141_6, of_141_7, of_141_8, ow_141_8, of_141_9, ow_141_9, of_141_10, ow_141_10, of_141_11, ow_141_11, of_141_12, ow_141_12, of_141_13, of_141_14, of_141_15, of_141_16, of_141_17, of_141_18, of_141_19, of_141_20, of_141_21, ow_141_21, of_141_22, ow_141_22, of_141_23, ow_141_23, of_141_24, of_141_25, of_141_26, of_141_27, ow_141_27, of_141_28, ow_141_28, of_141_29, ow_141_29, of_141_30, of_141_31, of_141_32, ow_141_32, of_141_33, of_141_34, of_141_35, of_141_36, ow_141_36, of_141_37, of_141_38, of_141_39, ow_141_39, of_141_40, ow_141_40, of_141_41, of_141_42, of_141_43, of_141_44, of_141_45, ow_141_45, of_141_46, ow_141_46, of_141_47, ow_141_47, of_141_48, ow_141_48, of_141_49, ow_141_49, of_141_50, ow_141_50, of_141_51, ow_141_51, of_141_52, ow_141_52, of_141_53, ow_141_53, of_141_54, of_141_55, of_141_56, of_141_57, of_141_58, of_141_59, of_141_60, of_141_61, of_141_62, of_141_63, of_141_64, of_141_65, of_141_66, ow_141_66, of_141_67, of_141_68, of_141_69, of_141_70, of_141_71, hc_142, hw_142, hc_143, hw_143, hc_144, hw_144, hc_145, hw_145, hc_146, hw_146, hc_147, hw_147, hc_148, hw_148, hc_149, hw_149, hc_150, hw_150, hc_151, hw_151, hc_152, hw_152, hc_153, hw_153, hc_154, hw_154, hc_155, hw_155, hc_156, hw_156, hc_157, hw_157, hc_158, hw_158, hc_159, hw_159, hc_160, hw_160, hc_161, hw_161, hc_162, hw_162, hc_163, hw_163, hc_164, hw_164, hc_165, hw_165, hc_166, hw_166, hc_167, hw_167, hc_168, hw_168, hc_169, hw_169, hc_170, hw_170, hc_171, hw_171, hc_172, hw_172, hc_173, hw_173, hc_174, hw_174, hc_175, hw_175, hc_176, hw_176, hc_177, hw_177, hc_178, hw_178, hc_179, hw_179, hc_180, hw_180, hc_181, hw_181, hc_182, hw_182, hc_183, hw_183, hc_184, hw_184, hc_185, hw_185, ↓reduceIte, set1_ne, ne_eq, Nat.reduceEqDiff, not_false_eq_true, not_true_eq_false, if_true, if_false, ite_Ei, bI_eq0, pk_us, ix4, cx4, ix5, cx5, ix6, cx6, ix7, cx7, ix8, cx8, ix10, cx10, ix11, cx11, ix12, cx12, ix20, cx20, ix24, cx24, ix60, cx60, ix64, cx64, ix100, cx100, ix101, cx101, ix360, cx360, ix600, cx600, c_isTape, ht, and_self, bI_t, c_in, hs, s0, m60']
        · have m60' : m ≤ 60 := Int32.not_lt.mp m60
          by_cases m0 : m < 0
          · have m0' := Int32.not_le.mpr m0
            have eA : tapA (nI j) s m = -14 := by
              unfold tapA
              rw [if_neg (fun q => q ht), if_neg (by simp [hs, m60]), if_pos ⟨s0', m0⟩]
            refine stay (by rw [eA]; decide) (-14) ?_ eA
            simp (decide := true) only [pX12_tape_0, pX12_tape_1, pX12_tape_2, pX12_tape_5, pX12_tape_8, pX12_tape_9, pX12_tape_10, pX12_tape_11, pX12_tape_12, pX12_tape_13, pX12_tape_14, pX12_tape_17, pX12_tape_20, pX12_tape_21, pX12_tape_24, pX12_tape_25, pX12_tape_27, pX12_tape_30, pX12_tape_32, pX12_tape_33, pX12_tape_34, pX12_tape_37, pX12_tape_38, pX12_tape_41, pX12_tape_43, pX12_tape_44, pX12_tape_45, pX12_tape_48, pX12_tape_49, pX12_tape_50, pX12_tape_51, pX12_tape_52, pX12_tape_55, pX12_tape_56, pX12_tape_57, pX12_tape_60, pX12_tape_61, pX12_tape_64, pX12_tape_65, pX12_tape_66, pX12_tape_67, pX12_tape_71, pX12_tape_73, pX12_tape_76, pX12_tape_77, pX12_tape_80, pX12_tape_82, pX12_tape_83, pX12_tape_84, pX12_tape_86, pX12_tape_87, pX12_tape_88, pX12_tape_89, pX12_tape_92, pX12_tape_95, pX12_tape_96, kd_i0, kd_i1, kd_i2, kd_i3, kd_jA, kd_r5, kd_r6, kd_r7, al_i, al_j, al_r, ai_i, aj_j, aq_r, cls_o, fv_o, sti_i, stj_j, st2_s, st2_n, bnd_some, set1_same, set1_twice, hc_141, of_141_0, ow_141_0, of_141_1, ow_141_1, of_141_2, ow_141_2, of_141_3, of_141_4, of_141_5, of_141_6, of_141_7, of_141_8, ow_141_8, of_141_9, ow_141_9, of_141_10, ow_141_10, of_141_11, ow_141_11, of_141_12, ow_141_12, of_141_13, of_141_14, of_141_15, of_141_16, of_141_17, of_141_18, of_141_19, of_141_20, of_141_21, ow_141_21, of_141_22, ow_141_22, of_141_23, ow_141_23, of_141_24, of_141_25, of_141_26, of_141_27, ow_141_27, of_141_28, ow_141_28, of_141_29, ow_141_29, of_141_30, of_141_31, of_141_32, ow_141_32, of_141_33, of_141_34, of_141_35, of_141_36, ow_141_36, of_141_37, of_141_38, of_141_39, ow_141_39, of_141_40, ow_141_40, of_141_41, of_141_42, of_141_43, of_141_44, of_141_45, ow_141_45, of_141_46, ow_141_46, of_141_47, ow_141_47, of_141_48, ow_141_48, of_141_49, ow_141_49, of_141_50, ow_141_50, of_141_51, ow_141_51, of_141_52, ow_141_52, of_141_53, ow_141_53, of_141_54, of_141_55, of_141_56, of_141_57, of_141_58, of_141_59, of_141_60, of_141_61, of_141_62, of_141_63, of_141_64, of_141_65, of_141_66, ow_141_66, of_141_67, of_141_68, of_141_69, of_141_70, of_141_71, hc_142, hw_142, hc_143, hw_143, hc_144, hw_144, hc_145, hw_145, hc_146, hw_146, hc_147, hw_147, hc_148, hw_148, hc_149, hw_149, hc_150, hw_150, hc_151, hw_151, hc_152, hw_152, hc_153, hw_153, hc_154, hw_154, hc_155, hw_155, hc_156, hw_156, hc_157, hw_157, hc_158, hw_158, hc_159, hw_159, hc_160, hw_160, hc_161, hw_161, hc_162, hw_162, hc_163, hw_163, hc_164, hw_164, hc_165, hw_165, hc_166, hw_166, hc_167, hw_167, hc_168, hw_168, hc_169, hw_169, hc_170, hw_170, hc_171, hw_171, hc_172, hw_172, hc_173, hw_173, hc_174, hw_174, hc_175, hw_175, hc_176, hw_176, hc_177, hw_177, hc_178, hw_178, hc_179, hw_179, hc_180, hw_180, hc_181, hw_181, hc_182, hw_182, hc_183, hw_183, hc_184, hw_184, hc_185, hw_185, ↓reduceIte, set1_ne, ne_eq, Nat.reduceEqDiff, not_false_eq_true, not_true_eq_false, if_true, if_false, ite_Ei, bI_eq0, pk_us, ix4, cx4, ix5, cx5, ix6, cx6, ix7, cx7, ix8, cx8, ix10, cx10, ix11, cx11, ix12, cx12, ix20, cx20, ix24, cx24, ix60, cx60, ix64, cx64, ix100, cx100, ix101, cx101, ix360, cx360, ix600, cx600, c_isTape, ht, and_self, bI_t, c_in, hs, s0, m60', m0']
          · have m0' : 0 ≤ m := Int32.not_lt.mp m0
            have eA : tapA (nI j) s m = 1 := by
              unfold tapA
              rw [if_neg (fun q => q ht), if_neg (by simp [hs, m60]), if_neg (by simp [m0])]
            obtain ⟨c, hc, ec⟩ := nI_of2 (x := m) (M := 60) (n := 60) (by decide) m0 m60'
            subst ec
            obtain ⟨L, w, e2, eL, f, hw, hlo, hhi⟩ := loopW (r := 3) (md := mX12_tape) (pc := 69) (N := 60)
              (fun k L w => L = [.ref 141, .int (nI j), .int s, .int (nI c), .int (nI k)] ∧ ∃ f, w = (hp (setJ K 184 f) (set1 (set1 X 182 (upd (X 182) j s)) 183 (upd (X 183) j (nI c))), n, z) ∧ (∀ a, ¬ (60 * j ≤ a ∧ a < 60 * j + k) → f a = kJ K 184 a) ∧ ∀ a, 60 * j ≤ a → a < 60 * j + k → f a = 0)
              (by
                rintro k L w hk ⟨rfl, f, rfl, hlo, hhi⟩
                have h1 : ¬ (60 : Int32) ≤ nI k := nI_ge (a := k) (b := 60) hk (by omega)
                have ea : (60 : Int32) * nI j + nI k = nI (60 * j + k) := by rw [show (60 : Int32) = nI 60 from rfl, pk_mul, nI_add]
                have h360 : 60 * j + k < 360 := by omega
                refine ⟨_, _, ?_, rfl, vp_updL f (60 * j + k) 0, rfl, ?_, ?_⟩
                · rw [pX12_tape_69]
                  simp (decide := true) only [pX12_tape_0, pX12_tape_1, pX12_tape_2, pX12_tape_5, pX12_tape_8, pX12_tape_9, pX12_tape_10, pX12_tape_11, pX12_tape_12, pX12_tape_13, pX12_tape_14, pX12_tape_17, pX12_tape_20, pX12_tape_21, pX12_tape_24, pX12_tape_25, pX12_tape_27, pX12_tape_30, pX12_tape_32, pX12_tape_33, pX12_tape_34, pX12_tape_37, pX12_tape_38, pX12_tape_41, pX12_tape_43, pX12_tape_44, pX12_tape_45, pX12_tape_48, pX12_tape_49, pX12_tape_50, pX12_tape_51, pX12_tape_52, pX12_tape_55, pX12_tape_56, pX12_tape_57, pX12_tape_60, pX12_tape_61, pX12_tape_64, pX12_tape_65, pX12_tape_66, pX12_tape_67, pX12_tape_71, pX12_tape_73, pX12_tape_76, pX12_tape_77, pX12_tape_80, pX12_tape_82, pX12_tape_83, pX12_tape_84, pX12_tape_86, pX12_tape_87, pX12_tape_88, pX12_tape_89, pX12_tape_92, pX12_tape_95, pX12_tape_96, kd_i0, kd_i1, kd_i2, kd_i3, kd_jA, kd_r5, kd_r6, kd_r7, al_i, al_j, al_r, ai_i, aj_j, aq_r, cls_o, fv_o, sti_i, stj_j, st2_s, st2_n, bnd_some, set1_same, set1_twice, hc_141, of_141_0, ow_141_0, of_141_1, ow_141_1, of_141_2, ow_141_2, of_141_3, of_141_4, of_141_5, of_141_6, of_141_7, of_141_8, ow_141_8, of_141_9, ow_141_9, of_141_10, ow_141_10, of_141_11, ow_141_11, of_141_12, ow_141_12, of_141_13, of_141_14, of_141_15, of_141_16, of_141_17, of_141_18, of_141_19, of_141_20, of_141_21, ow_141_21, of_141_22, ow_141_22, of_141_23, ow_141_23, of_141_24, of_141_25, of_141_26, of_141_27, ow_141_27, of_141_28, ow_141_28, of_141_29, ow_141_29, of_141_30, of_141_31, of_141_32, ow_141_32, of_141_33, of_141_34, of_141_35, of_141_36, ow_141_36, of_141_37, of_141_38, of_141_39, ow_141_39, of_141_40, ow_141_40, of_141_41, of_141_42, of_141_43, of_141_44, of_141_45, ow_141_45, of_141_46, ow_141_46, of_141_47, ow_141_47, of_141_48, ow_141_48, of_141_49, ow_141_49, of_141_50, ow_141_50, of_141_51, ow_141_51, of_141_52, ow_141_52, of_141_53, ow_141_53, of_141_54, of_141_55, of_141_56, of_141_57, of_141_58, of_141_59, of_141_60, of_141_61, of_141_62, of_141_63, of_141_64, of_141_65, of_141_66, ow_141_66, of_141_67, of_141_68, of_141_69, of_141_70, of_141_71, hc_142, hw_142, hc_143, hw_143, hc_144, hw_144, hc_145, hw_145, hc_146, hw_146, hc_147, hw_147, hc_148, hw_148, hc_149, hw_149, hc_150, hw_150, hc_151, hw_151, hc_152, hw_152, hc_153, hw_153, hc_154, hw_154, hc_155, hw_155, hc_156, hw_156, hc_157, hw_157, hc_158, hw_158, hc_159, hw_159, hc_160, hw_160, hc_161, hw_161, hc_162, hw_162, hc_163, hw_163, hc_164, hw_164, hc_165, hw_165, hc_166, hw_166, hc_167, hw_167, hc_168, hw_168, hc_169, hw_169, hc_170, hw_170, hc_171, hw_171, hc_172, hw_172, hc_173, hw_173, hc_174, hw_174, hc_175, hw_175, hc_176, hw_176, hc_177, hw_177, hc_178, hw_178, hc_179, hw_179, hc_180, hw_180, hc_181, hw_181, hc_182, hw_182, hc_183, hw_183, hc_184, hw_184, hc_185, hw_185, ↓reduceIte, set1_ne, ne_eq, Nat.reduceEqDiff, not_false_eq_true, not_true_eq_false, if_true, if_false, ite_Ei, bI_eq0, pk_us, ix4, cx4, ix5, cx5, ix6, cx6, ix7, cx7, ix8, cx8, ix10, cx10, ix11, cx11, ix12, cx12, ix20, cx20, ix24, cx24, ix60, cx60, ix64, cx64, ix100, cx100, ix101, cx101, ix360, cx360, ix600, cx600, h1, ea, h360, kJ_same, setJ_twice, nI_1]
                · intro a ha
                  rw [pk_uLn (by omega)]
                  exact hlo a (by omega)
                · intro a h1 h2
                  by_cases e : a = 60 * j + k
                  · rw [e, pk_uLs]
                  · rw [pk_uLn e]; exact hhi a h1 (by omega))
              (L := [.ref 141, .int (nI j), .int s, .int (nI c), .int 0]) (w := (hp K (set1 (set1 X 182 (upd (X 182) j s)) 183 (upd (X 183) j (nI c))), n, z))
              ⟨rfl, kJ K 184, by rw [setJ_self], fun a _ => rfl, fun a h1 h2 => absurd h2 (by omega)⟩
            refine ⟨setJ K 184 f, set1 (set1 X 182 (upd (X 182) j s)) 183 (upd (X 183) j (nI c)), ?_, Fr_set (Fr_set (Fr_refl _ _) (by decide)) (by decide), ⟨f, rfl⟩, ?_, ?_⟩
            · rw [eA]
              simp (decide := true) only [pX12_tape_0, pX12_tape_1, pX12_tape_2, pX12_tape_5, pX12_tape_8, pX12_tape_9, pX12_tape_10, pX12_tape_11, pX12_tape_12, pX12_tape_13, pX12_tape_14, pX12_tape_17, pX12_tape_20, pX12_tape_21, pX12_tape_24, pX12_tape_25, pX12_tape_27, pX12_tape_30, pX12_tape_32, pX12_tape_33, pX12_tape_34, pX12_tape_37, pX12_tape_38, pX12_tape_41, pX12_tape_43, pX12_tape_44, pX12_tape_45, pX12_tape_48, pX12_tape_49, pX12_tape_50, pX12_tape_51, pX12_tape_52, pX12_tape_55, pX12_tape_56, pX12_tape_57, pX12_tape_60, pX12_tape_61, pX12_tape_64, pX12_tape_65, pX12_tape_66, pX12_tape_67, pX12_tape_71, pX12_tape_73, pX12_tape_76, pX12_tape_77, pX12_tape_80, pX12_tape_82, pX12_tape_83, pX12_tape_84, pX12_tape_86, pX12_tape_87, pX12_tape_88, pX12_tape_89, pX12_tape_92, pX12_tape_95, pX12_tape_96, kd_i0, kd_i1, kd_i2, kd_i3, kd_jA, kd_r5, kd_r6, kd_r7, al_i, al_j, al_r, ai_i, aj_j, aq_r, cls_o, fv_o, sti_i, stj_j, st2_s, st2_n, bnd_some, set1_same, set1_twice, hc_141, of_141_0, ow_141_0, of_141_1, ow_141_1, of_141_2, ow_141_2, of_141_3, of_141_4, of_141_5, of_141_6, of_141_7, of_141_8, ow_141_8, of_141_9, ow_141_9, of_141_10, ow_141_10, of_141_11, ow_141_11, of_141_12, ow_141_12, of_141_13, of_141_14, of_141_15, of_141_16, of_141_17, of_141_18, of_141_19, of_141_20, of_141_21, ow_141_21, of_141_22, ow_141_22, of_141_23, ow_141_23, of_141_24, of_141_25, of_141_26, of_141_27, ow_141_27, of_141_28, ow_141_28, of_141_29, ow_141_29, of_141_30, of_141_31, of_141_32, ow_141_32, of_141_33, of_141_34, of_141_35, of_141_36, ow_141_36, of_141_37, of_141_38, of_141_39, ow_141_39, of_141_40, ow_141_40, of_141_41, of_141_42, of_141_43, of_141_44, of_141_45, ow_141_45, of_141_46, ow_141_46, of_141_47, ow_141_47, of_141_48, ow_141_48, of_141_49, ow_141_49, of_141_50, ow_141_50, of_141_51, ow_141_51, of_141_52, ow_141_52, of_141_53, ow_141_53, of_141_54, of_141_55, of_141_56, of_141_57, of_141_58, of_141_59, of_141_60, of_141_61, of_141_62, of_141_63, of_141_64, of_141_65, of_141_66, ow_141_66, of_141_67, of_141_68, of_141_69, of_141_70, of_141_71, hc_142, hw_142, hc_143, hw_143, hc_144, hw_144, hc_145, hw_145, hc_146, hw_146, hc_147, hw_147, hc_148, hw_148, hc_149, hw_149, hc_150, hw_150, hc_151, hw_151, hc_152, hw_152, hc_153, hw_153, hc_154, hw_154, hc_155, hw_155, hc_156, hw_156, hc_157, hw_157, hc_158, hw_158, hc_159, hw_159, hc_160, hw_160, hc_161, hw_161, hc_162, hw_162, hc_163, hw_163, hc_164, hw_164, hc_165, hw_165, hc_166, hw_166, hc_167, hw_167, hc_168, hw_168, hc_169, hw_169, hc_170, hw_170, hc_171, hw_171, hc_172, hw_172, hc_173, hw_173, hc_174, hw_174, hc_175, hw_175, hc_176, hw_176, hc_177, hw_177, hc_178, hw_178, hc_179, hw_179, hc_180, hw_180, hc_181, hw_181, hc_182, hw_182, hc_183, hw_183, hc_184, hw_184, hc_185, hw_185, ↓reduceIte, set1_ne, ne_eq, Nat.reduceEqDiff, not_false_eq_true, not_true_eq_false, if_true, if_false, ite_Ei, bI_eq0, pk_us, ix4, cx4, ix5, cx5, ix6, cx6, ix7, cx7, ix8, cx8, ix10, cx10, ix11, cx11, ix12, cx12, ix20, cx20, ix24, cx24, ix60, cx60, ix64, cx64, ix100, cx100, ix101, cx101, ix360, cx360, ix600, cx600, c_isTape, ht, and_self, bI_t, c_in, hs, s0, s0', m60', m0', hj]
              rw [e2, eL, hw]
              simp (decide := true) only [pX12_tape_0, pX12_tape_1, pX12_tape_2, pX12_tape_5, pX12_tape_8, pX12_tape_9, pX12_tape_10, pX12_tape_11, pX12_tape_12, pX12_tape_13, pX12_tape_14, pX12_tape_17, pX12_tape_20, pX12_tape_21, pX12_tape_24, pX12_tape_25, pX12_tape_27, pX12_tape_30, pX12_tape_32, pX12_tape_33, pX12_tape_34, pX12_tape_37, pX12_tape_38, pX12_tape_41, pX12_tape_43, pX12_tape_44, pX12_tape_45, pX12_tape_48, pX12_tape_49, pX12_tape_50, pX12_tape_51, pX12_tape_52, pX12_tape_55, pX12_tape_56, pX12_tape_57, pX12_tape_60, pX12_tape_61, pX12_tape_64, pX12_tape_65, pX12_tape_66, pX12_tape_67, pX12_tape_69, pX12_tape_71, pX12_tape_73, pX12_tape_76, pX12_tape_77, pX12_tape_80, pX12_tape_82, pX12_tape_83, pX12_tape_84, pX12_tape_86, pX12_tape_87, pX12_tape_88, pX12_tape_89, pX12_tape_92, pX12_tape_95, pX12_tape_96, kd_i0, kd_i1, kd_i2, kd_i3, kd_jA, kd_r5, kd_r6, kd_r7, al_i, al_j, al_r, ai_i, aj_j, aq_r, cls_o, fv_o, sti_i, stj_j, st2_s, st2_n, bnd_some, set1_same, set1_twice, hc_141, of_141_0, ow_141_0, of_141_1, ow_141_1, of_141_2, ow_141_2, of_141_3, of_141_4, of_141_5, of_141_6, of_141_7, of_141_8, ow_141_8, of_141_9, ow_141_9, of_141_10, ow_141_10, of_141_11, ow_141_11, of_141_12, ow_141_12, of_141_13, of_141_14, of_141_15, of_141_16, of_141_17, of_141_18, of_141_19, of_141_20, of_141_21, ow_141_21, of_141_22, ow_141_22, of_141_23, ow_141_23, of_141_24, of_141_25, of_141_26, of_141_27, ow_141_27, of_141_28, ow_141_28, of_141_29, ow_141_29, of_141_30, of_141_31, of_141_32, ow_141_32, of_141_33, of_141_34, of_141_35, of_141_36, ow_141_36, of_141_37, of_141_38, of_141_39, ow_141_39, of_141_40, ow_141_40, of_141_41, of_141_42, of_141_43, of_141_44, of_141_45, ow_141_45, of_141_46, ow_141_46, of_141_47, ow_141_47, of_141_48, ow_141_48, of_141_49, ow_141_49, of_141_50, ow_141_50, of_141_51, ow_141_51, of_141_52, ow_141_52, of_141_53, ow_141_53, of_141_54, of_141_55, of_141_56, of_141_57, of_141_58, of_141_59, of_141_60, of_141_61, of_141_62, of_141_63, of_141_64, of_141_65, of_141_66, ow_141_66, of_141_67, of_141_68, of_141_69, of_141_70, of_141_71, hc_142, hw_142, hc_143, hw_143, hc_144, hw_144, hc_145, hw_145, hc_146, hw_146, hc_147, hw_147, hc_148, hw_148, hc_149, hw_149, hc_150, hw_150, hc_151, hw_151, hc_152, hw_152, hc_153, hw_153, hc_154, hw_154, hc_155, hw_155, hc_156, hw_156, hc_157, hw_157, hc_158, hw_158, hc_159, hw_159, hc_160, hw_160, hc_161, hw_161, hc_162, hw_162, hc_163, hw_163, hc_164, hw_164, hc_165, hw_165, hc_166, hw_166, hc_167, hw_167, hc_168, hw_168, hc_169, hw_169, hc_170, hw_170, hc_171, hw_171, hc_172, hw_172, hc_173, hw_173, hc_174, hw_174, hc_175, hw_175, hc_176, hw_176, hc_177, hw_177, hc_178, hw_178, hc_179, hw_179, hc_180, hw_180, hc_181, hw_181, hc_182, hw_182, hc_183, hw_183, hc_184, hw_184, hc_185, hw_185, ↓reduceIte, set1_ne, ne_eq, Nat.reduceEqDiff, not_false_eq_true, not_true_eq_false, if_true, if_false, ite_Ei, bI_eq0, pk_us, ix4, cx4, ix5, cx5, ix6, cx6, ix7, cx7, ix8, cx8, ix10, cx10, ix11, cx11, ix12, cx12, ix20, cx20, ix24, cx24, ix60, cx60, ix64, cx64, ix100, cx100, ix101, cx101, ix360, cx360, ix600, cx600]
            · unfold tapP
              rw [if_pos eA, cx6 hj, if_neg s0, cx_nI (by omega)]
              intro t ht6
              rw [set1_ne _ _ (by decide), set1_same, set1_same]
              show upd (X 182) j s t = updG P.1 j s t ∧ upd (X 183) j (nI c) t = nI (updG P.2.1 j c t) ∧ ∀ i, i < updG P.2.1 j c t → kJ (setJ K 184 f) 184 (60 * t + i) = updG P.2.2 j (fun _ => 0) t i
              by_cases e : t = j
              · subst e
                rw [pk_us, pk_us, ug_s, ug_s, ug_s]
                exact ⟨rfl, rfl, fun i hi => by rw [kJ_same]; exact hhi _ (by omega) (by omega)⟩
              · rw [pk_un e, pk_un e, ug_n e, ug_n e, ug_n e]
                obtain ⟨p1, p2, p3⟩ := hP t ht6
                refine ⟨p1, p2, fun i hi => ?_⟩
                have := (hO t ht6).1
                rw [kJ_same, hlo _ (by omega)]
                exact p3 i hi
            · unfold tapP
              rw [if_pos eA, cx6 hj, if_neg s0, cx_nI (by omega)]
              intro t ht6
              show updG P.2.1 j c t ≤ 60 ∧ ((updG P.1 j s t = -1 ∧ updG P.2.1 j c t = 0) ∨ (0 ≤ updG P.1 j s t ∧ updG P.1 j s t ≤ 4))
              by_cases e : t = j
              · subst e
                rw [ug_s, ug_s]
                exact ⟨by omega, Or.inr ⟨s0', hs.2⟩⟩
              · have := hO t ht6
                rw [ug_n e, ug_n e]
                exact this
    · have eA : tapA (nI j) s m = -2 := by
        unfold tapA
        rw [if_neg (fun q => q ht), if_pos (Or.inl hs)]
      refine stay (by rw [eA]; decide) (-2) ?_ eA
      have q1 : decide (-1 ≤ s ∧ s ≤ 4) = false := decide_eq_false hs
      simp (decide := true) only [pX12_tape_0, pX12_tape_1, pX12_tape_2, pX12_tape_5, pX12_tape_8, pX12_tape_9, pX12_tape_10, pX12_tape_11, pX12_tape_12, pX12_tape_13, pX12_tape_14, pX12_tape_17, pX12_tape_20, pX12_tape_21, pX12_tape_24, pX12_tape_25, pX12_tape_27, pX12_tape_30, pX12_tape_32, pX12_tape_33, pX12_tape_34, pX12_tape_37, pX12_tape_38, pX12_tape_41, pX12_tape_43, pX12_tape_44, pX12_tape_45, pX12_tape_48, pX12_tape_49, pX12_tape_50, pX12_tape_51, pX12_tape_52, pX12_tape_55, pX12_tape_56, pX12_tape_57, pX12_tape_60, pX12_tape_61, pX12_tape_64, pX12_tape_65, pX12_tape_66, pX12_tape_67, pX12_tape_71, pX12_tape_73, pX12_tape_76, pX12_tape_77, pX12_tape_80, pX12_tape_82, pX12_tape_83, pX12_tape_84, pX12_tape_86, pX12_tape_87, pX12_tape_88, pX12_tape_89, pX12_tape_92, pX12_tape_95, pX12_tape_96, kd_i0, kd_i1, kd_i2, kd_i3, kd_jA, kd_r5, kd_r6, kd_r7, al_i, al_j, al_r, ai_i, aj_j, aq_r, cls_o, fv_o, sti_i, stj_j, st2_s, st2_n, bnd_some, set1_same, set1_twice, hc_141, of_141_0, ow_141_0, of_141_1, ow_141_1, of_141_2, ow_141_2, of_141_3, of_141_4, of_141_5, of_141_6, of_141_7, of_141_8, ow_141_8, of_141_9, ow_141_9, of_141_10, ow_141_10, of_141_11, ow_141_11, of_141_12, ow_141_12, of_141_13, of_141_14, of_141_15, of_141_16, of_141_17, of_141_18, of_141_19, of_141_20, of_141_21, ow_141_21, of_141_22, ow_141_22, of_141_23, ow_141_23, of_141_24, of_141_25, of_141_26, of_141_27, ow_141_27, of_141_28, ow_141_28, of_141_29, ow_141_29, of_141_30, of_141_31, of_141_32, ow_141_32, of_141_33, of_141_34, of_141_35, of_141_36, ow_141_36, of_141_37, of_141_38, of_141_39, ow_141_39, of_141_40, ow_141_40, of_141_41, of_141_42, of_141_43, of_141_44, of_141_45, ow_141_45, of_141_46, ow_141_46, of_141_47, ow_141_47, of_141_48, ow_141_48, of_141_49, ow_141_49, of_141_50, ow_141_50, of_141_51, ow_141_51, of_141_52, ow_141_52, of_141_53, ow_141_53, of_141_54, of_141_55, of_141_56, of_141_57, of_141_58, of_141_59, of_141_60, of_141_61, of_141_62, of_141_63, of_141_64, of_141_65, of_141_66, ow_141_66, of_141_67, of_141_68, of_141_69, of_141_70, of_141_71, hc_142, hw_142, hc_143, hw_143, hc_144, hw_144, hc_145, hw_145, hc_146, hw_146, hc_147, hw_147, hc_148, hw_148, hc_149, hw_149, hc_150, hw_150, hc_151, hw_151, hc_152, hw_152, hc_153, hw_153, hc_154, hw_154, hc_155, hw_155, hc_156, hw_156, hc_157, hw_157, hc_158, hw_158, hc_159, hw_159, hc_160, hw_160, hc_161, hw_161, hc_162, hw_162, hc_163, hw_163, hc_164, hw_164, hc_165, hw_165, hc_166, hw_166, hc_167, hw_167, hc_168, hw_168, hc_169, hw_169, hc_170, hw_170, hc_171, hw_171, hc_172, hw_172, hc_173, hw_173, hc_174, hw_174, hc_175, hw_175, hc_176, hw_176, hc_177, hw_177, hc_178, hw_178, hc_179, hw_179, hc_180, hw_180, hc_181, hw_181, hc_182, hw_182, hc_183, hw_183, hc_184, hw_184, hc_185, hw_185, ↓reduceIte, set1_ne, ne_eq, Nat.reduceEqDiff, not_false_eq_true, not_true_eq_false, if_true, if_false, ite_Ei, bI_eq0, pk_us, ix4, cx4, ix5, cx5, ix6, cx6, ix7, cx7, ix8, cx8, ix10, cx10, ix11, cx11, ix12, cx12, ix20, cx20, ix24, cx24, ix60, cx60, ix64, cx64, ix100, cx100, ix101, cx101, ix360, cx360, ix600, cx600, c_isTape, ht, and_self, bI_t, c_in, q1, bI_f]
  · have eA : tapA t s m = -1 := by unfold tapA; rw [if_pos ht]
    refine stay (by rw [eA]; decide) (-1) ?_ eA
    have q1 : decide (0 ≤ t ∧ t ≤ 5) = false := decide_eq_false ht
    simp (decide := true) only [pX12_tape_0, pX12_tape_1, pX12_tape_2, pX12_tape_5, pX12_tape_8, pX12_tape_9, pX12_tape_10, pX12_tape_11, pX12_tape_12, pX12_tape_13, pX12_tape_14, pX12_tape_17, pX12_tape_20, pX12_tape_21, pX12_tape_24, pX12_tape_25, pX12_tape_27, pX12_tape_30, pX12_tape_32, pX12_tape_33, pX12_tape_34, pX12_tape_37, pX12_tape_38, pX12_tape_41, pX12_tape_43, pX12_tape_44, pX12_tape_45, pX12_tape_48, pX12_tape_49, pX12_tape_50, pX12_tape_51, pX12_tape_52, pX12_tape_55, pX12_tape_56, pX12_tape_57, pX12_tape_60, pX12_tape_61, pX12_tape_64, pX12_tape_65, pX12_tape_66, pX12_tape_67, pX12_tape_71, pX12_tape_73, pX12_tape_76, pX12_tape_77, pX12_tape_80, pX12_tape_82, pX12_tape_83, pX12_tape_84, pX12_tape_86, pX12_tape_87, pX12_tape_88, pX12_tape_89, pX12_tape_92, pX12_tape_95, pX12_tape_96, kd_i0, kd_i1, kd_i2, kd_i3, kd_jA, kd_r5, kd_r6, kd_r7, al_i, al_j, al_r, ai_i, aj_j, aq_r, cls_o, fv_o, sti_i, stj_j, st2_s, st2_n, bnd_some, set1_same, set1_twice, hc_141, of_141_0, ow_141_0, of_141_1, ow_141_1, of_141_2, ow_141_2, of_141_3, of_141_4, of_141_5, of_141_6, of_141_7, of_141_8, ow_141_8, of_141_9, ow_141_9, of_141_10, ow_141_10, of_141_11, ow_141_11, of_141_12, ow_141_12, of_141_13, of_141_14, of_141_15, of_141_16, of_141_17, of_141_18, of_141_19, of_141_20, of_141_21, ow_141_21, of_141_22, ow_141_22, of_141_23, ow_141_23, of_141_24, of_141_25, of_141_26, of_141_27, ow_141_27, of_141_28, ow_141_28, of_141_29, ow_141_29, of_141_30, of_141_31, of_141_32, ow_141_32, of_141_33, of_141_34, of_141_35, of_141_36, ow_141_36, of_141_37, of_141_38, of_141_39, ow_141_39, of_141_40, ow_141_40, of_141_41, of_141_42, of_141_43, of_141_44, of_141_45, ow_141_45, of_141_46, ow_141_46, of_141_47, ow_141_47, of_141_48, ow_141_48, of_141_49, ow_141_49, of_141_50, ow_141_50, of_141_51, ow_141_51, of_141_52, ow_141_52, of_141_53, ow_141_53, of_141_54, of_141_55, of_141_56, of_141_57, of_141_58, of_141_59, of_141_60, of_141_61, of_141_62, of_141_63, of_141_64, of_141_65, of_141_66, ow_141_66, of_141_67, of_141_68, of_141_69, of_141_70, of_141_71, hc_142, hw_142, hc_143, hw_143, hc_144, hw_144, hc_145, hw_145, hc_146, hw_146, hc_147, hw_147, hc_148, hw_148, hc_149, hw_149, hc_150, hw_150, hc_151, hw_151, hc_152, hw_152, hc_153, hw_153, hc_154, hw_154, hc_155, hw_155, hc_156, hw_156, hc_157, hw_157, hc_158, hw_158, hc_159, hw_159, hc_160, hw_160, hc_161, hw_161, hc_162, hw_162, hc_163, hw_163, hc_164, hw_164, hc_165, hw_165, hc_166, hw_166, hc_167, hw_167, hc_168, hw_168, hc_169, hw_169, hc_170, hw_170, hc_171, hw_171, hc_172, hw_172, hc_173, hw_173, hc_174, hw_174, hc_175, hw_175, hc_176, hw_176, hc_177, hw_177, hc_178, hw_178, hc_179, hw_179, hc_180, hw_180, hc_181, hw_181, hc_182, hw_182, hc_183, hw_183, hc_184, hw_184, hc_185, hw_185, ↓reduceIte, set1_ne, ne_eq, Nat.reduceEqDiff, not_false_eq_true, not_true_eq_false, if_true, if_false, ite_Ei, bI_eq0, pk_us, ix4, cx4, ix5, cx5, ix6, cx6, ix7, cx7, ix8, cx8, ix10, cx10, ix11, cx11, ix12, cx12, ix20, cx20, ix24, cx24, ix60, cx60, ix64, cx64, ix100, cx100, ix101, cx101, ix360, cx360, ix600, cx600, c_isTape, q1, bI_f]
