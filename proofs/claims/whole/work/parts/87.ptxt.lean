/-! Class and reference read a text alike. -/
abbrev PX : Type := Bool × Nat × List Cla
def enF (n : Int32) (c : Cla) : Int32 := if c.1 = 2 then c.2.1 else n
def CTx (tx : List Int32) (k p : Nat) (R : PX) : Prop := ∀ (K : KT) (i : Nat) (X : Nat → Nat → Int32) (S n z : Nat), WS K tx i X p S → ∃ Y S', E 25 mX10_readAll 2 [.ref (186 + 6 * i), .int (nI k)] [] (hp K X, n, z) = some (some (.int (bI R.1)), (hp K Y, n, z)) ∧ WS K tx i Y R.2.1 S' ∧ FWc i S X Y ∧ (R.1 = true → S' = S + (cods R.2.2).length ∧ AtS Y i S (cods R.2.2) ∧ Y (186 + 6 * i) 3 = R.2.2.foldl enF (X (186 + 6 * i) 3))
/-- what reading a text changes in the reference: the wall f, clauses from k on, signs from s on -/
def FTx (f k s : Nat) (X Y : Nat → Nat → Int32) : Prop := Fr [141, 148, 149, 150, 151, 152, 153, 154] X Y ∧ R1 [11, 12, 21, 22, 23] X Y ∧ (∀ j, j ≠ f → Y 148 j = X 148 j) ∧ (∀ j, j < 10 * f + k → Y 149 j = X 149 j ∧ Y 150 j = X 150 j ∧ Y 151 j = X 151 j ∧ Y 152 j = X 152 j) ∧ ∀ j, j < s → Y 153 j = X 153 j
def RTx (tx : List Int32) (k p : Nat) (R : PX) : Prop := ∀ (K : KT) (X : Nat → Nat → Int32) (f B s n z : Nat), RSc tx B X p s → f < 6 → ∃ Y, E 7 mX12_goesText 15 [.ref 141, .int (nI f), .int (nI k)] [] (hp K X, n, z) = some (some (.int (bI R.1)), (hp K Y, n, z)) ∧ Y 141 11 = nI R.2.1 ∧ FTx f k s X Y ∧ (R.1 = true → Y 148 f = nI (k + R.2.2.length) ∧ ∃ s', s' ≤ B + 100 ∧ ∀ i (h : i < R.2.2.length), RWs Y (10 * f + k + i) R.2.2[i] s')
theorem FTx_trans {f k k' s s' : Nat} {X Y Z : Nat → Nat → Int32} (h : FTx f k s X Y) (g : FTx f k' s' Y Z) (hk : k ≤ k') (hs : s ≤ s') : FTx f k s X Z := ⟨Fr_trans h.1 g.1, R1_trans h.2.1 g.2.1, fun j hj => (g.2.2.1 j hj).trans (h.2.2.1 j hj), fun j hj => ⟨(g.2.2.2.1 j (by omega)).1.trans (h.2.2.2.1 j hj).1, (g.2.2.2.1 j (by omega)).2.1.trans (h.2.2.2.1 j hj).2.1, (g.2.2.2.1 j (by omega)).2.2.1.trans (h.2.2.2.1 j hj).2.2.1, (g.2.2.2.1 j (by omega)).2.2.2.trans (h.2.2.2.1 j hj).2.2.2⟩, fun j hj => (g.2.2.2.2 j (by omega)).trans (h.2.2.2.2 j hj)⟩
theorem FTx_FC {f k s : Nat} {X Y : Nat → Nat → Int32} (h : FC (10 * f + k) s X Y) : FTx f k s X Y := ⟨Fr_sub h.1 (by intro q; simp; omega), h.2.1, fun j _ => by rw [h.1 148 (by decide)], fun j hj => h.2.2.1 j (by omega), h.2.2.2⟩
theorem FTx_cl {f k s : Nat} {x : Int32} {X : Nat → Nat → Int32} : FTx f k s X (set1 X 148 (upd (X 148) f x)) := ⟨fun a ha => set1_ne _ _ (fun e => ha (by rw [e]; decide)), fun j _ => by rw [set1_ne _ _ (by decide)], fun j hj => by rw [set1_same, pk_un hj], fun j _ => by rw [set1_ne _ _ (by decide), set1_ne _ _ (by decide), set1_ne _ _ (by decide), set1_ne _ _ (by decide)]; exact ⟨rfl, rfl, rfl, rfl⟩, fun j _ => by rw [set1_ne _ _ (by decide)]⟩
theorem RWs_keep {f k s c : Nat} {cl : Cla} {X Y : Nat → Nat → Int32} (h : FTx f k s X Y) (hc : c < 10 * f + k) (g : RWs X c cl s) : RWs Y c cl s := by
  obtain ⟨a1, a2, a3, a4⟩ := h.2.2.2.1 c hc
  obtain ⟨g1, g2, g3⟩ := g
  refine ⟨a1.trans g1, a2.trans g2, ?_⟩
  rcases g3 with g3 | ⟨g3, a, b1, b2, b3, b4, b5⟩
  · exact Or.inl g3
  · refine Or.inr ⟨g3, a, a3.trans b1, a4.trans b2, b3, fun i hi => ?_, b5⟩
    rw [h.2.2.2.2 _ (by omega)]
    exact b4 i hi
theorem RWs_le {s s' c : Nat} {cl : Cla} {X : Nat → Nat → Int32} (hs : s ≤ s') (g : RWs X c cl s) : RWs X c cl s' := by
  obtain ⟨g1, g2, g3⟩ := g
  refine ⟨g1, g2, g3.imp id ?_⟩
  rintro ⟨g3, a, b1, b2, b3, b4⟩
  exact ⟨g3, a, b1, b2, by omega, b4⟩
theorem RSc_148 {tx : List Int32} {B p s f : Nat} {x : Int32} {X : Nat → Nat → Int32} (h : RSc tx B X p s) : RSc tx B (set1 X 148 (upd (X 148) f x)) p s := by
  obtain ⟨⟨⟨h1, h2, h3⟩, h4, h5⟩, h6, h7, h8, h9, h10⟩ := h
  refine ⟨⟨⟨?_, ?_, h3⟩, ?_, h5⟩, ?_, h7, h8, h9, ?_⟩
  · rw [set1_ne _ _ (by decide)]; exact h1
  · intro j hj; rw [set1_ne _ _ (by decide)]; exact h2 j hj
  · rw [set1_ne _ _ (by decide)]; exact h4
  · rw [set1_ne _ _ (by decide)]; exact h6
  · intro j hj; rw [set1_ne _ _ (by decide)]; exact h10 j hj
theorem ptx {tx : List Int32} (ht : tOk tx) : ∀ m k p, m + k = 10 → 0 < m → p ≤ tx.length → ∃ R : PX, CTx tx k p R ∧ RTx tx k p R ∧ (R.1 = true → (∀ c, c ∈ R.2.2 → wfc c) ∧ R.2.2.length ≤ m) := by
  intro m
  induction m with
  | zero => intro k p _ h; exact absurd h (by omega)
  | succ m ih =>
    intro k p hmk _ hp0
    obtain ⟨C, c1, c2, c3⟩ := pclx ht hp0
    have hk10 : ¬ (10 : Int32) ≤ nI k := nI_ge (b := 10) (by omega) (by decide)
    cases hb : C.1 with
    | false =>
      refine ⟨(false, C.2.1, []), ?_, ?_, fun q => by cases q⟩
      · intro K i X S n z h
        have hi := h.1
        obtain ⟨Y, S', e, wY, fY, _, _⟩ := c1 K i X S n z h
        rw [hb] at e
        refine ⟨Y, S', ?_, wY, fY, fun q => by cases q⟩
        simp (decide := true) only [pX10_readAll_0, pX10_readAll_1, pX10_readAll_2, pX10_readAll_3, pX10_readAll_5, pX10_readAll_8, pX10_readAll_9, pX10_readAll_12, pX10_readAll_15, pX10_readAll_16, pX10_readAll_16t, pX10_readAll_16f, pX10_readAll_17, pX10_readAll_18, pX10_readAll_21, pX10_readAll_22, pX10_readAll_25, pX10_readAll_26, pX10_readAll_29, pX10_readAll_30, pX10_readAll_30t, pX10_readAll_30f, pX10_readAll_31, pX10_readAll_32, pX10_readAll_33, pX10_readAll_34, pX10_readAll_36, pX10_readAll_39, pX10_readAll_40, pX10_readAll_42, pX10_readAll_45, pX10_readAll_48, pX10_readAll_49, pX10_readAll_49t, pX10_readAll_49f, pX10_readAll_50, pX10_readAll_53, pX10_readAll_56, pX10_readAll_57, pX10_readAll_57t, pX10_readAll_57f, kd_i0, kd_i1, kd_i2, kd_i3, kd_jA, kd_r5, kd_r6, kd_r7, al_i, al_j, al_r, ai_i, aj_j, aq_r, cls_o, fv_o, sti_i, stj_j, st2_s, st2_n, bnd_some, set1_same, set1_twice, wc_0 hi, wc_1 hi, wc_2 hi, wc_3 hi, wc_4 hi, wc_5 hi, ww_1 hi, ww_2 hi, ww_3 hi, ww_4 hi, ww_5 hi, wow_1 hi, wow_2 hi, wow_3 hi, wow_7 hi, wo_0, wo_1, wo_2, wo_3, wo_4, wo_5, wo_6, wo_7, wo_8, ↓reduceIte, set1_ne, ne_eq, Nat.reduceEqDiff, not_false_eq_true, not_true_eq_false, if_true, if_false, ite_Ei, bI_eq0, pk_us, ix4, cx4, ix5, cx5, ix6, cx6, ix7, cx7, ix8, cx8, ix10, cx10, ix11, cx11, ix12, cx12, ix20, cx20, ix24, cx24, ix60, cx60, ix64, cx64, ix100, cx100, ix101, cx101, ix360, cx360, ix600, cx600, hk10, e, bI_f, nb0]
      · intro K X f B s n z h hf
        have ec : (10 : Int32) * nI f + nI k = nI (10 * f + k) := by rw [show (10 : Int32) = nI 10 from rfl, pk_mul, nI_add]
        obtain ⟨Y, e, y11, fY, _⟩ := c2 K X (10 * f + k) B s n z h (by omega)
        rw [hb] at e
        refine ⟨Y, ?_, y11, FTx_FC fY, fun q => by cases q⟩
        simp (decide := true) only [pX12_goesText_0, pX12_goesText_1, pX12_goesText_2, pX12_goesText_5, pX12_goesText_6, pX12_goesText_8, pX12_goesText_9, pX12_goesText_10, pX12_goesText_13, pX12_goesText_14, pX12_goesText_15, pX12_goesText_16, pX12_goesText_18, pX12_goesText_19, pX12_goesText_20, pX12_goesText_21, pX12_goesText_22, pX12_goesText_25, pX12_goesText_28, pX12_goesText_29, pX12_goesText_29t, pX12_goesText_29f, pX12_goesText_30, pX12_goesText_33, pX12_goesText_34, pX12_goesText_37, pX12_goesText_38, pX12_goesText_39, pX12_goesText_40, pX12_goesText_41, pX12_goesText_44, pX12_goesText_45, pX12_goesText_48, pX12_goesText_51, pX12_goesText_52, pX12_goesText_52t, pX12_goesText_52f, pX12_goesText_53, pX12_goesText_54, pX12_goesText_56, pX12_goesText_59, pX12_goesText_60, pX12_goesText_62, pX12_goesText_65, pX12_goesText_68, pX12_goesText_69, pX12_goesText_69t, pX12_goesText_69f, kd_i0, kd_i1, kd_i2, kd_i3, kd_jA, kd_r5, kd_r6, kd_r7, al_i, al_j, al_r, ai_i, aj_j, aq_r, cls_o, fv_o, sti_i, stj_j, st2_s, st2_n, bnd_some, set1_same, set1_twice, hc_141, of_141_0, ow_141_0, of_141_1, ow_141_1, of_141_2, ow_141_2, of_141_3, of_141_4, of_141_5, of_141_6, of_141_7, of_141_8, ow_141_8, of_141_9, ow_141_9, of_141_10, ow_141_10, of_141_11, ow_141_11, of_141_12, ow_141_12, of_141_13, of_141_14, of_141_15, of_141_16, of_141_17, of_141_18, of_141_19, of_141_20, of_141_21, ow_141_21, of_141_22, ow_141_22, of_141_23, ow_141_23, of_141_24, of_141_25, of_141_26, of_141_27, ow_141_27, of_141_28, ow_141_28, of_141_29, ow_141_29, of_141_30, of_141_31, of_141_32, ow_141_32, of_141_33, of_141_34, of_141_35, of_141_36, ow_141_36, of_141_37, of_141_38, of_141_39, ow_141_39, of_141_40, ow_141_40, of_141_41, of_141_42, of_141_43, of_141_44, of_141_45, ow_141_45, of_141_46, ow_141_46, of_141_47, ow_141_47, of_141_48, ow_141_48, of_141_49, ow_141_49, of_141_50, ow_141_50, of_141_51, ow_141_51, of_141_52, ow_141_52, of_141_53, ow_141_53, of_141_54, of_141_55, of_141_56, of_141_57, of_141_58, of_141_59, of_141_60, of_141_61, of_141_62, of_141_63, of_141_64, of_141_65, of_141_66, ow_141_66, of_141_67, of_141_68, of_141_69, of_141_70, of_141_71, hc_142, hw_142, hc_143, hw_143, hc_144, hw_144, hc_145, hw_145, hc_146, hw_146, hc_147, hw_147, hc_148, hw_148, hc_149, hw_149, hc_150, hw_150, hc_151, hw_151, hc_152, hw_152, hc_153, hw_153, hc_154, hw_154, hc_155, hw_155, hc_156, hw_156, hc_157, hw_157, hc_158, hw_158, hc_159, hw_159, hc_160, hw_160, hc_161, hw_161, hc_162, hw_162, hc_163, hw_163, hc_164, hw_164, hc_165, hw_165, hc_166, hw_166, hc_167, hw_167, hc_168, hw_168, hc_169, hw_169, hc_170, hw_170, hc_171, hw_171, hc_172, hw_172, hc_173, hw_173, hc_174, hw_174, hc_175, hw_175, hc_176, hw_176, hc_177, hw_177, hc_178, hw_178, hc_179, hw_179, hc_180, hw_180, hc_181, hw_181, hc_182, hw_182, hc_183, hw_183, hc_184, hw_184, hc_185, hw_185, ↓reduceIte, set1_ne, ne_eq, Nat.reduceEqDiff, not_false_eq_true, not_true_eq_false, if_true, if_false, ite_Ei, bI_eq0, pk_us, ix4, cx4, ix5, cx5, ix6, cx6, ix7, cx7, ix8, cx8, ix10, cx10, ix11, cx11, ix12, cx12, ix20, cx20, ix24, cx24, ix60, cx60, ix64, cx64, ix100, cx100, ix101, cx101, ix360, cx360, ix600, cx600, ec, e, bI_f, nb0]
    | true =>
      obtain ⟨d1, d2, d3⟩ := c3 hb
      -- what both do behind the clause
      by_cases pe : C.2.1 = tx.length
      · refine ⟨(true, C.2.1, [C.2.2]), ?_, ?_, fun _ => ⟨fun c hc => (by
          have e1 : c = C.2.2 := (by simpa using hc)
          rw [e1]
          exact d3), (by show 1 ≤ m + 1; omega)⟩⟩
        · intro K i X S n z h
          have hi := h.1
          have h2 := h.2.1
          obtain ⟨Y, S', e, wY, fY, _, ok⟩ := c1 K i X S n z h
          obtain ⟨o1, o2, o3⟩ := ok hb
          rw [hb] at e
          have y5 := wY.2.2.2.2.1
          have q1 : ¬ nI C.2.1 < nI tx.length := by rw [pe]; exact nI_nlt (Nat.le_refl _) (by have := h.2.2.1; omega)
          have wcY := wc_0 (K := K) (X := Y) hi
          refine ⟨Y, S', ?_, wY, fY, fun _ => ?_⟩
          · simp (decide := true) only [pX10_readAll_0, pX10_readAll_1, pX10_readAll_2, pX10_readAll_3, pX10_readAll_5, pX10_readAll_8, pX10_readAll_9, pX10_readAll_12, pX10_readAll_15, pX10_readAll_16, pX10_readAll_16t, pX10_readAll_16f, pX10_readAll_17, pX10_readAll_18, pX10_readAll_21, pX10_readAll_22, pX10_readAll_25, pX10_readAll_26, pX10_readAll_29, pX10_readAll_30, pX10_readAll_30t, pX10_readAll_30f, pX10_readAll_31, pX10_readAll_32, pX10_readAll_33, pX10_readAll_34, pX10_readAll_36, pX10_readAll_39, pX10_readAll_40, pX10_readAll_42, pX10_readAll_45, pX10_readAll_48, pX10_readAll_49, pX10_readAll_49t, pX10_readAll_49f, pX10_readAll_50, pX10_readAll_53, pX10_readAll_56, pX10_readAll_57, pX10_readAll_57t, pX10_readAll_57f, kd_i0, kd_i1, kd_i2, kd_i3, kd_jA, kd_r5, kd_r6, kd_r7, al_i, al_j, al_r, ai_i, aj_j, aq_r, cls_o, fv_o, sti_i, stj_j, st2_s, st2_n, bnd_some, set1_same, set1_twice, wc_0 hi, wc_1 hi, wc_2 hi, wc_3 hi, wc_4 hi, wc_5 hi, ww_1 hi, ww_2 hi, ww_3 hi, ww_4 hi, ww_5 hi, wow_1 hi, wow_2 hi, wow_3 hi, wow_7 hi, wo_0, wo_1, wo_2, wo_3, wo_4, wo_5, wo_6, wo_7, wo_8, ↓reduceIte, set1_ne, ne_eq, Nat.reduceEqDiff, not_false_eq_true, not_true_eq_false, if_true, if_false, ite_Ei, bI_eq0, pk_us, ix4, cx4, ix5, cx5, ix6, cx6, ix7, cx7, ix8, cx8, ix10, cx10, ix11, cx11, ix12, cx12, ix20, cx20, ix24, cx24, ix60, cx60, ix64, cx64, ix100, cx100, ix101, cx101, ix360, cx360, ix600, cx600, hk10, e, bI_t, y5, h2, ofNat_nI, q1, nb1]
          · have ec : cods [C.2.2] = codC C.2.2 := by unfold cods; simp
            show S' = S + (cods [C.2.2]).length ∧ AtS Y i S (cods [C.2.2]) ∧ _
            rw [ec]
            exact ⟨o1, o2, o3⟩
        · intro K X f B s n z h hf
          have ec : (10 : Int32) * nI f + nI k = nI (10 * f + k) := by rw [show (10 : Int32) = nI 10 from rfl, pk_mul, nI_add]
          obtain ⟨Y, e, y11, fY, ok⟩ := c2 K X (10 * f + k) B s n z h (by omega)
          obtain ⟨s', hs', rw1, rs1⟩ := ok hb
          rw [hb] at e
          have y10 := rs1.1.1.1
          refine ⟨set1 Y 148 (upd (Y 148) f (nI (k + 1))), ?_, ?_, FTx_trans (FTx_FC fY) FTx_cl (Nat.le_refl _) (Nat.le_refl _), fun _ => ⟨?_, s', ?_, ?_⟩⟩
          · rw [pe] at y11
            simp (decide := true) only [pX12_goesText_0, pX12_goesText_1, pX12_goesText_2, pX12_goesText_5, pX12_goesText_6, pX12_goesText_8, pX12_goesText_9, pX12_goesText_10, pX12_goesText_13, pX12_goesText_14, pX12_goesText_15, pX12_goesText_16, pX12_goesText_18, pX12_goesText_19, pX12_goesText_20, pX12_goesText_21, pX12_goesText_22, pX12_goesText_25, pX12_goesText_28, pX12_goesText_29, pX12_goesText_29t, pX12_goesText_29f, pX12_goesText_30, pX12_goesText_33, pX12_goesText_34, pX12_goesText_37, pX12_goesText_38, pX12_goesText_39, pX12_goesText_40, pX12_goesText_41, pX12_goesText_44, pX12_goesText_45, pX12_goesText_48, pX12_goesText_51, pX12_goesText_52, pX12_goesText_52t, pX12_goesText_52f, pX12_goesText_53, pX12_goesText_54, pX12_goesText_56, pX12_goesText_59, pX12_goesText_60, pX12_goesText_62, pX12_goesText_65, pX12_goesText_68, pX12_goesText_69, pX12_goesText_69t, pX12_goesText_69f, kd_i0, kd_i1, kd_i2, kd_i3, kd_jA, kd_r5, kd_r6, kd_r7, al_i, al_j, al_r, ai_i, aj_j, aq_r, cls_o, fv_o, sti_i, stj_j, st2_s, st2_n, bnd_some, set1_same, set1_twice, hc_141, of_141_0, ow_141_0, of_141_1, ow_141_1, of_141_2, ow_141_2, of_141_3, of_141_4, of_141_5, of_141_6, of_141_7, of_141_8, ow_141_8, of_141_9, ow_141_9, of_141_10, ow_141_10, of_141_11, ow_141_11, of_141_12, ow_141_12, of_141_13, of_141_14, of_141_15, of_141_16, of_141_17, of_141_18, of_141_19, of_141_20, of_141_21, ow_141_21, of_141_22, ow_141_22, of_141_23, ow_141_23, of_141_24, of_141_25, of_141_26, of_141_27, ow_141_27, of_141_28, ow_141_28, of_141_29, ow_141_29, of_141_30, of_141_31, of_141_32, ow_141_32, of_141_33, of_141_34, of_141_35, of_141_36, ow_141_36, of_141_37, of_141_38, of_141_39, ow_141_39, of_141_40, ow_141_40, of_141_41, of_141_42, of_141_43, of_141_44, of_141_45, ow_141_45, of_141_46, ow_141_46, of_141_47, ow_141_47, of_141_48, ow_141_48, of_141_49, ow_141_49, of_141_50, ow_141_50, of_141_51, ow_141_51, of_141_52, ow_141_52, of_141_53, ow_141_53, of_141_54, of_141_55, of_141_56, of_141_57, of_141_58, of_141_59, of_141_60, of_141_61, of_141_62, of_141_63, of_141_64, of_141_65, of_141_66, ow_141_66, of_141_67, of_141_68, of_141_69, of_141_70, of_141_71, hc_142, hw_142, hc_143, hw_143, hc_144, hw_144, hc_145, hw_145, hc_146, hw_146, hc_147, hw_147, hc_148, hw_148, hc_149, hw_149, hc_150, hw_150, hc_151, hw_151, hc_152, hw_152, hc_153, hw_153, hc_154, hw_154, hc_155, hw_155, hc_156, hw_156, hc_157, hw_157, hc_158, hw_158, hc_159, hw_159, hc_160, hw_160, hc_161, hw_161, hc_162, hw_162, hc_163, hw_163, hc_164, hw_164, hc_165, hw_165, hc_166, hw_166, hc_167, hw_167, hc_168, hw_168, hc_169, hw_169, hc_170, hw_170, hc_171, hw_171, hc_172, hw_172, hc_173, hw_173, hc_174, hw_174, hc_175, hw_175, hc_176, hw_176, hc_177, hw_177, hc_178, hw_178, hc_179, hw_179, hc_180, hw_180, hc_181, hw_181, hc_182, hw_182, hc_183, hw_183, hc_184, hw_184, hc_185, hw_185, ↓reduceIte, set1_ne, ne_eq, Nat.reduceEqDiff, not_false_eq_true, not_true_eq_false, if_true, if_false, ite_Ei, bI_eq0, pk_us, ix4, cx4, ix5, cx5, ix6, cx6, ix7, cx7, ix8, cx8, ix10, cx10, ix11, cx11, ix12, cx12, ix20, cx20, ix24, cx24, ix60, cx60, ix64, cx64, ix100, cx100, ix101, cx101, ix360, cx360, ix600, cx600, ec, e, bI_t, hf, nI_1, y11, y10, nb1]
          · rw [set1_ne _ _ (by decide)]; exact y11
          · rw [set1_same, pk_us]; rfl
          · have b1 := rs1.2.2.1
            have b2 := rs1.1.2.2
            have b3 := rs1.1.1.2.2
            have b4 := rs1.2.2.2.2.1
            omega
          · intro i hi
            have : i = 0 := by simpa using hi
            subst this
            show RWs _ (10 * f + k + 0) C.2.2 s'
            rw [Nat.add_zero]
            exact RWs_keep (f := f) (k := k + 1) FTx_cl (by omega) rw1
      · have plt : C.2.1 < tx.length := by omega
        by_cases kk : k + 1 = 10 ∨ ¬ sg tx C.2.1 = 59
        · refine ⟨(false, C.2.1, []), ?_, ?_, fun q => by cases q⟩
          · intro K i X S n z h
            have hi := h.1
            have h2 := h.2.1
            have hl := h.2.2.1
            obtain ⟨Y, S', e, wY, fY, _, ok⟩ := c1 K i X S n z h
            rw [hb] at e
            have y5 := wY.2.2.2.2.1
            have q1 : nI C.2.1 < nI tx.length := nI_lt plt (by omega)
            have wcY := wc_0 (K := K) (X := Y) hi
            refine ⟨Y, S', ?_, wY, fY, fun q => by cases q⟩
            by_cases k9 : k + 1 = 10
            · have e10 : nI (k + 1) = 10 := by rw [k9]; rfl
              simp (decide := true) only [pX10_readAll_0, pX10_readAll_1, pX10_readAll_2, pX10_readAll_3, pX10_readAll_5, pX10_readAll_8, pX10_readAll_9, pX10_readAll_12, pX10_readAll_15, pX10_readAll_16, pX10_readAll_16t, pX10_readAll_16f, pX10_readAll_17, pX10_readAll_18, pX10_readAll_21, pX10_readAll_22, pX10_readAll_25, pX10_readAll_26, pX10_readAll_29, pX10_readAll_30, pX10_readAll_30t, pX10_readAll_30f, pX10_readAll_31, pX10_readAll_32, pX10_readAll_33, pX10_readAll_34, pX10_readAll_36, pX10_readAll_39, pX10_readAll_40, pX10_readAll_42, pX10_readAll_45, pX10_readAll_48, pX10_readAll_49, pX10_readAll_49t, pX10_readAll_49f, pX10_readAll_50, pX10_readAll_53, pX10_readAll_56, pX10_readAll_57, pX10_readAll_57t, pX10_readAll_57f, kd_i0, kd_i1, kd_i2, kd_i3, kd_jA, kd_r5, kd_r6, kd_r7, al_i, al_j, al_r, ai_i, aj_j, aq_r, cls_o, fv_o, sti_i, stj_j, st2_s, st2_n, bnd_some, set1_same, set1_twice, wc_0 hi, wc_1 hi, wc_2 hi, wc_3 hi, wc_4 hi, wc_5 hi, ww_1 hi, ww_2 hi, ww_3 hi, ww_4 hi, ww_5 hi, wow_1 hi, wow_2 hi, wow_3 hi, wow_7 hi, wo_0, wo_1, wo_2, wo_3, wo_4, wo_5, wo_6, wo_7, wo_8, ↓reduceIte, set1_ne, ne_eq, Nat.reduceEqDiff, not_false_eq_true, not_true_eq_false, if_true, if_false, ite_Ei, bI_eq0, pk_us, ix4, cx4, ix5, cx5, ix6, cx6, ix7, cx7, ix8, cx8, ix10, cx10, ix11, cx11, ix12, cx12, ix20, cx20, ix24, cx24, ix60, cx60, ix64, cx64, ix100, cx100, ix101, cx101, ix360, cx360, ix600, cx600, hk10, e, bI_t, y5, h2, ofNat_nI, q1, nI_1, e10, nb0, bI_f]
            · have e10 : ¬ nI (k + 1) = 10 := fun q => k9 ((nI_eq (b := 10) (by omega) (by decide)).mp q)
              have g59 := kk.resolve_left k9
              have er := w_rs (n := n) (z := z) (c := 59) wY
              rw [decide_eq_false g59, if_neg g59] at er
              simp (decide := true) only [pX10_readAll_0, pX10_readAll_1, pX10_readAll_2, pX10_readAll_3, pX10_readAll_5, pX10_readAll_8, pX10_readAll_9, pX10_readAll_12, pX10_readAll_15, pX10_readAll_16, pX10_readAll_16t, pX10_readAll_16f, pX10_readAll_17, pX10_readAll_18, pX10_readAll_21, pX10_readAll_22, pX10_readAll_25, pX10_readAll_26, pX10_readAll_29, pX10_readAll_30, pX10_readAll_30t, pX10_readAll_30f, pX10_readAll_31, pX10_readAll_32, pX10_readAll_33, pX10_readAll_34, pX10_readAll_36, pX10_readAll_39, pX10_readAll_40, pX10_readAll_42, pX10_readAll_45, pX10_readAll_48, pX10_readAll_49, pX10_readAll_49t, pX10_readAll_49f, pX10_readAll_50, pX10_readAll_53, pX10_readAll_56, pX10_readAll_57, pX10_readAll_57t, pX10_readAll_57f, kd_i0, kd_i1, kd_i2, kd_i3, kd_jA, kd_r5, kd_r6, kd_r7, al_i, al_j, al_r, ai_i, aj_j, aq_r, cls_o, fv_o, sti_i, stj_j, st2_s, st2_n, bnd_some, set1_same, set1_twice, wc_0 hi, wc_1 hi, wc_2 hi, wc_3 hi, wc_4 hi, wc_5 hi, ww_1 hi, ww_2 hi, ww_3 hi, ww_4 hi, ww_5 hi, wow_1 hi, wow_2 hi, wow_3 hi, wow_7 hi, wo_0, wo_1, wo_2, wo_3, wo_4, wo_5, wo_6, wo_7, wo_8, ↓reduceIte, set1_ne, ne_eq, Nat.reduceEqDiff, not_false_eq_true, not_true_eq_false, if_true, if_false, ite_Ei, bI_eq0, pk_us, ix4, cx4, ix5, cx5, ix6, cx6, ix7, cx7, ix8, cx8, ix10, cx10, ix11, cx11, ix12, cx12, ix20, cx20, ix24, cx24, ix60, cx60, ix64, cx64, ix100, cx100, ix101, cx101, ix360, cx360, ix600, cx600, hk10, e, bI_t, y5, h2, ofNat_nI, q1, nI_1, e10, er, nb0, bI_f]
          · intro K X f B s n z h hf
            have hl := h.1.1.2.2
            have ec : (10 : Int32) * nI f + nI k = nI (10 * f + k) := by rw [show (10 : Int32) = nI 10 from rfl, pk_mul, nI_add]
            obtain ⟨Y, e, y11, fY, ok⟩ := c2 K X (10 * f + k) B s n z h (by omega)
            obtain ⟨s', hs', rw1, rs1⟩ := ok hb
            rw [hb] at e
            have y10 := rs1.1.1.1
            have qn : ¬ nI C.2.1 = nI tx.length := fun q => pe ((nI_eq (by omega) (by omega)).mp q)
            refine ⟨set1 Y 148 (upd (Y 148) f (nI (k + 1))), ?_, ?_, FTx_trans (FTx_FC fY) FTx_cl (Nat.le_refl _) (Nat.le_refl _), fun q => by cases q⟩
            · by_cases k9 : k + 1 = 10
              · have e10 : nI (k + 1) = 10 := by rw [k9]; rfl
                simp (decide := true) only [pX12_goesText_0, pX12_goesText_1, pX12_goesText_2, pX12_goesText_5, pX12_goesText_6, pX12_goesText_8, pX12_goesText_9, pX12_goesText_10, pX12_goesText_13, pX12_goesText_14, pX12_goesText_15, pX12_goesText_16, pX12_goesText_18, pX12_goesText_19, pX12_goesText_20, pX12_goesText_21, pX12_goesText_22, pX12_goesText_25, pX12_goesText_28, pX12_goesText_29, pX12_goesText_29t, pX12_goesText_29f, pX12_goesText_30, pX12_goesText_33, pX12_goesText_34, pX12_goesText_37, pX12_goesText_38, pX12_goesText_39, pX12_goesText_40, pX12_goesText_41, pX12_goesText_44, pX12_goesText_45, pX12_goesText_48, pX12_goesText_51, pX12_goesText_52, pX12_goesText_52t, pX12_goesText_52f, pX12_goesText_53, pX12_goesText_54, pX12_goesText_56, pX12_goesText_59, pX12_goesText_60, pX12_goesText_62, pX12_goesText_65, pX12_goesText_68, pX12_goesText_69, pX12_goesText_69t, pX12_goesText_69f, kd_i0, kd_i1, kd_i2, kd_i3, kd_jA, kd_r5, kd_r6, kd_r7, al_i, al_j, al_r, ai_i, aj_j, aq_r, cls_o, fv_o, sti_i, stj_j, st2_s, st2_n, bnd_some, set1_same, set1_twice, hc_141, of_141_0, ow_141_0, of_141_1, ow_141_1, of_141_2, ow_141_2, of_141_3, of_141_4, of_141_5, of_141_6, of_141_7, of_141_8, ow_141_8, of_141_9, ow_141_9, of_141_10, ow_141_10, of_141_11, ow_141_11, of_141_12, ow_141_12, of_141_13, of_141_14, of_141_15, of_141_16, of_141_17, of_141_18, of_141_19, of_141_20, of_141_21, ow_141_21, of_141_22, ow_141_22, of_141_23, ow_141_23, of_141_24, of_141_25, of_141_26, of_141_27, ow_141_27, of_141_28, ow_141_28, of_141_29, ow_141_29, of_141_30, of_141_31, of_141_32, ow_141_32, of_141_33, of_141_34, of_141_35, of_141_36, ow_141_36, of_141_37, of_141_38, of_141_39, ow_141_39, of_141_40, ow_141_40, of_141_41, of_141_42, of_141_43, of_141_44, of_141_45, ow_141_45, of_141_46, ow_141_46, of_141_47, ow_141_47, of_141_48, ow_141_48, of_141_49, ow_141_49, of_141_50, ow_141_50, of_141_51, ow_141_51, of_141_52, ow_141_52, of_141_53, ow_141_53, of_141_54, of_141_55, of_141_56, of_141_57, of_141_58, of_141_59, of_141_60, of_141_61, of_141_62, of_141_63, of_141_64, of_141_65, of_141_66, ow_141_66, of_141_67, of_141_68, of_141_69, of_141_70, of_141_71, hc_142, hw_142, hc_143, hw_143, hc_144, hw_144, hc_145, hw_145, hc_146, hw_146, hc_147, hw_147, hc_148, hw_148, hc_149, hw_149, hc_150, hw_150, hc_151, hw_151, hc_152, hw_152, hc_153, hw_153, hc_154, hw_154, hc_155, hw_155, hc_156, hw_156, hc_157, hw_157, hc_158, hw_158, hc_159, hw_159, hc_160, hw_160, hc_161, hw_161, hc_162, hw_162, hc_163, hw_163, hc_164, hw_164, hc_165, hw_165, hc_166, hw_166, hc_167, hw_167, hc_168, hw_168, hc_169, hw_169, hc_170, hw_170, hc_171, hw_171, hc_172, hw_172, hc_173, hw_173, hc_174, hw_174, hc_175, hw_175, hc_176, hw_176, hc_177, hw_177, hc_178, hw_178, hc_179, hw_179, hc_180, hw_180, hc_181, hw_181, hc_182, hw_182, hc_183, hw_183, hc_184, hw_184, hc_185, hw_185, ↓reduceIte, set1_ne, ne_eq, Nat.reduceEqDiff, not_false_eq_true, not_true_eq_false, if_true, if_false, ite_Ei, bI_eq0, pk_us, ix4, cx4, ix5, cx5, ix6, cx6, ix7, cx7, ix8, cx8, ix10, cx10, ix11, cx11, ix12, cx12, ix20, cx20, ix24, cx24, ix60, cx60, ix64, cx64, ix100, cx100, ix101, cx101, ix360, cx360, ix600, cx600, ec, e, bI_t, hf, nI_1, y11, y10, qn, e10, nb0, bI_f]
              · have e10 : ¬ nI (k + 1) = 10 := fun q => k9 ((nI_eq (b := 10) (by omega) (by decide)).mp q)
                have g59 := kk.resolve_left k9
                have er := r_takes (K := K) (n := n) (z := z) (c := 59) (RSc_148 (f := f) (x := nI (k + 1)) rs1).1
                rw [decide_eq_false g59, if_neg g59] at er
                simp (decide := true) only [pX12_goesText_0, pX12_goesText_1, pX12_goesText_2, pX12_goesText_5, pX12_goesText_6, pX12_goesText_8, pX12_goesText_9, pX12_goesText_10, pX12_goesText_13, pX12_goesText_14, pX12_goesText_15, pX12_goesText_16, pX12_goesText_18, pX12_goesText_19, pX12_goesText_20, pX12_goesText_21, pX12_goesText_22, pX12_goesText_25, pX12_goesText_28, pX12_goesText_29, pX12_goesText_29t, pX12_goesText_29f, pX12_goesText_30, pX12_goesText_33, pX12_goesText_34, pX12_goesText_37, pX12_goesText_38, pX12_goesText_39, pX12_goesText_40, pX12_goesText_41, pX12_goesText_44, pX12_goesText_45, pX12_goesText_48, pX12_goesText_51, pX12_goesText_52, pX12_goesText_52t, pX12_goesText_52f, pX12_goesText_53, pX12_goesText_54, pX12_goesText_56, pX12_goesText_59, pX12_goesText_60, pX12_goesText_62, pX12_goesText_65, pX12_goesText_68, pX12_goesText_69, pX12_goesText_69t, pX12_goesText_69f, kd_i0, kd_i1, kd_i2, kd_i3, kd_jA, kd_r5, kd_r6, kd_r7, al_i, al_j, al_r, ai_i, aj_j, aq_r, cls_o, fv_o, sti_i, stj_j, st2_s, st2_n, bnd_some, set1_same, set1_twice, hc_141, of_141_0, ow_141_0, of_141_1, ow_141_1, of_141_2, ow_141_2, of_141_3, of_141_4, of_141_5, of_141_6, of_141_7, of_141_8, ow_141_8, of_141_9, ow_141_9, of_141_10, ow_141_10, of_141_11, ow_141_11, of_141_12, ow_141_12, of_141_13, of_141_14, of_141_15, of_141_16, of_141_17, of_141_18, of_141_19, of_141_20, of_141_21, ow_141_21, of_141_22, ow_141_22, of_141_23, ow_141_23, of_141_24, of_141_25, of_141_26, of_141_27, ow_141_27, of_141_28, ow_141_28, of_141_29, ow_141_29, of_141_30, of_141_31, of_141_32, ow_141_32, of_141_33, of_141_34, of_141_35, of_141_36, ow_141_36, of_141_37, of_141_38, of_141_39, ow_141_39, of_141_40, ow_141_40, of_141_41, of_141_42, of_141_43, of_141_44, of_141_45, ow_141_45, of_141_46, ow_141_46, of_141_47, ow_141_47, of_141_48, ow_141_48, of_141_49, ow_141_49, of_141_50, ow_141_50, of_141_51, ow_141_51, of_141_52, ow_141_52, of_141_53, ow_141_53, of_141_54, of_141_55, of_141_56, of_141_57, of_141_58, of_141_59, of_141_60, of_141_61, of_141_62, of_141_63, of_141_64, of_141_65, of_141_66, ow_141_66, of_141_67, of_141_68, of_141_69, of_141_70, of_141_71, hc_142, hw_142, hc_143, hw_143, hc_144, hw_144, hc_145, hw_145, hc_146, hw_146, hc_147, hw_147, hc_148, hw_148, hc_149, hw_149, hc_150, hw_150, hc_151, hw_151, hc_152, hw_152, hc_153, hw_153, hc_154, hw_154, hc_155, hw_155, hc_156, hw_156, hc_157, hw_157, hc_158, hw_158, hc_159, hw_159, hc_160, hw_160, hc_161, hw_161, hc_162, hw_162, hc_163, hw_163, hc_164, hw_164, hc_165, hw_165, hc_166, hw_166, hc_167, hw_167, hc_168, hw_168, hc_169, hw_169, hc_170, hw_170, hc_171, hw_171, hc_172, hw_172, hc_173, hw_173, hc_174, hw_174, hc_175, hw_175, hc_176, hw_176, hc_177, hw_177, hc_178, hw_178, hc_179, hw_179, hc_180, hw_180, hc_181, hw_181, hc_182, hw_182, hc_183, hw_183, hc_184, hw_184, hc_185, hw_185, ↓reduceIte, set1_ne, ne_eq, Nat.reduceEqDiff, not_false_eq_true, not_true_eq_false, if_true, if_false, ite_Ei, bI_eq0, pk_us, ix4, cx4, ix5, cx5, ix6, cx6, ix7, cx7, ix8, cx8, ix10, cx10, ix11, cx11, ix12, cx12, ix20, cx20, ix24, cx24, ix60, cx60, ix64, cx64, ix100, cx100, ix101, cx101, ix360, cx360, ix600, cx600, ec, e, bI_t, hf, nI_1, y11, y10, qn, e10, er, nb0, bI_f]
            · rw [set1_ne _ _ (by decide)]; exact y11
        · have k9 : ¬ k + 1 = 10 := fun q => kk (Or.inl q)
          have g59 : sg tx C.2.1 = 59 := Decidable.byContradiction (fun q => kk (Or.inr q))
          obtain ⟨R, r1, r2, r3⟩ := ih (k + 1) (C.2.1 + 1) (by omega) (by omega) (by omega)
          have e10 : ¬ nI (k + 1) = 10 := fun q => k9 ((nI_eq (b := 10) (by omega) (by decide)).mp q)
          refine ⟨(R.1, R.2.1, C.2.2 :: R.2.2), ?_, ?_, fun q => ?_⟩
          · intro K i X S n z h
            have hi := h.1
            have h2 := h.2.1
            have hl := h.2.2.1
            obtain ⟨Y, S', e, wY, fY, hSS, ok⟩ := c1 K i X S n z h
            obtain ⟨o1, o2, o3⟩ := ok hb
            rw [hb] at e
            have y5 := wY.2.2.2.2.1
            have y8 := wY.2.2.2.2.2.2.2
            have q1 : nI C.2.1 < nI tx.length := nI_lt plt (by omega)
            have wcY := wc_0 (K := K) (X := Y) hi
            have er := w_rs (n := n) (z := z) (c := 59) wY
            rw [decide_eq_true g59, if_pos g59] at er
            obtain ⟨Z, S2, e2, wZ, fZ, ok2⟩ := r1 K i (setAt Y i (C.2.1 + 1)) S' n z (WS_at wY (by omega) (by omega))
            have fYZ : FWc i S' Y Z := FWc_trans (FWc_of FW_at) fZ (Nat.le_refl _)
            refine ⟨Z, S2, ?_, wZ, FWc_trans fY fYZ hSS, fun q => ?_⟩
            · rw [← e2]
              conv => lhs; rw [pX10_readAll_2]
              simp (decide := true) only [pX10_readAll_0, pX10_readAll_1, pX10_readAll_3, pX10_readAll_5, pX10_readAll_8, pX10_readAll_9, pX10_readAll_12, pX10_readAll_15, pX10_readAll_16, pX10_readAll_16t, pX10_readAll_16f, pX10_readAll_17, pX10_readAll_18, pX10_readAll_21, pX10_readAll_22, pX10_readAll_25, pX10_readAll_26, pX10_readAll_29, pX10_readAll_30, pX10_readAll_30t, pX10_readAll_30f, pX10_readAll_31, pX10_readAll_32, pX10_readAll_33, pX10_readAll_34, pX10_readAll_36, pX10_readAll_39, pX10_readAll_40, pX10_readAll_42, pX10_readAll_45, pX10_readAll_48, pX10_readAll_49, pX10_readAll_49t, pX10_readAll_49f, pX10_readAll_50, pX10_readAll_53, pX10_readAll_56, pX10_readAll_57, pX10_readAll_57t, pX10_readAll_57f, kd_i0, kd_i1, kd_i2, kd_i3, kd_jA, kd_r5, kd_r6, kd_r7, al_i, al_j, al_r, ai_i, aj_j, aq_r, cls_o, fv_o, sti_i, stj_j, st2_s, st2_n, bnd_some, set1_same, set1_twice, wc_0 hi, wc_1 hi, wc_2 hi, wc_3 hi, wc_4 hi, wc_5 hi, ww_1 hi, ww_2 hi, ww_3 hi, ww_4 hi, ww_5 hi, wow_1 hi, wow_2 hi, wow_3 hi, wow_7 hi, wo_0, wo_1, wo_2, wo_3, wo_4, wo_5, wo_6, wo_7, wo_8, ↓reduceIte, set1_ne, ne_eq, Nat.reduceEqDiff, not_false_eq_true, not_true_eq_false, if_true, if_false, ite_Ei, bI_eq0, pk_us, ix4, cx4, ix5, cx5, ix6, cx6, ix7, cx7, ix8, cx8, ix10, cx10, ix11, cx11, ix12, cx12, ix20, cx20, ix24, cx24, ix60, cx60, ix64, cx64, ix100, cx100, ix101, cx101, ix360, cx360, ix600, cx600, hk10, e, bI_t, y5, h2, ofNat_nI, q1, nI_1, e10, er]
            · obtain ⟨u1, u2, u3⟩ := ok2 q
              have ec : cods (C.2.2 :: R.2.2) = codC C.2.2 ++ cods R.2.2 := by unfold cods; simp
              show S2 = S + (cods (C.2.2 :: R.2.2)).length ∧ AtS Z i S (cods (C.2.2 :: R.2.2)) ∧ Z (186 + 6 * i) 3 = R.2.2.foldl enF (enF (X (186 + 6 * i) 3) C.2.2)
              rw [ec, List.length_append]
              refine ⟨by omega, AtS_join (AtS_kc fYZ o2 (by omega)) (by rw [← o1]; exact u2), ?_⟩
              rw [u3, setAt_b, pk_un (by decide), o3]
              rfl
          · intro K X f B s n z h hf
            have hl := h.1.1.2.2
            have ec : (10 : Int32) * nI f + nI k = nI (10 * f + k) := by rw [show (10 : Int32) = nI 10 from rfl, pk_mul, nI_add]
            obtain ⟨Y, e, y11, fY, ok⟩ := c2 K X (10 * f + k) B s n z h (by omega)
            obtain ⟨s', hs', rw1, rs1⟩ := ok hb
            rw [hb] at e
            have y10 := rs1.1.1.1
            have qn : ¬ nI C.2.1 = nI tx.length := fun q => pe ((nI_eq (by omega) (by omega)).mp q)
            have rs2 := RSc_148 (f := f) (x := nI (k + 1)) rs1
            have er := r_takes (K := K) (n := n) (z := z) (c := 59) rs2.1
            rw [decide_eq_true g59, if_pos g59] at er
            obtain ⟨Z, e2, z11, fZ, ok2⟩ := r2 K (sA (set1 Y 148 (upd (Y 148) f (nI (k + 1)))) (C.2.1 + 1)) f B s' n z (RSc_at rs2 (by omega) (by omega)) hf
            have f1 : FTx f k s X (set1 Y 148 (upd (Y 148) f (nI (k + 1)))) := FTx_trans (FTx_FC fY) FTx_cl (Nat.le_refl _) (Nat.le_refl _)
            have f2 : FTx f (k + 1) s' (set1 Y 148 (upd (Y 148) f (nI (k + 1)))) Z := FTx_trans (FTx_FC (FC_FE FE_at)) fZ (Nat.le_refl _) (Nat.le_refl _)
            refine ⟨Z, ?_, z11, FTx_trans f1 f2 (by omega) hs', fun q => ?_⟩
            · rw [← e2]
              conv => lhs; rw [pX12_goesText_15]
              simp (decide := true) only [pX12_goesText_0, pX12_goesText_1, pX12_goesText_2, pX12_goesText_5, pX12_goesText_6, pX12_goesText_8, pX12_goesText_9, pX12_goesText_10, pX12_goesText_13, pX12_goesText_14, pX12_goesText_16, pX12_goesText_18, pX12_goesText_19, pX12_goesText_20, pX12_goesText_21, pX12_goesText_22, pX12_goesText_25, pX12_goesText_28, pX12_goesText_29, pX12_goesText_29t, pX12_goesText_29f, pX12_goesText_30, pX12_goesText_33, pX12_goesText_34, pX12_goesText_37, pX12_goesText_38, pX12_goesText_39, pX12_goesText_40, pX12_goesText_41, pX12_goesText_44, pX12_goesText_45, pX12_goesText_48, pX12_goesText_51, pX12_goesText_52, pX12_goesText_52t, pX12_goesText_52f, pX12_goesText_53, pX12_goesText_54, pX12_goesText_56, pX12_goesText_59, pX12_goesText_60, pX12_goesText_62, pX12_goesText_65, pX12_goesText_68, pX12_goesText_69, pX12_goesText_69t, pX12_goesText_69f, kd_i0, kd_i1, kd_i2, kd_i3, kd_jA, kd_r5, kd_r6, kd_r7, al_i, al_j, al_r, ai_i, aj_j, aq_r, cls_o, fv_o, sti_i, stj_j, st2_s, st2_n, bnd_some, set1_same, set1_twice, hc_141, of_141_0, ow_141_0, of_141_1, ow_141_1, of_141_2, ow_141_2, of_141_3, of_141_4, of_141_5, of_141_6, of_141_7, of_141_8, ow_141_8, of_141_9, ow_141_9, of_141_10, ow_141_10, of_141_11, ow_141_11, of_141_12, ow_141_12, of_141_13, of_141_14, of_141_15, of_141_16, of_141_17, of_141_18, of_141_19, of_141_20, of_141_21, ow_141_21, of_141_22, ow_141_22, of_141_23, ow_141_23, of_141_24, of_141_25, of_141_26, of_141_27, ow_141_27, of_141_28, ow_141_28, of_141_29, ow_141_29, of_141_30, of_141_31, of_141_32, ow_141_32, of_141_33, of_141_34, of_141_35, of_141_36, ow_141_36, of_141_37, of_141_38, of_141_39, ow_141_39, of_141_40, ow_141_40, of_141_41, of_141_42, of_141_43, of_141_44, of_141_45, ow_141_45, of_141_46, ow_141_46, of_141_47, ow_141_47, of_141_48, ow_141_48, of_141_49, ow_141_49, of_141_50, ow_141_50, of_141_51, ow_141_51, of_141_52, ow_141_52, of_141_53, ow_141_53, of_141_54, of_141_55, of_141_56, of_141_57, of_141_58, of_141_59, of_141_60, of_141_61, of_141_62, of_141_63, of_141_64, of_141_65, of_141_66, ow_141_66, of_141_67, of_141_68, of_141_69, of_141_70, of_141_71, hc_142, hw_142, hc_143, hw_143, hc_144, hw_144, hc_145, hw_145, hc_146, hw_146, hc_147, hw_147, hc_148, hw_148, hc_149, hw_149, hc_150, hw_150, hc_151, hw_151, hc_152, hw_152, hc_153, hw_153, hc_154, hw_154, hc_155, hw_155, hc_156, hw_156, hc_157, hw_157, hc_158, hw_158, hc_159, hw_159, hc_160, hw_160, hc_161, hw_161, hc_162, hw_162, hc_163, hw_163, hc_164, hw_164, hc_165, hw_165, hc_166, hw_166, hc_167, hw_167, hc_168, hw_168, hc_169, hw_169, hc_170, hw_170, hc_171, hw_171, hc_172, hw_172, hc_173, hw_173, hc_174, hw_174, hc_175, hw_175, hc_176, hw_176, hc_177, hw_177, hc_178, hw_178, hc_179, hw_179, hc_180, hw_180, hc_181, hw_181, hc_182, hw_182, hc_183, hw_183, hc_184, hw_184, hc_185, hw_185, ↓reduceIte, set1_ne, ne_eq, Nat.reduceEqDiff, not_false_eq_true, not_true_eq_false, if_true, if_false, ite_Ei, bI_eq0, pk_us, ix4, cx4, ix5, cx5, ix6, cx6, ix7, cx7, ix8, cx8, ix10, cx10, ix11, cx11, ix12, cx12, ix20, cx20, ix24, cx24, ix60, cx60, ix64, cx64, ix100, cx100, ix101, cx101, ix360, cx360, ix600, cx600, ec, e, bI_t, hf, nI_1, y11, y10, qn, e10, er]
            · obtain ⟨u1, s2, hs2, u2⟩ := ok2 q
              refine ⟨?_, max s2 s', ?_, ?_⟩
              · show Z 148 f = nI (k + (R.2.2.length + 1))
                rw [u1]
                congr 1
                omega
              · have b1 := rs1.2.2.1
                have b2 := rs1.1.2.2
                have b4 := rs1.2.2.2.2.1
                omega
              · intro i hi
                match i, hi with
                | 0, _ =>
                  show RWs Z (10 * f + k + 0) C.2.2 _
                  rw [Nat.add_zero]
                  exact RWs_le (by omega) (RWs_keep f2 (by omega) (RWs_keep (f := f) (k := k + 1) FTx_cl (by omega) rw1))
                | i + 1, hi =>
                  have hi' : i < R.2.2.length := by simp at hi; omega
                  show RWs Z (10 * f + k + (i + 1)) R.2.2[i] _
                  rw [show 10 * f + k + (i + 1) = 10 * f + (k + 1) + i by omega]
                  exact RWs_le (by omega) (u2 i hi')
          · obtain ⟨a1, a2⟩ := r3 q
            refine ⟨fun c hc => ?_, by show R.2.2.length + 1 ≤ m + 1; omega⟩
            have : c = C.2.2 ∨ c ∈ R.2.2 := by simpa using hc
            rcases this with q | q
            · rw [q]; exact d3
            · exact a1 c q
