/-! The class's constructor. -/
theorem hq_self {h : Nat → Cl} {o : Nat} : hq h o (h o) = h := by
  funext q
  unfold hq uph
  by_cases e : q = o
  · rw [if_pos e, e]
  · rw [if_neg e]
theorem hqm {h : Nat → Cl} {o n m : Nat} {c d e : Cl} (g : o < n) : mrows (hq h o c) n m d e = hq (mrows h n m d e) o c := by
  funext q
  unfold hq uph mrows
  by_cases e1 : q = o
  · rw [if_neg (by omega), if_neg (by omega), if_pos e1, if_pos e1]
  · rw [if_neg e1, if_neg e1]
theorem mr_lo {h : Nat → Cl} {n m q : Nat} {d e : Cl} (g : q < n) : mrows h n m d e q = h q := by
  unfold mrows
  rw [if_neg (by omega), if_neg (by omega)]
theorem mr_hi {h : Nat → Cl} {n m q : Nat} {d e : Cl} (g : n + m < q) : mrows h n m d e q = h q := by
  unfold mrows
  rw [if_neg (by omega), if_neg (by omega)]
theorem fin_n {L : Nat} {xs : Nat → Int32} {h : Nat → Cl} {lo hi q : Nat} (g : ¬ (lo ≤ q ∧ q < hi)) : fin L xs h lo hi q = h q := if_neg g
theorem fin_hq {L : Nat} {xs : Nat → Int32} {h : Nat → Cl} {lo hi o : Nat} {c : Cl} (g : ¬ (lo ≤ o ∧ o < hi)) : fin L xs (hq h o c) lo hi = hq (fin L xs h lo hi) o c := by
  funext q
  unfold hq uph fin
  by_cases e1 : q = o
  · subst e1
    rw [if_neg g, if_pos rfl, if_pos rfl]
  · rw [if_neg e1, if_neg e1]
theorem t_init25 (L : Nat) (xs : Nat → Int32) {H : Nat → Cl} {z : Nat} (h0 : H 25 = ob 8 (fun k => defaultValue (fty 8 k))) : E 2 mX8_init 0 [.ref 25, .ref 17] [] (H, 26, z) = some (none, (fin L xs H 25 57, 57, z + 208)) := by
  rw [← hq_self (h := H) (o := 25), h0]
  simp (decide := true) only [pX8_init_0, pX8_init_1, pX8_init_4, pX8_init_5, pX8_init_7, pX8_init_9, pX8_init_12, pX8_init_13, pX8_init_15, pX8_init_17, pX8_init_20, pX8_init_21, pX8_init_23, pX8_init_25, pX8_init_28, pX8_init_29, pX8_init_31, pX8_init_33, pX8_init_36, pX8_init_37, pX8_init_39, pX8_init_40, pX8_init_44, pX8_init_47, pX8_init_48, pX8_init_51, pX8_init_52, pX8_init_54, pX8_init_57, pX8_init_60, pX8_init_61, pX8_init_64, pX8_init_65, pX8_init_66, pX8_init_69, pX8_init_72, pX8_init_73, pX8_init_76, pX8_init_77, pX8_init_79, pX8_init_82, pX8_init_85, pX8_init_86, pX8_init_89, pX8_init_90, pX8_init_92, pX8_init_95, pX8_init_98, pX8_init_99, pX8_init_101, pX8_init_103, pX8_init_107, pX8_init_110, pX8_init_111, pX8_init_113, pX8_init_115, pX8_init_118, pX8_init_119, pX8_init_120, pX8_init_123, pX6_init_0, pX6_init_1, pX6_init_4, pX6_init_5, pX6_init_6, pX6_init_8, pX6_init_11, pX6_init_12, pX6_init_13, pX6_init_15, pX6_init_18, kd_i0, kd_i1, kd_i2, kd_i3, kd_jA, kd_r5, kd_r6, kd_r7, al_i, al_j, al_r, ai_i, aj_j, aq_r, cls_o, fv_o, sti_i, stj_j, st2_s, st2_n, bnd_some, set1_same, set1_twice, hq1, hq2, hq3, hq4, uph2, uph_s, uph_n, stf_o, zA0, zA1, zA2, zA3, zA4, ne_eq, cxl0, cxl1, cxl2, cxl3, cxl4, cxl5, cxl6, cxl7, cxl8, cxl9, cxl10, cxl11, cxl12, cxl20, cxl24, cxl60, cxl64, cxl100, cxl101, cxl360, cxl600, hqm, mr_lo, Nat.reduceAdd, Nat.reduceMul, Nat.reduceLeDiff, Nat.reduceLT, Nat.reduceEqDiff, not_false_eq_true]
  done

