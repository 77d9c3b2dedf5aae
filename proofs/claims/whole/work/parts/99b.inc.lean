/-! The class's constructor. -/
theorem updV_s {f : Nat → Value} {j : Nat} {v : Value} : updV f j v j = v := if_pos rfl
theorem hq_self {h : Nat → Cl} {o : Nat} : hq h o (h o) = h := by
  funext q
  unfold hq uph
  by_cases e : q = o
  · rw [if_pos e, e]
  · rw [if_neg e]
theorem hqm {h : Nat → Cl} {o n m : Nat} {c d e : Cl} (g : o < n) : mrows (hq h o c) n m d e = hq (mrows h n m d e) o c := by
  funext q
  show (if q = n then e else if n < q ∧ q ≤ n + m then d else if q = o then c else h q) = (if q = o then c else if q = n then e else if n < q ∧ q ≤ n + m then d else h q)
  by_cases e1 : q = o
  · rw [if_neg (by omega), if_neg (by omega), if_pos e1, if_pos e1]
  · rw [if_neg e1, if_neg e1]
theorem mr_lo {h : Nat → Cl} {n m q : Nat} {d e : Cl} (g : q < n) : mrows h n m d e q = h q := by
  unfold mrows
  rw [if_neg (by omega), if_neg (by omega)]
theorem mr_hi {h : Nat → Cl} {n m q : Nat} {d e : Cl} (g : n + m < q) : mrows h n m d e q = h q := by
  unfold mrows
  rw [if_neg (by omega), if_neg (by omega)]
theorem fin_n {L : Nat} {xs : Nat → Int32} {h : Nat → Cl} {lo hi q : Nat} (g : ¬ (lo ≤ q ∧ q < hi)) : fin L xs h lo hi q = h q := if_neg g
theorem fin_hq {L : Nat} {xs : Nat → Int32} {h : Nat → Cl} {lo hi o : Nat} {c : Cl} (g : ¬ (lo ≤ o ∧ o < hi)) : fin L xs (hq h o c) lo hi = hq (fin L xs h lo hi) o c := by
  funext q
  show (if lo ≤ q ∧ q < hi then hp (K0 L xs) X0 q else if q = o then c else h q) = (if q = o then c else if lo ≤ q ∧ q < hi then hp (K0 L xs) X0 q else h q)
  by_cases e1 : q = o
  · subst e1
    rw [if_neg g, if_pos rfl, if_pos rfl]
  · rw [if_neg e1, if_neg e1]
theorem ro_new {K : KT} {X : Nat → Nat → Int32} {a b c : Nat} (hb : b = a + 1) (hc : c = a + 2) (h2 : X a 2 = 0) : ob 6 (updV (updV (fun k => defaultValue (fty 6 k)) 0 (.ref b)) 1 (.ref c)) = ob 6 (ofl K X a 6) := by
  congr 1
  funext k
  by_cases h3 : k < 3
  · have : k = 0 ∨ k = 1 ∨ k = 2 := by omega
    rcases this with rfl | rfl | rfl
    · rw [hb]; rfl
    · rw [hc]; rfl
    · show Value.int 0 = .int (X a 2)
      rw [h2]
  · unfold ofl ofr
    rw [if_pos (show fnum 6 ≤ k from Nat.not_lt.mp h3), updV_n (by omega), updV_n (by omega)]
theorem t_init25 (L : Nat) (xs : Nat → Int32) {H : Nat → Cl} {z : Nat} (h0 : H 25 = ob 8 (fun k => defaultValue (fty 8 k))) : E 2 mX8_init 0 [.ref 25, .ref 17] [] (H, 26, z) = some (none, (fin L xs H 25 57, 57, z + 208)) := by
  rw [← hq_self (h := H) (o := 25), h0]
  simp (decide := true) only [pX8_init_0, pX8_init_1, pX8_init_4, pX8_init_5, pX8_init_7, pX8_init_9, pX8_init_12, pX8_init_13, pX8_init_15, pX8_init_17, pX8_init_20, pX8_init_21, pX8_init_23, pX8_init_25, pX8_init_28, pX8_init_29, pX8_init_31, pX8_init_33, pX8_init_36, pX8_init_37, pX8_init_39, pX8_init_40, pX8_init_44, pX8_init_47, pX8_init_48, pX8_init_51, pX8_init_52, pX8_init_54, pX8_init_57, pX8_init_60, pX8_init_61, pX8_init_64, pX8_init_65, pX8_init_66, pX8_init_69, pX8_init_72, pX8_init_73, pX8_init_76, pX8_init_77, pX8_init_79, pX8_init_82, pX8_init_85, pX8_init_86, pX8_init_89, pX8_init_90, pX8_init_92, pX8_init_95, pX8_init_98, pX8_init_99, pX8_init_101, pX8_init_103, pX8_init_107, pX8_init_110, pX8_init_111, pX8_init_113, pX8_init_115, pX8_init_118, pX8_init_119, pX8_init_120, pX8_init_123, pX6_init_0, pX6_init_1, pX6_init_4, pX6_init_5, pX6_init_6, pX6_init_8, pX6_init_11, pX6_init_12, pX6_init_13, pX6_init_15, pX6_init_18, kd_i0, kd_i1, kd_i2, kd_i3, kd_jA, kd_r5, kd_r6, kd_r7, al_i, al_j, al_r, ai_i, aj_j, aq_r, cls_o, fv_o, sti_i, stj_j, st2_s, st2_n, bnd_some, set1_same, set1_twice, hq1, hq2, hq3, hq4, uph2, uph_s, uph_n, stf_o, zA0, zA1, zA2, zA3, zA4, ne_eq, cxl0, cxl1, cxl2, cxl3, cxl4, cxl5, cxl6, cxl7, cxl8, cxl9, cxl10, cxl11, cxl12, cxl20, cxl24, cxl60, cxl64, cxl100, cxl101, cxl360, cxl600, hqm, mr_lo, Nat.reduceAdd, Nat.reduceMul, Nat.reduceLeDiff, Nat.reduceLT, Nat.reduceEqDiff, not_false_eq_true]
  refine congrArg some (Prod.ext rfl (Prod.ext (funext fun q => ?_) (Prod.ext rfl ?_)))
  · show hq _ 25 _ q = fin L xs _ 25 57 q
    unfold fin
    by_cases r : 25 ≤ q ∧ q < 57
    · rw [if_pos r]
      by_cases e : q = 25
      · subst e
        rw [hq3, hc_25]
        congr 1
        funext k
        by_cases k7 : k < 16
        · have : k = 0 ∨ k = 1 ∨ k = 2 ∨ k = 3 ∨ k = 4 ∨ k = 5 ∨ k = 6 ∨ k = 7 ∨ k = 8 ∨ k = 9 ∨ k = 10 ∨ k = 11 ∨ k = 12 ∨ k = 13 ∨ k = 14 ∨ k = 15 := by omega
          rcases this with rfl | rfl | rfl | rfl | rfl | rfl | rfl | rfl | rfl | rfl | rfl | rfl | rfl | rfl | rfl | rfl <;> rfl
        · unfold ofl ofr
          rw [if_pos (show fnum 8 ≤ k from Nat.not_lt.mp k7)]
          repeat rw [updV_n (by omega)]
      · rw [hq4 e]
        have : q = 26 ∨ q = 27 ∨ q = 28 ∨ q = 29 ∨ q = 30 ∨ q = 31 ∨ q = 32 ∨ q = 33 ∨ q = 34 ∨ q = 35 ∨ q = 36 ∨ q = 37 ∨ q = 38 ∨ q = 39 ∨ q = 40 ∨ q = 41 ∨ q = 42 ∨ q = 43 ∨ q = 44 ∨ q = 45 ∨ q = 46 ∨ q = 47 ∨ q = 48 ∨ q = 49 ∨ q = 50 ∨ q = 51 ∨ q = 52 ∨ q = 53 ∨ q = 54 ∨ q = 55 ∨ q = 56 := by omega
        rcases this with rfl | rfl | rfl | rfl | rfl | rfl | rfl | rfl | rfl | rfl | rfl | rfl | rfl | rfl | rfl | rfl | rfl | rfl | rfl | rfl | rfl | rfl | rfl | rfl | rfl | rfl | rfl | rfl | rfl | rfl | rfl <;> first | rfl | exact ro_new rfl rfl rfl
    · rw [if_neg r, hq4 (by omega), hq4 (by omega)]
      have m1 : ∀ (h : Nat → Cl) d e, mrows h 30 6 d e q = h q := fun h d e => by
        unfold mrows
        rw [if_neg (by omega), if_neg (by omega)]
      have m2 : ∀ (h : Nat → Cl) d e, mrows h 49 6 d e q = h q := fun h d e => by
        unfold mrows
        rw [if_neg (by omega), if_neg (by omega)]
      repeat first | rw [uph_n (by omega)] | rw [m1] | rw [m2]
  · dsimp only
theorem t_init57 (L : Nat) (xs : Nat → Int32) {H : Nat → Cl} {z : Nat} (h0 : H 57 = ob 8 (fun k => defaultValue (fty 8 k))) : E 2 mX8_init 0 [.ref 57, .ref 17] [] (H, 58, z) = some (none, (fin L xs H 57 89, 89, z + 208)) := by
  rw [← hq_self (h := H) (o := 57), h0]
  simp (decide := true) only [pX8_init_0, pX8_init_1, pX8_init_4, pX8_init_5, pX8_init_7, pX8_init_9, pX8_init_12, pX8_init_13, pX8_init_15, pX8_init_17, pX8_init_20, pX8_init_21, pX8_init_23, pX8_init_25, pX8_init_28, pX8_init_29, pX8_init_31, pX8_init_33, pX8_init_36, pX8_init_37, pX8_init_39, pX8_init_40, pX8_init_44, pX8_init_47, pX8_init_48, pX8_init_51, pX8_init_52, pX8_init_54, pX8_init_57, pX8_init_60, pX8_init_61, pX8_init_64, pX8_init_65, pX8_init_66, pX8_init_69, pX8_init_72, pX8_init_73, pX8_init_76, pX8_init_77, pX8_init_79, pX8_init_82, pX8_init_85, pX8_init_86, pX8_init_89, pX8_init_90, pX8_init_92, pX8_init_95, pX8_init_98, pX8_init_99, pX8_init_101, pX8_init_103, pX8_init_107, pX8_init_110, pX8_init_111, pX8_init_113, pX8_init_115, pX8_init_118, pX8_init_119, pX8_init_120, pX8_init_123, pX6_init_0, pX6_init_1, pX6_init_4, pX6_init_5, pX6_init_6, pX6_init_8, pX6_init_11, pX6_init_12, pX6_init_13, pX6_init_15, pX6_init_18, kd_i0, kd_i1, kd_i2, kd_i3, kd_jA, kd_r5, kd_r6, kd_r7, al_i, al_j, al_r, ai_i, aj_j, aq_r, cls_o, fv_o, sti_i, stj_j, st2_s, st2_n, bnd_some, set1_same, set1_twice, hq1, hq2, hq3, hq4, uph2, uph_s, uph_n, stf_o, zA0, zA1, zA2, zA3, zA4, ne_eq, cxl0, cxl1, cxl2, cxl3, cxl4, cxl5, cxl6, cxl7, cxl8, cxl9, cxl10, cxl11, cxl12, cxl20, cxl24, cxl60, cxl64, cxl100, cxl101, cxl360, cxl600, hqm, mr_lo, Nat.reduceAdd, Nat.reduceMul, Nat.reduceLeDiff, Nat.reduceLT, Nat.reduceEqDiff, not_false_eq_true]
  refine congrArg some (Prod.ext rfl (Prod.ext (funext fun q => ?_) (Prod.ext rfl ?_)))
  · show hq _ 57 _ q = fin L xs _ 57 89 q
    unfold fin
    by_cases r : 57 ≤ q ∧ q < 89
    · rw [if_pos r]
      by_cases e : q = 57
      · subst e
        rw [hq3, hc_57]
        congr 1
        funext k
        by_cases k7 : k < 16
        · have : k = 0 ∨ k = 1 ∨ k = 2 ∨ k = 3 ∨ k = 4 ∨ k = 5 ∨ k = 6 ∨ k = 7 ∨ k = 8 ∨ k = 9 ∨ k = 10 ∨ k = 11 ∨ k = 12 ∨ k = 13 ∨ k = 14 ∨ k = 15 := by omega
          rcases this with rfl | rfl | rfl | rfl | rfl | rfl | rfl | rfl | rfl | rfl | rfl | rfl | rfl | rfl | rfl | rfl <;> rfl
        · unfold ofl ofr
          rw [if_pos (show fnum 8 ≤ k from Nat.not_lt.mp k7)]
          repeat rw [updV_n (by omega)]
      · rw [hq4 e]
        have : q = 58 ∨ q = 59 ∨ q = 60 ∨ q = 61 ∨ q = 62 ∨ q = 63 ∨ q = 64 ∨ q = 65 ∨ q = 66 ∨ q = 67 ∨ q = 68 ∨ q = 69 ∨ q = 70 ∨ q = 71 ∨ q = 72 ∨ q = 73 ∨ q = 74 ∨ q = 75 ∨ q = 76 ∨ q = 77 ∨ q = 78 ∨ q = 79 ∨ q = 80 ∨ q = 81 ∨ q = 82 ∨ q = 83 ∨ q = 84 ∨ q = 85 ∨ q = 86 ∨ q = 87 ∨ q = 88 := by omega
        rcases this with rfl | rfl | rfl | rfl | rfl | rfl | rfl | rfl | rfl | rfl | rfl | rfl | rfl | rfl | rfl | rfl | rfl | rfl | rfl | rfl | rfl | rfl | rfl | rfl | rfl | rfl | rfl | rfl | rfl | rfl | rfl <;> first | rfl | exact ro_new rfl rfl rfl
    · rw [if_neg r, hq4 (by omega), hq4 (by omega)]
      have m1 : ∀ (h : Nat → Cl) d e, mrows h 62 6 d e q = h q := fun h d e => by
        unfold mrows
        rw [if_neg (by omega), if_neg (by omega)]
      have m2 : ∀ (h : Nat → Cl) d e, mrows h 81 6 d e q = h q := fun h d e => by
        unfold mrows
        rw [if_neg (by omega), if_neg (by omega)]
      repeat first | rw [uph_n (by omega)] | rw [m1] | rw [m2]
  · dsimp only
theorem t_init89 (L : Nat) (xs : Nat → Int32) {H : Nat → Cl} {z : Nat} (h0 : H 89 = ob 8 (fun k => defaultValue (fty 8 k))) : E 2 mX8_init 0 [.ref 89, .ref 17] [] (H, 90, z) = some (none, (fin L xs H 89 121, 121, z + 208)) := by
  rw [← hq_self (h := H) (o := 89), h0]
  simp (decide := true) only [pX8_init_0, pX8_init_1, pX8_init_4, pX8_init_5, pX8_init_7, pX8_init_9, pX8_init_12, pX8_init_13, pX8_init_15, pX8_init_17, pX8_init_20, pX8_init_21, pX8_init_23, pX8_init_25, pX8_init_28, pX8_init_29, pX8_init_31, pX8_init_33, pX8_init_36, pX8_init_37, pX8_init_39, pX8_init_40, pX8_init_44, pX8_init_47, pX8_init_48, pX8_init_51, pX8_init_52, pX8_init_54, pX8_init_57, pX8_init_60, pX8_init_61, pX8_init_64, pX8_init_65, pX8_init_66, pX8_init_69, pX8_init_72, pX8_init_73, pX8_init_76, pX8_init_77, pX8_init_79, pX8_init_82, pX8_init_85, pX8_init_86, pX8_init_89, pX8_init_90, pX8_init_92, pX8_init_95, pX8_init_98, pX8_init_99, pX8_init_101, pX8_init_103, pX8_init_107, pX8_init_110, pX8_init_111, pX8_init_113, pX8_init_115, pX8_init_118, pX8_init_119, pX8_init_120, pX8_init_123, pX6_init_0, pX6_init_1, pX6_init_4, pX6_init_5, pX6_init_6, pX6_init_8, pX6_init_11, pX6_init_12, pX6_init_13, pX6_init_15, pX6_init_18, kd_i0, kd_i1, kd_i2, kd_i3, kd_jA, kd_r5, kd_r6, kd_r7, al_i, al_j, al_r, ai_i, aj_j, aq_r, cls_o, fv_o, sti_i, stj_j, st2_s, st2_n, bnd_some, set1_same, set1_twice, hq1, hq2, hq3, hq4, uph2, uph_s, uph_n, stf_o, zA0, zA1, zA2, zA3, zA4, ne_eq, cxl0, cxl1, cxl2, cxl3, cxl4, cxl5, cxl6, cxl7, cxl8, cxl9, cxl10, cxl11, cxl12, cxl20, cxl24, cxl60, cxl64, cxl100, cxl101, cxl360, cxl600, hqm, mr_lo, Nat.reduceAdd, Nat.reduceMul, Nat.reduceLeDiff, Nat.reduceLT, Nat.reduceEqDiff, not_false_eq_true]
  refine congrArg some (Prod.ext rfl (Prod.ext (funext fun q => ?_) (Prod.ext rfl ?_)))
  · show hq _ 89 _ q = fin L xs _ 89 121 q
    unfold fin
    by_cases r : 89 ≤ q ∧ q < 121
    · rw [if_pos r]
      by_cases e : q = 89
      · subst e
        rw [hq3, hc_89]
        congr 1
        funext k
        by_cases k7 : k < 16
        · have : k = 0 ∨ k = 1 ∨ k = 2 ∨ k = 3 ∨ k = 4 ∨ k = 5 ∨ k = 6 ∨ k = 7 ∨ k = 8 ∨ k = 9 ∨ k = 10 ∨ k = 11 ∨ k = 12 ∨ k = 13 ∨ k = 14 ∨ k = 15 := by omega
          rcases this with rfl | rfl | rfl | rfl | rfl | rfl | rfl | rfl | rfl | rfl | rfl | rfl | rfl | rfl | rfl | rfl <;> rfl
        · unfold ofl ofr
          rw [if_pos (show fnum 8 ≤ k from Nat.not_lt.mp k7)]
          repeat rw [updV_n (by omega)]
      · rw [hq4 e]
        have : q = 90 ∨ q = 91 ∨ q = 92 ∨ q = 93 ∨ q = 94 ∨ q = 95 ∨ q = 96 ∨ q = 97 ∨ q = 98 ∨ q = 99 ∨ q = 100 ∨ q = 101 ∨ q = 102 ∨ q = 103 ∨ q = 104 ∨ q = 105 ∨ q = 106 ∨ q = 107 ∨ q = 108 ∨ q = 109 ∨ q = 110 ∨ q = 111 ∨ q = 112 ∨ q = 113 ∨ q = 114 ∨ q = 115 ∨ q = 116 ∨ q = 117 ∨ q = 118 ∨ q = 119 ∨ q = 120 := by omega
        rcases this with rfl | rfl | rfl | rfl | rfl | rfl | rfl | rfl | rfl | rfl | rfl | rfl | rfl | rfl | rfl | rfl | rfl | rfl | rfl | rfl | rfl | rfl | rfl | rfl | rfl | rfl | rfl | rfl | rfl | rfl | rfl <;> first | rfl | exact ro_new rfl rfl rfl
    · rw [if_neg r, hq4 (by omega), hq4 (by omega)]
      have m1 : ∀ (h : Nat → Cl) d e, mrows h 94 6 d e q = h q := fun h d e => by
        unfold mrows
        rw [if_neg (by omega), if_neg (by omega)]
      have m2 : ∀ (h : Nat → Cl) d e, mrows h 113 6 d e q = h q := fun h d e => by
        unfold mrows
        rw [if_neg (by omega), if_neg (by omega)]
      repeat first | rw [uph_n (by omega)] | rw [m1] | rw [m2]
  · dsimp only
theorem f_139 {H : Nat → Cl} {n z : Nat} (h0 : H 139 = iA 0 6 (fun _ => 0)) : E 1 mJ7_fill_53178 0 [.ref 139, .int (-1), .null, .null] [] (H, n, z) = some (none, (uph H 139 (iA 0 6 (upd (upd (upd (upd (upd (upd (fun _ => 0) 0 (-1)) 1 (-1)) 2 (-1)) 3 (-1)) 4 (-1)) 5 (-1))), n, z)) := by
  rw [← hq_self (h := H) (o := 139), h0]
  simp (decide := true) only [pJ7_fill_53178_0, pJ7_fill_53178_1, pJ7_fill_53178_2, pJ7_fill_53178_3, pJ7_fill_53178_4, pJ7_fill_53178_5, pJ7_fill_53178_6, pJ7_fill_53178_7, pJ7_fill_53178_10, pJ7_fill_53178_11, pJ7_fill_53178_12, pJ7_fill_53178_13, pJ7_fill_53178_14, pJ7_fill_53178_17, pJ7_fill_53178_20, kd_i0, kd_i1, kd_i2, kd_i3, kd_jA, kd_r5, kd_r6, kd_r7, al_i, al_j, al_r, ai_i, aj_j, aq_r, cls_o, fv_o, sti_i, stj_j, st2_s, st2_n, bnd_some, set1_same, set1_twice, hq1, hq2, hq3, hq4, uph2, uph_s, uph_n, stf_o, zA0, zA1, zA2, zA3, zA4, ne_eq, cxl0, cxl1, cxl2, cxl3, cxl4, cxl5, cxl6, cxl7, cxl8, cxl9, cxl10, cxl11, cxl12, cxl20, cxl24, cxl60, cxl64, cxl100, cxl101, cxl360, cxl600, Int32.reduceAdd, Int32.reduceLT, Int32.reduceLE, ↓reduceIte, if_false, if_true, Nat.reduceAdd, Nat.reduceMul, Nat.reduceLeDiff, Nat.reduceLT, Nat.reduceEqDiff, not_false_eq_true]
theorem pea_eq : (stq (stq (stq (stq (stq (stq (stq (rA 7 7 (fun _ => none)) 0 18) 1 19) 2 20) 3 21) 4 22) 5 23) 6 24) = rA 7 7 (fun i => if i < 7 then some (18 + i) else none) := by
  refine congrArg (rA 7 7) (funext fun i => ?_)
  by_cases h : i < 7
  · rw [if_pos h]
    have : i = 0 ∨ i = 1 ∨ i = 2 ∨ i = 3 ∨ i = 4 ∨ i = 5 ∨ i = 6 := by omega
    rcases this with rfl | rfl | rfl | rfl | rfl | rfl | rfl <;> rfl
  · rw [if_neg h]
    unfold va_up
    rw [if_neg (by omega), if_neg (by omega), if_neg (by omega), if_neg (by omega), if_neg (by omega), if_neg (by omega), if_neg (by omega)]
theorem pear_eq {K : KT} {X : Nat → Nat → Int32} {q c : Nat} (h : fnum c = 0) : ob c (fun k => defaultValue (fty c k)) = ob c (ofl K X q c) := by
  congr 1
  funext k
  unfold ofl ofr
  rw [h, if_pos (Nat.zero_le k)]
theorem deed_eq {K : KT} {X : Nat → Nat → Int32} (h : X 122 = fun _ => 0) : ob 1 (updV (fun k => defaultValue (fty 1 k)) 2 (.ref 123)) = ob 1 (ofl K X 122 1) := by
  congr 1
  funext k
  by_cases h3 : k < 4
  · have : k = 0 ∨ k = 1 ∨ k = 2 ∨ k = 3 := by omega
    rcases this with rfl | rfl | rfl | rfl
    · show Value.int 0 = .int (X 122 0)
      rw [h]
    · show Value.int 0 = .int (X 122 1)
      rw [h]
    · rfl
    · show Value.int 0 = .int (X 122 3)
      rw [h]
  · unfold ofl ofr
    rw [if_pos (show fnum 1 ≤ k from Nat.not_lt.mp h3), updV_n (by omega)]
theorem x_init {L : Nat} {xs : Nat → Int32} {h : Nat → Cl} {z : Nat} : E 4 mX11_init 0 [.ref 16, .null] [] (hq h 16 (ob 11 (fun k => defaultValue (fty 11 k))), 17, z) = some (none, (fin L xs h 16 141, 141, z + 1636)) := by
  simp (decide := true) only [pX11_init_0, pX11_init_1, pX11_init_4, pX11_init_6, pX11_init_9, pX11_init_10, pX11_init_11, pX11_init_14, pX11_init_15, pX11_init_18, pX11_init_19, pX11_init_20, pX11_init_21, pX11_init_24, pX11_init_25, pX11_init_28, pX11_init_29, pX11_init_30, pX11_init_31, pX11_init_34, pX11_init_35, pX11_init_38, pX11_init_39, pX11_init_40, pX11_init_41, pX11_init_44, pX11_init_45, pX11_init_48, pX11_init_49, pX11_init_50, pX11_init_51, pX11_init_54, pX11_init_55, pX11_init_58, pX11_init_59, pX11_init_60, pX11_init_61, pX11_init_64, pX11_init_65, pX11_init_68, pX11_init_69, pX11_init_70, pX11_init_72, pX11_init_75, pX11_init_76, pX11_init_79, pX11_init_80, pX11_init_81, pX11_init_82, pX11_init_85, pX11_init_86, pX11_init_87, pX11_init_90, pX11_init_93, pX11_init_94, pX11_init_97, pX11_init_98, pX11_init_99, pX11_init_102, pX11_init_105, pX11_init_106, pX11_init_109, pX11_init_110, pX11_init_111, pX11_init_114, pX11_init_117, pX11_init_118, pX11_init_120, pX11_init_122, pX11_init_125, pX11_init_126, pX11_init_129, pX11_init_130, pX11_init_133, pX11_init_136, pX11_init_137, pX11_init_139, pX11_init_141, pX11_init_145, pX11_init_148, pX11_init_149, pX11_init_151, pX11_init_153, pX11_init_157, pX11_init_160, pX11_init_161, pX11_init_163, pX11_init_165, pX11_init_168, pX11_init_169, pX11_init_172, pX11_init_173, pX11_init_176, pX11_init_177, pX11_init_179, pX11_init_181, pX11_init_184, pX5_init_0, pX5_init_1, pX5_init_4, pX2_init_0, pX2_init_1, pX2_init_4, pX4_init_0, pX4_init_1, pX4_init_4, pX0_init_0, pX0_init_1, pX0_init_4, pX9_init_0, pX9_init_1, pX9_init_4, pX3_init_0, pX3_init_1, pX3_init_4, pX7_init_0, pX7_init_1, pX7_init_4, pX1_init_0, pX1_init_1, pX1_init_4, pX1_init_5, pX1_init_7, pX1_init_9, pX1_init_12, f_139, kd_i0, kd_i1, kd_i2, kd_i3, kd_jA, kd_r5, kd_r6, kd_r7, al_i, al_j, al_r, ai_i, aj_j, aq_r, cls_o, fv_o, sti_i, stj_j, st2_s, st2_n, bnd_some, set1_same, set1_twice, hq1, hq2, hq3, hq4, uph2, uph_s, uph_n, stf_o, zA0, zA1, zA2, zA3, zA4, ne_eq, cxl0, cxl1, cxl2, cxl3, cxl4, cxl5, cxl6, cxl7, cxl8, cxl9, cxl10, cxl11, cxl12, cxl20, cxl24, cxl60, cxl64, cxl100, cxl101, cxl360, cxl600, hqm, mr_lo, mr_hi, fin_n, fin_hq, t_init25 L xs, t_init57 L xs, t_init89 L xs, updV_s, Nat.reduceAdd, Nat.reduceMul, Nat.reduceLeDiff, Nat.reduceLT, Nat.reduceEqDiff, not_false_eq_true]
  refine congrArg some (Prod.ext rfl (Prod.ext (funext fun q => ?_) (Prod.ext rfl ?_)))
  · show hq _ 16 _ q = fin L xs _ 16 141 q
    conv => rhs; unfold fin
    by_cases r : 16 ≤ q ∧ q < 141
    · rw [if_pos r]
      by_cases e : q = 16
      · subst e
        rw [hq3, hc_16]
        congr 1
        funext k
        by_cases k7 : k < 12
        · have : k = 0 ∨ k = 1 ∨ k = 2 ∨ k = 3 ∨ k = 4 ∨ k = 5 ∨ k = 6 ∨ k = 7 ∨ k = 8 ∨ k = 9 ∨ k = 10 ∨ k = 11 := by omega
          rcases this with rfl | rfl | rfl | rfl | rfl | rfl | rfl | rfl | rfl | rfl | rfl | rfl <;> rfl
        · unfold ofl ofr
          rw [if_pos (show fnum 11 ≤ k from Nat.not_lt.mp k7)]
          repeat rw [updV_n (by omega)]
      · rw [hq4 e]
        by_cases b : 25 ≤ q ∧ q < 121
        · have m1 : ∀ (h : Nat → Cl) d e, mrows h 124 7 d e q = h q := fun h d e => mr_lo (by omega)
          have m2 : ∀ (h : Nat → Cl) d e, mrows h 132 6 d e q = h q := fun h d e => mr_lo (by omega)
          rcases (show (25 ≤ q ∧ q < 57) ∨ (57 ≤ q ∧ q < 89) ∨ (89 ≤ q ∧ q < 121) by omega) with b | b | b
          · repeat first | rw [uph_n (by omega)] | rw [m1] | rw [m2] | rw [fin_n (by omega)]
            exact if_pos b
          · repeat first | rw [uph_n (by omega)] | rw [m1] | rw [m2] | rw [fin_n (by omega)]
            exact if_pos b
          · repeat first | rw [uph_n (by omega)] | rw [m1] | rw [m2] | rw [fin_n (by omega)]
            exact if_pos b
        · have : q = 17 ∨ q = 18 ∨ q = 19 ∨ q = 20 ∨ q = 21 ∨ q = 22 ∨ q = 23 ∨ q = 24 ∨ q = 121 ∨ q = 122 ∨ q = 123 ∨ q = 124 ∨ q = 125 ∨ q = 126 ∨ q = 127 ∨ q = 128 ∨ q = 129 ∨ q = 130 ∨ q = 131 ∨ q = 132 ∨ q = 133 ∨ q = 134 ∨ q = 135 ∨ q = 136 ∨ q = 137 ∨ q = 138 ∨ q = 139 ∨ q = 140 := by omega
          rcases this with rfl | rfl | rfl | rfl | rfl | rfl | rfl | rfl | rfl | rfl | rfl | rfl | rfl | rfl | rfl | rfl | rfl | rfl | rfl | rfl | rfl | rfl | rfl | rfl | rfl | rfl | rfl | rfl
          · refine Eq.trans ?_ (hc_17 _ _).symm
            first | rfl | exact pea_eq | exact pear_eq rfl | exact deed_eq rfl
          · refine Eq.trans ?_ (hc_18 _ _).symm
            first | rfl | exact pea_eq | exact pear_eq rfl | exact deed_eq rfl
          · refine Eq.trans ?_ (hc_19 _ _).symm
            first | rfl | exact pea_eq | exact pear_eq rfl | exact deed_eq rfl
          · refine Eq.trans ?_ (hc_20 _ _).symm
            first | rfl | exact pea_eq | exact pear_eq rfl | exact deed_eq rfl
          · refine Eq.trans ?_ (hc_21 _ _).symm
            first | rfl | exact pea_eq | exact pear_eq rfl | exact deed_eq rfl
          · refine Eq.trans ?_ (hc_22 _ _).symm
            first | rfl | exact pea_eq | exact pear_eq rfl | exact deed_eq rfl
          · refine Eq.trans ?_ (hc_23 _ _).symm
            first | rfl | exact pea_eq | exact pear_eq rfl | exact deed_eq rfl
          · refine Eq.trans ?_ (hc_24 _ _).symm
            first | rfl | exact pea_eq | exact pear_eq rfl | exact deed_eq rfl
          · refine Eq.trans ?_ (hc_121 _ _).symm
            first | rfl | exact pea_eq | exact pear_eq rfl | exact deed_eq rfl
          · refine Eq.trans ?_ (hc_122 _ _).symm
            first | rfl | exact pea_eq | exact pear_eq rfl | exact deed_eq rfl
          · refine Eq.trans ?_ (hc_123 _ _).symm
            first | rfl | exact pea_eq | exact pear_eq rfl | exact deed_eq rfl
          · refine Eq.trans ?_ (hc_124 _ _).symm
            first | rfl | exact pea_eq | exact pear_eq rfl | exact deed_eq rfl
          · refine Eq.trans ?_ (hc_125 _ _).symm
            first | rfl | exact pea_eq | exact pear_eq rfl | exact deed_eq rfl
          · refine Eq.trans ?_ (hc_126 _ _).symm
            first | rfl | exact pea_eq | exact pear_eq rfl | exact deed_eq rfl
          · refine Eq.trans ?_ (hc_127 _ _).symm
            first | rfl | exact pea_eq | exact pear_eq rfl | exact deed_eq rfl
          · refine Eq.trans ?_ (hc_128 _ _).symm
            first | rfl | exact pea_eq | exact pear_eq rfl | exact deed_eq rfl
          · refine Eq.trans ?_ (hc_129 _ _).symm
            first | rfl | exact pea_eq | exact pear_eq rfl | exact deed_eq rfl
          · refine Eq.trans ?_ (hc_130 _ _).symm
            first | rfl | exact pea_eq | exact pear_eq rfl | exact deed_eq rfl
          · refine Eq.trans ?_ (hc_131 _ _).symm
            first | rfl | exact pea_eq | exact pear_eq rfl | exact deed_eq rfl
          · refine Eq.trans ?_ (hc_132 _ _).symm
            first | rfl | exact pea_eq | exact pear_eq rfl | exact deed_eq rfl
          · refine Eq.trans ?_ (hc_133 _ _).symm
            first | rfl | exact pea_eq | exact pear_eq rfl | exact deed_eq rfl
          · refine Eq.trans ?_ (hc_134 _ _).symm
            first | rfl | exact pea_eq | exact pear_eq rfl | exact deed_eq rfl
          · refine Eq.trans ?_ (hc_135 _ _).symm
            first | rfl | exact pea_eq | exact pear_eq rfl | exact deed_eq rfl
          · refine Eq.trans ?_ (hc_136 _ _).symm
            first | rfl | exact pea_eq | exact pear_eq rfl | exact deed_eq rfl
          · refine Eq.trans ?_ (hc_137 _ _).symm
            first | rfl | exact pea_eq | exact pear_eq rfl | exact deed_eq rfl
          · refine Eq.trans ?_ (hc_138 _ _).symm
            first | rfl | exact pea_eq | exact pear_eq rfl | exact deed_eq rfl
          · refine Eq.trans ?_ (hc_139 _ _).symm
            first | rfl | exact pea_eq | exact pear_eq rfl | exact deed_eq rfl
          · refine Eq.trans ?_ (hc_140 _ _).symm
            first | rfl | exact pea_eq | exact pear_eq rfl | exact deed_eq rfl
    · rw [if_neg r, hq4 (by omega)]
      have m1 : ∀ (h : Nat → Cl) d e, mrows h 124 7 d e q = h q := fun h d e => by
        unfold mrows
        rw [if_neg (by omega), if_neg (by omega)]
      have m2 : ∀ (h : Nat → Cl) d e, mrows h 132 6 d e q = h q := fun h d e => by
        unfold mrows
        rw [if_neg (by omega), if_neg (by omega)]
      repeat first | rw [uph_n (by omega)] | rw [m1] | rw [m2] | rw [fin_n (by omega)]
  · dsimp only
