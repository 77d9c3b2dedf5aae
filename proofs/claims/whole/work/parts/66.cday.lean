/-! The class: takeFruit, daysGo, follow, grow. -/
theorem tq1 (t a : Nat) : (t + a = t) = (a = 0) := by simp
theorem tq2 (t a : Nat) : (t = t + a) = (a = 0) := by simp
theorem tq3 (t a b : Nat) : (t + a = t + b) = (a = b) := by simp
/-- what a step on a tree changes: all but its rows that are told; what waits in walls -/
def FD (t : Nat) (X Y : Nat → Nat → Int32) : Prop := ∀ q, ¬ (t ≤ q ∧ q ≤ t + 11) → ¬ (t + 24 ≤ q ∧ q ≤ t + 31) → ¬ isW q → Y q = X q
theorem FD_refl (t : Nat) (X : Nat → Nat → Int32) : FD t X X := fun _ _ _ _ => rfl
theorem FD_trans {t : Nat} {X Y Z : Nat → Nat → Int32} (h : FD t X Y) (g : FD t Y Z) : FD t X Z := fun q a b c => (g q a b c).trans (h q a b c)
theorem FD_FL {t : Nat} {X Y : Nat → Nat → Int32} (h : FL t X Y) : FD t X Y := fun q _ b c => h q (by omega) c
theorem c_bitH {w : Wd} (T : TR) (p : Nat) : E 1 mJ6_bitCount_0f7a4 0 [.int (hrT T p)] [] w = some (some (.int (nI (cntb (hrT T p) 12))), w) := by
  obtain ⟨m, hm, e⟩ := hr_rng T p
  rw [e]
  exact c_bitc hm
theorem d_day {K : KT} {X : Nat → Nat → Int32} {n z t i k : Nat} {T : TR} {mx : Int32} {l4 : Value} (ht : isT t) (hC : CT K X t T) (hg : gdT T) (hlt : ¬ nI k ≤ nI i) {my : Int32} (hmx : ∀ p, p < tN T → tR (dayT mx T) p = tR (dayT my T) p) :
    ∃ Y l4', E 6 mX8_daysGo 2 [.ref t, .int (nI k), .int mx, .int (nI i), l4] [] (hp K X, n, z) = E 6 mX8_daysGo 2 [.ref t, .int (nI k), .int mx, .int (nI (i + 1)), l4'] [] (hp K Y, n, z) ∧ FD t X Y ∧ CT K Y t (dayT my T) := by
  have htl := isT_le ht
  have h6 := hC.1
  obtain ⟨Y1, e1, f1, hL⟩ := d_light (K := K) (n := n) (z := z) ht hC
  have hC1 := CT_FL ht f1 hC
  obtain ⟨f, e2, hf⟩ := d_share (K := K) (n := n) (z := z) ht hC1 hL hg
  have fZ : FD t X (set1 Y1 (t + 31) f) := fun q a b c => (set1_ne _ _ (by omega)).trans (f1 q (by omega) c)
  have hCZ : CT K (set1 Y1 (t + 31) f) t T := CT_fr (fun q h1 _ => set1_ne _ _ (by omega)) (fun q hq => set1_ne _ _ (by omega)) hC1
  have hZ : (set1 Y1 (t + 31) f) (t + 31) = f := set1_same _ _ _
  revert fZ hCZ hZ
  generalize set1 Y1 (t + 31) f = Z at e2
  intro fZ hCZ hZ
  obtain ⟨L, W, e3, eL, f3, hlo, _⟩ := loopI (r := 6) (md := mX8_daysGo) (pc := 18) (N := tN T) (K := K) (n := n) (z := z)
    (fun j L W => L = [.ref t, .int (nI k), .int mx, .int (nI i), .int (nI j)] ∧ Fr [t + 3, t + 4] Z W ∧ (∀ p, p < j → W (t + 3) p = tH (dayT mx T) p ∧ W (t + 4) p = tR (dayT mx T) p) ∧ ∀ p, j ≤ p → W (t + 3) p = Z (t + 3) p ∧ W (t + 4) p = Z (t + 4) p)
    (by
      rintro j L W hj ⟨rfl, f3, hlo, hhi⟩
      have hn : W t 1 = nI (tN T) := by rw [f3 t (by simp)]; exact hCZ.2.1
      have h1 : ¬ nI (tN T) ≤ nI j := nI_ge hj (by omega)
      have hj6 : j < 6 := by omega
      have eh : W (t + 31) j = hrT T j := by rw [f3 (t + 31) (by simp), hZ]; exact hf j hj6
      have e3 : W (t + 3) j = tH T j := by rw [(hhi j (Nat.le_refl j)).1]; exact (hCZ.2.2.2.2.1 j hj).2.2.1
      have e4 : W (t + 4) j = tR T j := by rw [(hhi j (Nat.le_refl j)).2]; exact (hCZ.2.2.2.2.1 j hj).2.2.2
      refine ⟨_, set1 (set1 W (t + 3) (upd (W (t + 3)) j (tH (dayT mx T) j))) (t + 4) (upd (W (t + 4)) j (tR (dayT mx T) j)), ?_, rfl, Fr_set (Fr_set f3 (by simp)) (by simp), ?_, ?_⟩
      · rw [pX8_daysGo_18]
        simp (decide := true) only [pX8_daysGo_0, pX8_daysGo_1, pX8_daysGo_2, pX8_daysGo_3, pX8_daysGo_4, pX8_daysGo_7, pX8_daysGo_8, pX8_daysGo_11, pX8_daysGo_12, pX8_daysGo_15, pX8_daysGo_16, pX8_daysGo_20, pX8_daysGo_21, pX8_daysGo_24, pX8_daysGo_27, pX8_daysGo_28, pX8_daysGo_31, pX8_daysGo_33, pX8_daysGo_34, pX8_daysGo_35, pX8_daysGo_36, pX8_daysGo_39, pX8_daysGo_41, pX8_daysGo_42, pX8_daysGo_43, pX8_daysGo_44, pX8_daysGo_45, pX8_daysGo_48, pX8_daysGo_50, pX8_daysGo_51, pX8_daysGo_52, pX8_daysGo_55, pX8_daysGo_57, pX8_daysGo_58, pX8_daysGo_59, pX8_daysGo_62, pX8_daysGo_64, pX8_daysGo_65, pX8_daysGo_68, pX8_daysGo_69, pX8_daysGo_72, pX8_daysGo_73, pX8_daysGo_76, pX8_daysGo_79, pX8_daysGo_80, pX8_daysGo_81, pX8_daysGo_84, pX8_daysGo_85, pX8_daysGo_86, pX8_daysGo_89, pX8_daysGo_92, pX8_daysGo_95, kd_i0, kd_i1, kd_i2, kd_i3, kd_jA, kd_r5, kd_r6, kd_r7, al_i, al_j, al_r, ai_i, aj_j, aq_r, cls_o, fv_o, sti_i, stj_j, st2_s, st2_n, bnd_some, set1_same, set1_twice, to_0, to_1, to_2, to_3, to_4, to_5, to_6, to_7, to_8, to_9, to_10, to_11, to_12, to_13, to_14, to_15, ro_12_0, ro_12_1, ro_12_2, ro_15_0, ro_15_1, ro_15_2, ro_18_0, ro_18_1, ro_18_2, ro_21_0, ro_21_1, ro_21_2, va_rfs, tc_0 ht, tc_1 ht, tw_1 ht, tc_2 ht, tw_2 ht, tc_3 ht, tw_3 ht, tc_4 ht, tw_4 ht, tc_5 ht, tc_12 ht, tc_13 ht, tw_13 ht, tc_14 ht, tw_14 ht, tc_15 ht, tc_16 ht, tw_16 ht, tc_17 ht, tw_17 ht, tc_18 ht, tc_19 ht, tw_19 ht, tc_20 ht, tw_20 ht, tc_21 ht, tc_22 ht, tw_22 ht, tc_23 ht, tw_23 ht, tc_24 ht, tc_31 ht, tw_31 ht, tc_r ht, tw_r ht, tc_s ht, tw_s ht, tow_1 ht, tow_2 ht, tow_3 ht, tow_4 ht, row_12 ht, row_15 ht, row_18 ht, row_21 ht, ↓reduceIte, set1_ne, ne_eq, Nat.reduceEqDiff, not_false_eq_true, not_true_eq_false, if_true, if_false, ite_Ei, bI_eq0, pk_us, ix4, cx4, ix5, cx5, ix6, cx6, ix7, cx7, ix8, cx8, ix10, cx10, ix11, cx11, ix12, cx12, ix20, cx20, ix24, cx24, ix60, cx60, ix64, cx64, ix100, cx100, ix101, cx101, ix360, cx360, ix600, cx600, tq1, tq2, tq3, hn, h1, hj6, eh, e3, e4, c_bitH, nI_1]
        rfl
      · intro p hp
        rw [set1_same, set1_ne _ _ (by omega), set1_same]
        by_cases q : p = j
        · rw [q, pk_us, pk_us]; exact ⟨rfl, rfl⟩
        · rw [pk_un q, pk_un q]; exact hlo p (by omega)
      · intro p hp
        rw [set1_same, set1_ne _ _ (by omega), set1_same, pk_un (by omega), pk_un (by omega)]
        exact hhi p (by omega))
    (L := [.ref t, .int (nI k), .int mx, .int (nI i), .int 0]) (X := Z) ⟨rfl, Fr_refl _ _, fun p hp => absurd hp (by omega), fun p _ => ⟨rfl, rfl⟩⟩
  have hn : W t 1 = nI (tN T) := by rw [f3 t (by simp)]; exact hCZ.2.1
  have hd : W t 2 = tD T := by rw [f3 t (by simp)]; exact hCZ.2.2.2.1
  have h1 : nI (tN T) ≤ nI (tN T) := Int32.le_refl _
  refine ⟨set1 W t (upd (W t) 2 (tD T + 1)), .int (nI (tN T)), ?_, ?_, ?_⟩
  · rw [pX8_daysGo_2]
    simp only [pX8_daysGo_0, pX8_daysGo_1, pX8_daysGo_3, pX8_daysGo_4, pX8_daysGo_7, pX8_daysGo_8, pX8_daysGo_11, pX8_daysGo_12, pX8_daysGo_15, pX8_daysGo_16, pX8_daysGo_20, pX8_daysGo_21, pX8_daysGo_24, pX8_daysGo_27, pX8_daysGo_28, pX8_daysGo_31, pX8_daysGo_33, pX8_daysGo_34, pX8_daysGo_35, pX8_daysGo_36, pX8_daysGo_39, pX8_daysGo_41, pX8_daysGo_42, pX8_daysGo_43, pX8_daysGo_44, pX8_daysGo_45, pX8_daysGo_48, pX8_daysGo_50, pX8_daysGo_51, pX8_daysGo_52, pX8_daysGo_55, pX8_daysGo_57, pX8_daysGo_58, pX8_daysGo_59, pX8_daysGo_62, pX8_daysGo_64, pX8_daysGo_65, pX8_daysGo_68, pX8_daysGo_69, pX8_daysGo_72, pX8_daysGo_73, pX8_daysGo_76, pX8_daysGo_79, pX8_daysGo_80, pX8_daysGo_81, pX8_daysGo_84, pX8_daysGo_85, pX8_daysGo_86, pX8_daysGo_89, pX8_daysGo_92, pX8_daysGo_95, kd_i0, kd_i1, kd_i2, kd_i3, kd_jA, kd_r5, kd_r6, kd_r7, al_i, al_j, al_r, ai_i, aj_j, aq_r, cls_o, fv_o, sti_i, stj_j, st2_s, st2_n, bnd_some, set1_same, set1_twice, to_0, to_1, to_2, to_3, to_4, to_5, to_6, to_7, to_8, to_9, to_10, to_11, to_12, to_13, to_14, to_15, ro_12_0, ro_12_1, ro_12_2, ro_15_0, ro_15_1, ro_15_2, ro_18_0, ro_18_1, ro_18_2, ro_21_0, ro_21_1, ro_21_2, va_rfs, tc_0 ht, tc_1 ht, tw_1 ht, tc_2 ht, tw_2 ht, tc_3 ht, tw_3 ht, tc_4 ht, tw_4 ht, tc_5 ht, tc_12 ht, tc_13 ht, tw_13 ht, tc_14 ht, tw_14 ht, tc_15 ht, tc_16 ht, tw_16 ht, tc_17 ht, tw_17 ht, tc_18 ht, tc_19 ht, tw_19 ht, tc_20 ht, tw_20 ht, tc_21 ht, tc_22 ht, tw_22 ht, tc_23 ht, tw_23 ht, tc_24 ht, tc_31 ht, tw_31 ht, tc_r ht, tw_r ht, tc_s ht, tw_s ht, tow_1 ht, tow_2 ht, tow_3 ht, tow_4 ht, row_12 ht, row_15 ht, row_18 ht, row_21 ht, ↓reduceIte, set1_ne, ne_eq, Nat.reduceEqDiff, not_false_eq_true, not_true_eq_false, if_true, if_false, ite_Ei, bI_eq0, pk_us, ix4, cx4, ix5, cx5, ix6, cx6, ix7, cx7, ix8, cx8, ix10, cx10, ix11, cx11, ix12, cx12, ix20, cx20, ix24, cx24, ix60, cx60, ix64, cx64, ix100, cx100, ix101, cx101, ix360, cx360, ix600, cx600, hlt, e1, e2]
    rw [e3, eL, pX8_daysGo_18]
    simp only [pX8_daysGo_0, pX8_daysGo_1, pX8_daysGo_3, pX8_daysGo_4, pX8_daysGo_7, pX8_daysGo_8, pX8_daysGo_11, pX8_daysGo_12, pX8_daysGo_15, pX8_daysGo_16, pX8_daysGo_20, pX8_daysGo_21, pX8_daysGo_24, pX8_daysGo_27, pX8_daysGo_28, pX8_daysGo_31, pX8_daysGo_33, pX8_daysGo_34, pX8_daysGo_35, pX8_daysGo_36, pX8_daysGo_39, pX8_daysGo_41, pX8_daysGo_42, pX8_daysGo_43, pX8_daysGo_44, pX8_daysGo_45, pX8_daysGo_48, pX8_daysGo_50, pX8_daysGo_51, pX8_daysGo_52, pX8_daysGo_55, pX8_daysGo_57, pX8_daysGo_58, pX8_daysGo_59, pX8_daysGo_62, pX8_daysGo_64, pX8_daysGo_65, pX8_daysGo_68, pX8_daysGo_69, pX8_daysGo_72, pX8_daysGo_73, pX8_daysGo_76, pX8_daysGo_79, pX8_daysGo_80, pX8_daysGo_81, pX8_daysGo_84, pX8_daysGo_85, pX8_daysGo_86, pX8_daysGo_89, pX8_daysGo_92, pX8_daysGo_95, kd_i0, kd_i1, kd_i2, kd_i3, kd_jA, kd_r5, kd_r6, kd_r7, al_i, al_j, al_r, ai_i, aj_j, aq_r, cls_o, fv_o, sti_i, stj_j, st2_s, st2_n, bnd_some, set1_same, set1_twice, to_0, to_1, to_2, to_3, to_4, to_5, to_6, to_7, to_8, to_9, to_10, to_11, to_12, to_13, to_14, to_15, ro_12_0, ro_12_1, ro_12_2, ro_15_0, ro_15_1, ro_15_2, ro_18_0, ro_18_1, ro_18_2, ro_21_0, ro_21_1, ro_21_2, va_rfs, tc_0 ht, tc_1 ht, tw_1 ht, tc_2 ht, tw_2 ht, tc_3 ht, tw_3 ht, tc_4 ht, tw_4 ht, tc_5 ht, tc_12 ht, tc_13 ht, tw_13 ht, tc_14 ht, tw_14 ht, tc_15 ht, tc_16 ht, tw_16 ht, tc_17 ht, tw_17 ht, tc_18 ht, tc_19 ht, tw_19 ht, tc_20 ht, tw_20 ht, tc_21 ht, tc_22 ht, tw_22 ht, tc_23 ht, tw_23 ht, tc_24 ht, tc_31 ht, tw_31 ht, tc_r ht, tw_r ht, tc_s ht, tw_s ht, tow_1 ht, tow_2 ht, tow_3 ht, tow_4 ht, row_12 ht, row_15 ht, row_18 ht, row_21 ht, ↓reduceIte, set1_ne, ne_eq, Nat.reduceEqDiff, not_false_eq_true, not_true_eq_false, if_true, if_false, ite_Ei, bI_eq0, pk_us, ix4, cx4, ix5, cx5, ix6, cx6, ix7, cx7, ix8, cx8, ix10, cx10, ix11, cx11, ix12, cx12, ix20, cx20, ix24, cx24, ix60, cx60, ix64, cx64, ix100, cx100, ix101, cx101, ix360, cx360, ix600, cx600, hn, h1, hd, nI_1]
  · exact FD_trans fZ (fun q a b _ => (set1_ne _ _ (by omega)).trans (f3 q (by simp; omega)))
  · obtain ⟨_, h2, h3, h4, h5, h6', h7⟩ := hCZ
    have w31 : ∀ q, 186 ≤ q → ¬ isW q → (set1 W t (upd (W t) 2 (tD T + 1))) q = Z q := fun q a _ => (set1_ne _ _ (by omega)).trans (f3 q (by simp; omega))
    refine ⟨h6, ?_, ?_, ?_, ?_, ?_, CW_fr w31 h7⟩
    · rw [set1_same, pk_un (by decide)]; exact hn
    · rw [set1_same, pk_un (by decide), f3 t (by simp)]; exact h3
    · rw [set1_same, pk_us]; rfl
    · intro p hp
      rw [set1_ne _ _ (by omega), set1_ne _ _ (by omega), set1_ne _ _ (by omega), set1_ne _ _ (by omega), f3 (t + 1) (by simp), f3 (t + 2) (by simp)]
      exact ⟨(h5 p hp).1, (h5 p hp).2.1, (hlo p hp).1, (hlo p hp).2.trans (hmx p hp)⟩
    · intro p q hp hq
      rw [set1_ne _ _ (by omega), f3 (t + 6 + p) (by simp; omega)]
      exact h6' p q hp hq
theorem gd_days {T : TR} {k : Nat} {mx : Int32} (hd : ∃ d, d + k < 1000000 ∧ tD T = nI d) (h7 : ∀ p, p < tN T → k7 (tK T p)) : ∀ i, i ≤ k → gdT (daysT mx i T) ∧ (∃ d, d + (k - i) < 1000000 ∧ tD (daysT mx i T) = nI d) ∧ tK (daysT mx i T) = tK T := by
  intro i
  induction i with
  | zero =>
    intro _
    obtain ⟨d, h1, h2⟩ := hd
    exact ⟨⟨⟨d, by omega, h2⟩, h7⟩, ⟨d, by omega, h2⟩, rfl⟩
  | succ i ih =>
    intro hi
    obtain ⟨_, ⟨d, h1, h2⟩, h3⟩ := ih (by omega)
    have e : tD (daysT mx (i + 1) T) = nI (d + 1) := by
      show tD (daysT mx i T) + 1 = _
      rw [h2, nI_1]
    have ek : tK (daysT mx (i + 1) T) = tK T := h3
    refine ⟨⟨⟨d + 1, by omega, e⟩, fun p hp => ?_⟩, ⟨d + 1, by omega, e⟩, ek⟩
    rw [ek]
    rw [daysT_nf] at hp
    exact h7 p hp
theorem d_daysGo {K : KT} {X : Nat → Nat → Int32} {n z t k : Nat} {T : TR} {mx : Int32} (ht : isT t) (hC : CT K X t T) (hk : k < 1000) (hd : ∃ d, d + k < 1000000 ∧ tD T = nI d) (h7 : ∀ p, p < tN T → k7 (tK T p)) {my : Int32} (hmx : ∀ i, i < k → ∀ p, p < tN T → tR (dayT mx (daysT my i T)) p = tR (dayT my (daysT my i T)) p) :
    ∃ Y, E 6 mX8_daysGo 0 [.ref t, .int (nI k), .int mx, .null, .null] [] (hp K X, n, z) = some (none, (hp K Y, n, z)) ∧ FD t X Y ∧ CT K Y t (daysT my k T) := by
  obtain ⟨L, Y, e, ⟨l4, eL⟩, f, hY⟩ := loopI (r := 6) (md := mX8_daysGo) (pc := 2) (N := k) (K := K) (n := n) (z := z)
    (fun i L Y => (∃ l4, L = [.ref t, .int (nI k), .int mx, .int (nI i), l4]) ∧ FD t X Y ∧ CT K Y t (daysT my i T))
    (by
      rintro i L Y hi ⟨⟨l4, rfl⟩, f, hY⟩
      obtain ⟨Z, l5, e, fZ, hZ⟩ := d_day (K := K) (n := n) (z := z) (k := k) (i := i) (mx := mx) (l4 := l4) ht hY (gd_days hd h7 i (by omega)).1 (nI_ge hi (by omega)) (my := my) (fun p hp => hmx i hi p (by rw [daysT_nf] at hp; exact hp))
      exact ⟨_, Z, e, ⟨l5, rfl⟩, FD_trans f fZ, hZ⟩)
    (L := [.ref t, .int (nI k), .int mx, .int 0, .null]) (X := X) ⟨⟨.null, rfl⟩, FD_refl _ _, hC⟩
  refine ⟨Y, ?_, f, hY⟩
  have h1 : nI k ≤ nI k := Int32.le_refl _
  simp only [pX8_daysGo_0, pX8_daysGo_1, pX8_daysGo_3, pX8_daysGo_4, pX8_daysGo_7, pX8_daysGo_8, pX8_daysGo_11, pX8_daysGo_12, pX8_daysGo_15, pX8_daysGo_16, pX8_daysGo_18, pX8_daysGo_20, pX8_daysGo_21, pX8_daysGo_24, pX8_daysGo_27, pX8_daysGo_28, pX8_daysGo_31, pX8_daysGo_33, pX8_daysGo_34, pX8_daysGo_35, pX8_daysGo_36, pX8_daysGo_39, pX8_daysGo_41, pX8_daysGo_42, pX8_daysGo_43, pX8_daysGo_44, pX8_daysGo_45, pX8_daysGo_48, pX8_daysGo_50, pX8_daysGo_51, pX8_daysGo_52, pX8_daysGo_55, pX8_daysGo_57, pX8_daysGo_58, pX8_daysGo_59, pX8_daysGo_62, pX8_daysGo_64, pX8_daysGo_65, pX8_daysGo_68, pX8_daysGo_69, pX8_daysGo_72, pX8_daysGo_73, pX8_daysGo_76, pX8_daysGo_79, pX8_daysGo_80, pX8_daysGo_81, pX8_daysGo_84, pX8_daysGo_85, pX8_daysGo_86, pX8_daysGo_89, pX8_daysGo_92, pX8_daysGo_95, kd_i0, kd_i1, kd_i2, kd_i3, kd_jA, kd_r5, kd_r6, kd_r7, al_i, al_j, al_r, ai_i, aj_j, aq_r, cls_o, fv_o, sti_i, stj_j, st2_s, st2_n, bnd_some, set1_same, set1_twice, to_0, to_1, to_2, to_3, to_4, to_5, to_6, to_7, to_8, to_9, to_10, to_11, to_12, to_13, to_14, to_15, ro_12_0, ro_12_1, ro_12_2, ro_15_0, ro_15_1, ro_15_2, ro_18_0, ro_18_1, ro_18_2, ro_21_0, ro_21_1, ro_21_2, va_rfs, tc_0 ht, tc_1 ht, tw_1 ht, tc_2 ht, tw_2 ht, tc_3 ht, tw_3 ht, tc_4 ht, tw_4 ht, tc_5 ht, tc_12 ht, tc_13 ht, tw_13 ht, tc_14 ht, tw_14 ht, tc_15 ht, tc_16 ht, tw_16 ht, tc_17 ht, tw_17 ht, tc_18 ht, tc_19 ht, tw_19 ht, tc_20 ht, tw_20 ht, tc_21 ht, tc_22 ht, tw_22 ht, tc_23 ht, tw_23 ht, tc_24 ht, tc_31 ht, tw_31 ht, tc_r ht, tw_r ht, tc_s ht, tw_s ht, tow_1 ht, tow_2 ht, tow_3 ht, tow_4 ht, row_12 ht, row_15 ht, row_18 ht, row_21 ht, ↓reduceIte, set1_ne, ne_eq, Nat.reduceEqDiff, not_false_eq_true, not_true_eq_false, if_true, if_false, ite_Ei, bI_eq0, pk_us, ix4, cx4, ix5, cx5, ix6, cx6, ix7, cx7, ix8, cx8, ix10, cx10, ix11, cx11, ix12, cx12, ix20, cx20, ix24, cx24, ix60, cx60, ix64, cx64, ix100, cx100, ix101, cx101, ix360, cx360, ix600, cx600]
  rw [e, eL]
  simp only [pX8_daysGo_0, pX8_daysGo_1, pX8_daysGo_2, pX8_daysGo_3, pX8_daysGo_4, pX8_daysGo_7, pX8_daysGo_8, pX8_daysGo_11, pX8_daysGo_12, pX8_daysGo_15, pX8_daysGo_16, pX8_daysGo_18, pX8_daysGo_20, pX8_daysGo_21, pX8_daysGo_24, pX8_daysGo_27, pX8_daysGo_28, pX8_daysGo_31, pX8_daysGo_33, pX8_daysGo_34, pX8_daysGo_35, pX8_daysGo_36, pX8_daysGo_39, pX8_daysGo_41, pX8_daysGo_42, pX8_daysGo_43, pX8_daysGo_44, pX8_daysGo_45, pX8_daysGo_48, pX8_daysGo_50, pX8_daysGo_51, pX8_daysGo_52, pX8_daysGo_55, pX8_daysGo_57, pX8_daysGo_58, pX8_daysGo_59, pX8_daysGo_62, pX8_daysGo_64, pX8_daysGo_65, pX8_daysGo_68, pX8_daysGo_69, pX8_daysGo_72, pX8_daysGo_73, pX8_daysGo_76, pX8_daysGo_79, pX8_daysGo_80, pX8_daysGo_81, pX8_daysGo_84, pX8_daysGo_85, pX8_daysGo_86, pX8_daysGo_89, pX8_daysGo_92, pX8_daysGo_95, kd_i0, kd_i1, kd_i2, kd_i3, kd_jA, kd_r5, kd_r6, kd_r7, al_i, al_j, al_r, ai_i, aj_j, aq_r, cls_o, fv_o, sti_i, stj_j, st2_s, st2_n, bnd_some, set1_same, set1_twice, to_0, to_1, to_2, to_3, to_4, to_5, to_6, to_7, to_8, to_9, to_10, to_11, to_12, to_13, to_14, to_15, ro_12_0, ro_12_1, ro_12_2, ro_15_0, ro_15_1, ro_15_2, ro_18_0, ro_18_1, ro_18_2, ro_21_0, ro_21_1, ro_21_2, va_rfs, tc_0 ht, tc_1 ht, tw_1 ht, tc_2 ht, tw_2 ht, tc_3 ht, tw_3 ht, tc_4 ht, tw_4 ht, tc_5 ht, tc_12 ht, tc_13 ht, tw_13 ht, tc_14 ht, tw_14 ht, tc_15 ht, tc_16 ht, tw_16 ht, tc_17 ht, tw_17 ht, tc_18 ht, tc_19 ht, tw_19 ht, tc_20 ht, tw_20 ht, tc_21 ht, tc_22 ht, tw_22 ht, tc_23 ht, tw_23 ht, tc_24 ht, tc_31 ht, tw_31 ht, tc_r ht, tw_r ht, tc_s ht, tw_s ht, tow_1 ht, tow_2 ht, tow_3 ht, tow_4 ht, row_12 ht, row_15 ht, row_18 ht, row_21 ht, ↓reduceIte, set1_ne, ne_eq, Nat.reduceEqDiff, not_false_eq_true, not_true_eq_false, if_true, if_false, ite_Ei, bI_eq0, pk_us, ix4, cx4, ix5, cx5, ix6, cx6, ix7, cx7, ix8, cx8, ix10, cx10, ix11, cx11, ix12, cx12, ix20, cx20, ix24, cx24, ix60, cx60, ix64, cx64, ix100, cx100, ix101, cx101, ix360, cx360, ix600, cx600, h1]
/-- ripe is a number of at most B -/
def rb (B : Nat) (T : TR) : Prop := ∀ p, p < tN T → ∃ r, r ≤ B ∧ tR T p = nI r
theorem rb_day {B : Nat} {T : TR} (h : rb B T) (hB : B < 1000000) : rb (B + 12) (dayT 2000000000 T) := by
  intro p hp
  obtain ⟨r, hr, e⟩ := h p hp
  have hc := cntb_le (hrT T p) 12
  refine ⟨r + cntb (hrT T p) 12, by omega, ?_⟩
  show (if tR T p + nI (cntb (hrT T p) 12) < 2000000000 then tR T p + nI (cntb (hrT T p) 12) else 2000000000) = _
  have h1 : nI (r + cntb (hrT T p) 12) < (2000000000 : Int32) := nI_lt (b := 2000000000) (by omega) (by decide)
  rw [e, nI_add, if_pos h1]
theorem rb_days {B : Nat} {T : TR} (h : rb B T) : ∀ k, B + 12 * k < 1000000 → rb (B + 12 * k) (daysT 2000000000 k T) := by
  intro k
  induction k with
  | zero => intro _; exact h
  | succ k ih =>
    intro hk
    have := rb_day (ih (by omega)) (by omega)
    rw [show B + 12 * (k + 1) = B + 12 * k + 12 by omega]
    exact this
theorem mx_free {B : Nat} {T : TR} (h : rb B T) (hB : B < 1000000) : ∀ p, p < tN T → tR (dayT 2147483647 T) p = tR (dayT 2000000000 T) p := by
  intro p hp
  obtain ⟨r, hr, e⟩ := h p hp
  have hc := cntb_le (hrT T p) 12
  show (if tR T p + nI (cntb (hrT T p) 12) < 2147483647 then tR T p + nI (cntb (hrT T p) 12) else 2147483647) = (if tR T p + nI (cntb (hrT T p) 12) < 2000000000 then tR T p + nI (cntb (hrT T p) 12) else 2000000000)
  have h1 : nI (r + cntb (hrT T p) 12) < (2000000000 : Int32) := nI_lt (b := 2000000000) (by omega) (by decide)
  have h2 : nI (r + cntb (hrT T p) 12) < (2147483647 : Int32) := nI_lt (b := 2147483647) (by omega) (by decide)
  rw [e, nI_add, if_pos h1, if_pos h2]
theorem d_daysF {K : KT} {X : Nat → Nat → Int32} {n z t k B : Nat} {T : TR} (ht : isT t) (hC : CT K X t T) (hk : k < 1000) (hd : ∃ d, d + k < 1000000 ∧ tD T = nI d) (h7 : ∀ p, p < tN T → k7 (tK T p)) (hr : rb B T) (hB : B + 12 * k < 1000000) :
    ∃ Y, E 6 mX8_daysGo 0 [.ref t, .int (nI k), .int 2147483647, .null, .null] [] (hp K X, n, z) = some (none, (hp K Y, n, z)) ∧ FD t X Y ∧ CT K Y t (daysT 2000000000 k T) :=
  d_daysGo ht hC hk hd h7 (fun i hi p hp => mx_free (rb_days hr i (by omega)) (by omega) p (by rw [daysT_nf]; exact hp))
theorem cpk {a b m : Nat} {f g : Nat → Int32} (h : m ≤ a) (h2 : m ≤ b) (h3 : m < 1000) : cpok (iA 0 a f) (iA 0 b g) 0 0 (nI m) := by
  have e : cx (nI m) = m := cx_nI (by omega)
  refine ⟨by decide, by decide, nI_pos (by omega), ?_, ?_, Or.inl ⟨rfl, rfl⟩⟩
  · rw [e, cxl_0]; show 0 + m ≤ a; omega
  · rw [e, cxl_0]; show 0 + m ≤ b; omega
theorem cpi_ii {s a t b sp dp m : Nat} {f g : Nat → Int32} : cpi (iA s a f) (iA t b g) sp dp m = iA t b (va_cpy f g sp dp m) := rfl
theorem cpy0 {f g : Nat → Int32} {m j : Nat} (h : j < m) : va_cpy f g 0 0 m j = f j := by
  rw [pk_cpy_in (by omega) (by omega)]
  show f (0 + (j - 0)) = f j
  rw [Nat.zero_add, Nat.sub_zero]
theorem cpk6 {m : Nat} {f g : Nat → Int32} (h : m ≤ 6) : cpok (iA 0 6 f) (iA 0 6 g) 0 0 (nI m) := cpk h h (by omega)
theorem cpk4 {f g : Nat → Int32} : cpok (iA 0 4 f) (iA 0 4 g) 0 0 4 := cpk (a := 4) (b := 4) (m := 4) (by decide) (by decide) (by decide)
theorem shp_sv {K : KT} {a : Nat} {v : Value} {q : Nat} : shp (setV K a v) q = shp K q := rfl
theorem CW_sv {K : KT} {X : Nat → Nat → Int32} {v w : Value} {wl : List Cla} {t : Nat} (h : CW K X v wl) : CW (setV K t w) X v wl := h
section TAKE
variable {K : KT} {X : Nat → Nat → Int32} {n z t o : Nat} {T : TR}
theorem take_row (ht : isT t) (ho : isT o) (hto : t ≠ o) (hN : tN T ≤ 6) (hn : X t 1 = nI (tN T)) :
    ∃ Y, E 1 mX8_takeFruit 102 [.ref t, .ref o, .int 0] [] (hp K X, n, z) = some (none, (hp K Y, n, z)) ∧ (∀ q, ¬ (t + 6 ≤ q ∧ q ≤ t + 11) → Y q = X q) ∧ ∀ p j, p < tN T → j < 4 → Y (t + 6 + p) j = X (o + 6 + p) j := by
  obtain ⟨L, Y, e, eL, f, h⟩ := loopI (r := 1) (md := mX8_takeFruit) (pc := 102) (N := tN T) (K := K) (n := n) (z := z)
    (fun k L Y => L = [.ref t, .ref o, .int (nI k)] ∧ (∀ q, ¬ (t + 6 ≤ q ∧ q ≤ t + 11) → Y q = X q) ∧ ∀ p j, p < k → j < 4 → Y (t + 6 + p) j = X (o + 6 + p) j)
    (by
      rintro k L Y hk ⟨rfl, f, h⟩
      have h1 : ¬ nI (tN T) ≤ nI k := nI_ge hk (by omega)
      have hk6 : k < 6 := by omega
      have hnY : Y t 1 = nI (tN T) := by rw [f t (by omega)]; exact hn
      have eo : ∀ p, p < 6 → Y (o + 6 + p) = X (o + 6 + p) := fun p hp => f _ (by unfold isT at ht ho; omega)
      refine ⟨_, set1 Y (t + 6 + k) (va_cpy (Y (o + 6 + k)) (Y (t + 6 + k)) 0 0 4), ?_, rfl, ?_, ?_⟩
      · rw [pX8_takeFruit_102]
        simp only [pX8_takeFruit_0, pX8_takeFruit_1, pX8_takeFruit_2, pX8_takeFruit_5, pX8_takeFruit_8, pX8_takeFruit_9, pX8_takeFruit_10, pX8_takeFruit_13, pX8_takeFruit_16, pX8_takeFruit_17, pX8_takeFruit_18, pX8_takeFruit_21, pX8_takeFruit_24, pX8_takeFruit_25, pX8_takeFruit_26, pX8_takeFruit_29, pX8_takeFruit_29n, pX8_takeFruit_32, pX8_takeFruit_33, pX8_takeFruit_36, pX8_takeFruit_37, pX8_takeFruit_38, pX8_takeFruit_41, pX8_takeFruit_42, pX8_takeFruit_43, pX8_takeFruit_46, pX8_takeFruit_49, pX8_takeFruit_50, pX8_takeFruit_53, pX8_takeFruit_54, pX8_takeFruit_55, pX8_takeFruit_58, pX8_takeFruit_59, pX8_takeFruit_60, pX8_takeFruit_63, pX8_takeFruit_66, pX8_takeFruit_67, pX8_takeFruit_70, pX8_takeFruit_71, pX8_takeFruit_72, pX8_takeFruit_75, pX8_takeFruit_76, pX8_takeFruit_77, pX8_takeFruit_80, pX8_takeFruit_83, pX8_takeFruit_84, pX8_takeFruit_87, pX8_takeFruit_88, pX8_takeFruit_89, pX8_takeFruit_92, pX8_takeFruit_93, pX8_takeFruit_94, pX8_takeFruit_97, pX8_takeFruit_100, pX8_takeFruit_101, pX8_takeFruit_103, pX8_takeFruit_104, pX8_takeFruit_107, pX8_takeFruit_110, pX8_takeFruit_111, pX8_takeFruit_114, pX8_takeFruit_115_5, pX8_takeFruit_115_6, pX8_takeFruit_115_7, pX8_takeFruit_116, pX8_takeFruit_117, pX8_takeFruit_118, pX8_takeFruit_121, pX8_takeFruit_122_5, pX8_takeFruit_122_6, pX8_takeFruit_122_7, pX8_takeFruit_123, pX8_takeFruit_124, pX8_takeFruit_125, pX8_takeFruit_128, pX8_takeFruit_131, pX8_takeFruit_134, kd_i0, kd_i1, kd_i2, kd_i3, kd_jA, kd_r5, kd_r6, kd_r7, al_i, al_j, al_r, ai_i, aj_j, aq_r, cls_o, fv_o, sti_i, stj_j, st2_s, st2_n, bnd_some, set1_same, set1_twice, to_0, to_1, to_2, to_3, to_4, to_5, to_6, to_7, to_8, to_9, to_10, to_11, to_12, to_13, to_14, to_15, ro_12_0, ro_12_1, ro_12_2, ro_15_0, ro_15_1, ro_15_2, ro_18_0, ro_18_1, ro_18_2, ro_21_0, ro_21_1, ro_21_2, va_rfs, tc_0 ht, tc_1 ht, tw_1 ht, tc_2 ht, tw_2 ht, tc_3 ht, tw_3 ht, tc_4 ht, tw_4 ht, tc_5 ht, tc_12 ht, tc_13 ht, tw_13 ht, tc_14 ht, tw_14 ht, tc_15 ht, tc_16 ht, tw_16 ht, tc_17 ht, tw_17 ht, tc_18 ht, tc_19 ht, tw_19 ht, tc_20 ht, tw_20 ht, tc_21 ht, tc_22 ht, tw_22 ht, tc_23 ht, tw_23 ht, tc_24 ht, tc_31 ht, tw_31 ht, tc_r ht, tw_r ht, tc_s ht, tw_s ht, tow_1 ht, tow_2 ht, tow_3 ht, tow_4 ht, row_12 ht, row_15 ht, row_18 ht, row_21 ht, tc_0 ho, tc_1 ho, tw_1 ho, tc_2 ho, tw_2 ho, tc_3 ho, tw_3 ho, tc_4 ho, tw_4 ho, tc_5 ho, tc_12 ho, tc_13 ho, tw_13 ho, tc_14 ho, tw_14 ho, tc_15 ho, tc_16 ho, tw_16 ho, tc_17 ho, tw_17 ho, tc_18 ho, tc_19 ho, tw_19 ho, tc_20 ho, tw_20 ho, tc_21 ho, tc_22 ho, tw_22 ho, tc_23 ho, tw_23 ho, tc_24 ho, tc_31 ho, tw_31 ho, tc_r ho, tw_r ho, tc_s ho, tw_s ho, tow_1 ho, tow_2 ho, tow_3 ho, tow_4 ho, row_12 ho, row_15 ho, row_18 ho, row_21 ho, ↓reduceIte, set1_ne, ne_eq, Nat.reduceEqDiff, not_false_eq_true, not_true_eq_false, if_true, if_false, ite_Ei, bI_eq0, pk_us, ix4, cx4, ix5, cx5, ix6, cx6, ix7, cx7, ix8, cx8, ix10, cx10, ix11, cx11, ix12, cx12, ix20, cx20, ix24, cx24, ix60, cx60, ix64, cx64, ix100, cx100, ix101, cx101, ix360, cx360, ix600, cx600, hnY, h1, hk6, cpk4, cpi_ii, cxl_0, cxl_4, nI_1]
      · intro q hq
        rw [set1_ne _ _ (by omega)]
        exact f q hq
      · intro p j hp hj
        by_cases q : p = k
        · rw [q, set1_same, cpy0 hj, eo k hk6]
        · rw [set1_ne _ _ (by omega)]
          exact h p j (by omega) hj)
    (L := [.ref t, .ref o, .int 0]) (X := X) ⟨rfl, fun _ _ => rfl, fun p j hp => absurd hp (by omega)⟩
  refine ⟨Y, ?_, f, h⟩
  have hnY : Y t 1 = nI (tN T) := by rw [f t (by omega)]; exact hn
  have h1 : nI (tN T) ≤ nI (tN T) := Int32.le_refl _
  rw [e, eL, pX8_takeFruit_102]
  simp only [pX8_takeFruit_0, pX8_takeFruit_1, pX8_takeFruit_2, pX8_takeFruit_5, pX8_takeFruit_8, pX8_takeFruit_9, pX8_takeFruit_10, pX8_takeFruit_13, pX8_takeFruit_16, pX8_takeFruit_17, pX8_takeFruit_18, pX8_takeFruit_21, pX8_takeFruit_24, pX8_takeFruit_25, pX8_takeFruit_26, pX8_takeFruit_29, pX8_takeFruit_29n, pX8_takeFruit_32, pX8_takeFruit_33, pX8_takeFruit_36, pX8_takeFruit_37, pX8_takeFruit_38, pX8_takeFruit_41, pX8_takeFruit_42, pX8_takeFruit_43, pX8_takeFruit_46, pX8_takeFruit_49, pX8_takeFruit_50, pX8_takeFruit_53, pX8_takeFruit_54, pX8_takeFruit_55, pX8_takeFruit_58, pX8_takeFruit_59, pX8_takeFruit_60, pX8_takeFruit_63, pX8_takeFruit_66, pX8_takeFruit_67, pX8_takeFruit_70, pX8_takeFruit_71, pX8_takeFruit_72, pX8_takeFruit_75, pX8_takeFruit_76, pX8_takeFruit_77, pX8_takeFruit_80, pX8_takeFruit_83, pX8_takeFruit_84, pX8_takeFruit_87, pX8_takeFruit_88, pX8_takeFruit_89, pX8_takeFruit_92, pX8_takeFruit_93, pX8_takeFruit_94, pX8_takeFruit_97, pX8_takeFruit_100, pX8_takeFruit_101, pX8_takeFruit_103, pX8_takeFruit_104, pX8_takeFruit_107, pX8_takeFruit_110, pX8_takeFruit_111, pX8_takeFruit_114, pX8_takeFruit_115_5, pX8_takeFruit_115_6, pX8_takeFruit_115_7, pX8_takeFruit_116, pX8_takeFruit_117, pX8_takeFruit_118, pX8_takeFruit_121, pX8_takeFruit_122_5, pX8_takeFruit_122_6, pX8_takeFruit_122_7, pX8_takeFruit_123, pX8_takeFruit_124, pX8_takeFruit_125, pX8_takeFruit_128, pX8_takeFruit_131, pX8_takeFruit_134, kd_i0, kd_i1, kd_i2, kd_i3, kd_jA, kd_r5, kd_r6, kd_r7, al_i, al_j, al_r, ai_i, aj_j, aq_r, cls_o, fv_o, sti_i, stj_j, st2_s, st2_n, bnd_some, set1_same, set1_twice, to_0, to_1, to_2, to_3, to_4, to_5, to_6, to_7, to_8, to_9, to_10, to_11, to_12, to_13, to_14, to_15, ro_12_0, ro_12_1, ro_12_2, ro_15_0, ro_15_1, ro_15_2, ro_18_0, ro_18_1, ro_18_2, ro_21_0, ro_21_1, ro_21_2, va_rfs, tc_0 ht, tc_1 ht, tw_1 ht, tc_2 ht, tw_2 ht, tc_3 ht, tw_3 ht, tc_4 ht, tw_4 ht, tc_5 ht, tc_12 ht, tc_13 ht, tw_13 ht, tc_14 ht, tw_14 ht, tc_15 ht, tc_16 ht, tw_16 ht, tc_17 ht, tw_17 ht, tc_18 ht, tc_19 ht, tw_19 ht, tc_20 ht, tw_20 ht, tc_21 ht, tc_22 ht, tw_22 ht, tc_23 ht, tw_23 ht, tc_24 ht, tc_31 ht, tw_31 ht, tc_r ht, tw_r ht, tc_s ht, tw_s ht, tow_1 ht, tow_2 ht, tow_3 ht, tow_4 ht, row_12 ht, row_15 ht, row_18 ht, row_21 ht, ↓reduceIte, set1_ne, ne_eq, Nat.reduceEqDiff, not_false_eq_true, not_true_eq_false, if_true, if_false, ite_Ei, bI_eq0, pk_us, ix4, cx4, ix5, cx5, ix6, cx6, ix7, cx7, ix8, cx8, ix10, cx10, ix11, cx11, ix12, cx12, ix20, cx20, ix24, cx24, ix60, cx60, ix64, cx64, ix100, cx100, ix101, cx101, ix360, cx360, ix600, cx600, hnY, h1]
theorem d_take (ht : isT t) (ho : isT o) (hto : t ≠ o) (hC : CT K X o T) :
    ∃ Y, E 1 mX8_takeFruit 0 [.ref t, .ref o, .null] [] (hp K X, n, z) = some (none, (hp (setV K t (kV K o)) Y, n, z)) ∧ (∀ q, ¬ (t ≤ q ∧ q ≤ t + 11) → Y q = X q) ∧ CT (setV K t (kV K o)) Y t T := by
  have htl := isT_le ht
  have hol := isT_le ho
  have s10 : ∀ (Y : Nat → Nat → Int32) (f : Nat → Int32), set1 Y t f (o + 1) = Y (o + 1) := fun Y f => set1_ne _ _ (by unfold isT at ht ho; omega)
  have s11 : ∀ (Y : Nat → Nat → Int32) (f : Nat → Int32), set1 Y (t + 1) f (o + 1) = Y (o + 1) := fun Y f => set1_ne _ _ (by unfold isT at ht ho; omega)
  have s12 : ∀ (Y : Nat → Nat → Int32) (f : Nat → Int32), set1 Y (t + 2) f (o + 1) = Y (o + 1) := fun Y f => set1_ne _ _ (by unfold isT at ht ho; omega)
  have s13 : ∀ (Y : Nat → Nat → Int32) (f : Nat → Int32), set1 Y (t + 3) f (o + 1) = Y (o + 1) := fun Y f => set1_ne _ _ (by unfold isT at ht ho; omega)
  have s14 : ∀ (Y : Nat → Nat → Int32) (f : Nat → Int32), set1 Y (t + 4) f (o + 1) = Y (o + 1) := fun Y f => set1_ne _ _ (by unfold isT at ht ho; omega)
  have s20 : ∀ (Y : Nat → Nat → Int32) (f : Nat → Int32), set1 Y t f (o + 2) = Y (o + 2) := fun Y f => set1_ne _ _ (by unfold isT at ht ho; omega)
  have s21 : ∀ (Y : Nat → Nat → Int32) (f : Nat → Int32), set1 Y (t + 1) f (o + 2) = Y (o + 2) := fun Y f => set1_ne _ _ (by unfold isT at ht ho; omega)
  have s22 : ∀ (Y : Nat → Nat → Int32) (f : Nat → Int32), set1 Y (t + 2) f (o + 2) = Y (o + 2) := fun Y f => set1_ne _ _ (by unfold isT at ht ho; omega)
  have s23 : ∀ (Y : Nat → Nat → Int32) (f : Nat → Int32), set1 Y (t + 3) f (o + 2) = Y (o + 2) := fun Y f => set1_ne _ _ (by unfold isT at ht ho; omega)
  have s24 : ∀ (Y : Nat → Nat → Int32) (f : Nat → Int32), set1 Y (t + 4) f (o + 2) = Y (o + 2) := fun Y f => set1_ne _ _ (by unfold isT at ht ho; omega)
  have s30 : ∀ (Y : Nat → Nat → Int32) (f : Nat → Int32), set1 Y t f (o + 3) = Y (o + 3) := fun Y f => set1_ne _ _ (by unfold isT at ht ho; omega)
  have s31 : ∀ (Y : Nat → Nat → Int32) (f : Nat → Int32), set1 Y (t + 1) f (o + 3) = Y (o + 3) := fun Y f => set1_ne _ _ (by unfold isT at ht ho; omega)
  have s32 : ∀ (Y : Nat → Nat → Int32) (f : Nat → Int32), set1 Y (t + 2) f (o + 3) = Y (o + 3) := fun Y f => set1_ne _ _ (by unfold isT at ht ho; omega)
  have s33 : ∀ (Y : Nat → Nat → Int32) (f : Nat → Int32), set1 Y (t + 3) f (o + 3) = Y (o + 3) := fun Y f => set1_ne _ _ (by unfold isT at ht ho; omega)
  have s34 : ∀ (Y : Nat → Nat → Int32) (f : Nat → Int32), set1 Y (t + 4) f (o + 3) = Y (o + 3) := fun Y f => set1_ne _ _ (by unfold isT at ht ho; omega)
  have s40 : ∀ (Y : Nat → Nat → Int32) (f : Nat → Int32), set1 Y t f (o + 4) = Y (o + 4) := fun Y f => set1_ne _ _ (by unfold isT at ht ho; omega)
  have s41 : ∀ (Y : Nat → Nat → Int32) (f : Nat → Int32), set1 Y (t + 1) f (o + 4) = Y (o + 4) := fun Y f => set1_ne _ _ (by unfold isT at ht ho; omega)
  have s42 : ∀ (Y : Nat → Nat → Int32) (f : Nat → Int32), set1 Y (t + 2) f (o + 4) = Y (o + 4) := fun Y f => set1_ne _ _ (by unfold isT at ht ho; omega)
  have s43 : ∀ (Y : Nat → Nat → Int32) (f : Nat → Int32), set1 Y (t + 3) f (o + 4) = Y (o + 4) := fun Y f => set1_ne _ _ (by unfold isT at ht ho; omega)
  have s44 : ∀ (Y : Nat → Nat → Int32) (f : Nat → Int32), set1 Y (t + 4) f (o + 4) = Y (o + 4) := fun Y f => set1_ne _ _ (by unfold isT at ht ho; omega)
  have hne2 : ¬ o = t := fun q => hto q.symm
  obtain ⟨h6, o1, o3, o2, o5, orow, ow⟩ := hC
  let A0 : Nat → Nat → Int32 := set1 X t (upd (upd (upd (X t) 1 (nI (tN T))) 2 (tD T)) 3 (tC T))
  let A1 : Nat → Nat → Int32 := set1 A0 (t + 1) (va_cpy (X (o + 1)) (X (t + 1)) 0 0 (tN T))
  let A2 : Nat → Nat → Int32 := set1 A1 (t + 2) (va_cpy (X (o + 2)) (X (t + 2)) 0 0 (tN T))
  let A3 : Nat → Nat → Int32 := set1 A2 (t + 3) (va_cpy (X (o + 3)) (X (t + 3)) 0 0 (tN T))
  let A4 : Nat → Nat → Int32 := set1 A3 (t + 4) (va_cpy (X (o + 4)) (X (t + 4)) 0 0 (tN T))
  have fA : ∀ q, ¬ (t ≤ q ∧ q ≤ t + 4) → A4 q = X q := by
    intro q hq
    show set1 (set1 (set1 (set1 (set1 X t _) (t + 1) _) (t + 2) _) (t + 3) _) (t + 4) _ q = X q
    rw [set1_ne _ _ (by omega), set1_ne _ _ (by omega), set1_ne _ _ (by omega), set1_ne _ _ (by omega), set1_ne _ _ (by omega)]
  have a0 : A4 t = upd (upd (upd (X t) 1 (nI (tN T))) 2 (tD T)) 3 (tC T) := by
    show set1 (set1 (set1 (set1 (set1 X t _) (t + 1) _) (t + 2) _) (t + 3) _) (t + 4) _ t = _
    rw [set1_ne _ _ (by omega), set1_ne _ _ (by omega), set1_ne _ _ (by omega), set1_ne _ _ (by omega), set1_same]
  have a1 : A4 (t + 1) = va_cpy (X (o + 1)) (X (t + 1)) 0 0 (tN T) := by
    show set1 (set1 (set1 (set1 (set1 X t _) (t + 1) _) (t + 2) _) (t + 3) _) (t + 4) _ (t + 1) = _
    rw [set1_ne _ _ (by omega), set1_ne _ _ (by omega), set1_ne _ _ (by omega), set1_same]
  have a2 : A4 (t + 2) = va_cpy (X (o + 2)) (X (t + 2)) 0 0 (tN T) := by
    show set1 (set1 (set1 (set1 (set1 X t _) (t + 1) _) (t + 2) _) (t + 3) _) (t + 4) _ (t + 2) = _
    rw [set1_ne _ _ (by omega), set1_ne _ _ (by omega), set1_same]
  have a3 : A4 (t + 3) = va_cpy (X (o + 3)) (X (t + 3)) 0 0 (tN T) := by
    show set1 (set1 (set1 (set1 (set1 X t _) (t + 1) _) (t + 2) _) (t + 3) _) (t + 4) _ (t + 3) = _
    rw [set1_ne _ _ (by omega), set1_same]
  have a4 : A4 (t + 4) = va_cpy (X (o + 4)) (X (t + 4)) 0 0 (tN T) := set1_same _ _ _
  have pre : E 1 mX8_takeFruit 0 [.ref t, .ref o, .null] [] (hp K X, n, z) = E 1 mX8_takeFruit 102 [.ref t, .ref o, .int 0] [] (hp (setV K t (kV K o)) A4, n, z) := by
    have cm : cx (nI (tN T)) = tN T := cx_nI (by omega)
    show _ = E _ _ _ _ _ (hp (setV K t (kV K o)) (set1 (set1 (set1 (set1 (set1 X t _) (t + 1) _) (t + 2) _) (t + 3) _) (t + 4) _), n, z)
    rcases ow with ⟨ev, _⟩ | ⟨i, _, ev, _⟩
    · simp (decide := true) only [pX8_takeFruit_0, pX8_takeFruit_1, pX8_takeFruit_2, pX8_takeFruit_5, pX8_takeFruit_8, pX8_takeFruit_9, pX8_takeFruit_10, pX8_takeFruit_13, pX8_takeFruit_16, pX8_takeFruit_17, pX8_takeFruit_18, pX8_takeFruit_21, pX8_takeFruit_24, pX8_takeFruit_25, pX8_takeFruit_26, pX8_takeFruit_29, pX8_takeFruit_29n, pX8_takeFruit_32, pX8_takeFruit_33, pX8_takeFruit_36, pX8_takeFruit_37, pX8_takeFruit_38, pX8_takeFruit_41, pX8_takeFruit_42, pX8_takeFruit_43, pX8_takeFruit_46, pX8_takeFruit_49, pX8_takeFruit_50, pX8_takeFruit_53, pX8_takeFruit_54, pX8_takeFruit_55, pX8_takeFruit_58, pX8_takeFruit_59, pX8_takeFruit_60, pX8_takeFruit_63, pX8_takeFruit_66, pX8_takeFruit_67, pX8_takeFruit_70, pX8_takeFruit_71, pX8_takeFruit_72, pX8_takeFruit_75, pX8_takeFruit_76, pX8_takeFruit_77, pX8_takeFruit_80, pX8_takeFruit_83, pX8_takeFruit_84, pX8_takeFruit_87, pX8_takeFruit_88, pX8_takeFruit_89, pX8_takeFruit_92, pX8_takeFruit_93, pX8_takeFruit_94, pX8_takeFruit_97, pX8_takeFruit_100, pX8_takeFruit_101, pX8_takeFruit_103, pX8_takeFruit_104, pX8_takeFruit_107, pX8_takeFruit_110, pX8_takeFruit_111, pX8_takeFruit_114, pX8_takeFruit_115_5, pX8_takeFruit_115_6, pX8_takeFruit_115_7, pX8_takeFruit_116, pX8_takeFruit_117, pX8_takeFruit_118, pX8_takeFruit_121, pX8_takeFruit_122_5, pX8_takeFruit_122_6, pX8_takeFruit_122_7, pX8_takeFruit_123, pX8_takeFruit_124, pX8_takeFruit_125, pX8_takeFruit_128, pX8_takeFruit_131, pX8_takeFruit_134, kd_i0, kd_i1, kd_i2, kd_i3, kd_jA, kd_r5, kd_r6, kd_r7, al_i, al_j, al_r, ai_i, aj_j, aq_r, cls_o, fv_o, sti_i, stj_j, st2_s, st2_n, bnd_some, set1_same, set1_twice, to_0, to_1, to_2, to_3, to_4, to_5, to_6, to_7, to_8, to_9, to_10, to_11, to_12, to_13, to_14, to_15, ro_12_0, ro_12_1, ro_12_2, ro_15_0, ro_15_1, ro_15_2, ro_18_0, ro_18_1, ro_18_2, ro_21_0, ro_21_1, ro_21_2, va_rfs, tc_0 ht, tc_1 ht, tw_1 ht, tc_2 ht, tw_2 ht, tc_3 ht, tw_3 ht, tc_4 ht, tw_4 ht, tc_5 ht, tc_12 ht, tc_13 ht, tw_13 ht, tc_14 ht, tw_14 ht, tc_15 ht, tc_16 ht, tw_16 ht, tc_17 ht, tw_17 ht, tc_18 ht, tc_19 ht, tw_19 ht, tc_20 ht, tw_20 ht, tc_21 ht, tc_22 ht, tw_22 ht, tc_23 ht, tw_23 ht, tc_24 ht, tc_31 ht, tw_31 ht, tc_r ht, tw_r ht, tc_s ht, tw_s ht, tow_1 ht, tow_2 ht, tow_3 ht, tow_4 ht, row_12 ht, row_15 ht, row_18 ht, row_21 ht, tc_0 ho, tc_1 ho, tw_1 ho, tc_2 ho, tw_2 ho, tc_3 ho, tw_3 ho, tc_4 ho, tw_4 ho, tc_5 ho, tc_12 ho, tc_13 ho, tw_13 ho, tc_14 ho, tw_14 ho, tc_15 ho, tc_16 ho, tw_16 ho, tc_17 ho, tw_17 ho, tc_18 ho, tc_19 ho, tw_19 ho, tc_20 ho, tw_20 ho, tc_21 ho, tc_22 ho, tw_22 ho, tc_23 ho, tw_23 ho, tc_24 ho, tc_31 ho, tw_31 ho, tc_r ho, tw_r ho, tc_s ho, tw_s ho, tow_1 ho, tow_2 ho, tow_3 ho, tow_4 ho, row_12 ho, row_15 ho, row_18 ho, row_21 ho, ↓reduceIte, set1_ne, ne_eq, Nat.reduceEqDiff, not_false_eq_true, not_true_eq_false, if_true, if_false, ite_Ei, bI_eq0, pk_us, ix4, cx4, ix5, cx5, ix6, cx6, ix7, cx7, ix8, cx8, ix10, cx10, ix11, cx11, ix12, cx12, ix20, cx20, ix24, cx24, ix60, cx60, ix64, cx64, ix100, cx100, ix101, cx101, ix360, cx360, ix600, cx600, o1, o2, o3, ev, hne2, s10, s11, s12, s13, s14, s20, s21, s22, s23, s24, s30, s31, s32, s33, s34, s40, s41, s42, s43, s44, tq1, tq2, tq3, cpk6 h6, cpi_ii, cxl_0, cm, pk_un]
    · simp (decide := true) only [pX8_takeFruit_0, pX8_takeFruit_1, pX8_takeFruit_2, pX8_takeFruit_5, pX8_takeFruit_8, pX8_takeFruit_9, pX8_takeFruit_10, pX8_takeFruit_13, pX8_takeFruit_16, pX8_takeFruit_17, pX8_takeFruit_18, pX8_takeFruit_21, pX8_takeFruit_24, pX8_takeFruit_25, pX8_takeFruit_26, pX8_takeFruit_29, pX8_takeFruit_29n, pX8_takeFruit_32, pX8_takeFruit_33, pX8_takeFruit_36, pX8_takeFruit_37, pX8_takeFruit_38, pX8_takeFruit_41, pX8_takeFruit_42, pX8_takeFruit_43, pX8_takeFruit_46, pX8_takeFruit_49, pX8_takeFruit_50, pX8_takeFruit_53, pX8_takeFruit_54, pX8_takeFruit_55, pX8_takeFruit_58, pX8_takeFruit_59, pX8_takeFruit_60, pX8_takeFruit_63, pX8_takeFruit_66, pX8_takeFruit_67, pX8_takeFruit_70, pX8_takeFruit_71, pX8_takeFruit_72, pX8_takeFruit_75, pX8_takeFruit_76, pX8_takeFruit_77, pX8_takeFruit_80, pX8_takeFruit_83, pX8_takeFruit_84, pX8_takeFruit_87, pX8_takeFruit_88, pX8_takeFruit_89, pX8_takeFruit_92, pX8_takeFruit_93, pX8_takeFruit_94, pX8_takeFruit_97, pX8_takeFruit_100, pX8_takeFruit_101, pX8_takeFruit_103, pX8_takeFruit_104, pX8_takeFruit_107, pX8_takeFruit_110, pX8_takeFruit_111, pX8_takeFruit_114, pX8_takeFruit_115_5, pX8_takeFruit_115_6, pX8_takeFruit_115_7, pX8_takeFruit_116, pX8_takeFruit_117, pX8_takeFruit_118, pX8_takeFruit_121, pX8_takeFruit_122_5, pX8_takeFruit_122_6, pX8_takeFruit_122_7, pX8_takeFruit_123, pX8_takeFruit_124, pX8_takeFruit_125, pX8_takeFruit_128, pX8_takeFruit_131, pX8_takeFruit_134, kd_i0, kd_i1, kd_i2, kd_i3, kd_jA, kd_r5, kd_r6, kd_r7, al_i, al_j, al_r, ai_i, aj_j, aq_r, cls_o, fv_o, sti_i, stj_j, st2_s, st2_n, bnd_some, set1_same, set1_twice, to_0, to_1, to_2, to_3, to_4, to_5, to_6, to_7, to_8, to_9, to_10, to_11, to_12, to_13, to_14, to_15, ro_12_0, ro_12_1, ro_12_2, ro_15_0, ro_15_1, ro_15_2, ro_18_0, ro_18_1, ro_18_2, ro_21_0, ro_21_1, ro_21_2, va_rfs, tc_0 ht, tc_1 ht, tw_1 ht, tc_2 ht, tw_2 ht, tc_3 ht, tw_3 ht, tc_4 ht, tw_4 ht, tc_5 ht, tc_12 ht, tc_13 ht, tw_13 ht, tc_14 ht, tw_14 ht, tc_15 ht, tc_16 ht, tw_16 ht, tc_17 ht, tw_17 ht, tc_18 ht, tc_19 ht, tw_19 ht, tc_20 ht, tw_20 ht, tc_21 ht, tc_22 ht, tw_22 ht, tc_23 ht, tw_23 ht, tc_24 ht, tc_31 ht, tw_31 ht, tc_r ht, tw_r ht, tc_s ht, tw_s ht, tow_1 ht, tow_2 ht, tow_3 ht, tow_4 ht, row_12 ht, row_15 ht, row_18 ht, row_21 ht, tc_0 ho, tc_1 ho, tw_1 ho, tc_2 ho, tw_2 ho, tc_3 ho, tw_3 ho, tc_4 ho, tw_4 ho, tc_5 ho, tc_12 ho, tc_13 ho, tw_13 ho, tc_14 ho, tw_14 ho, tc_15 ho, tc_16 ho, tw_16 ho, tc_17 ho, tw_17 ho, tc_18 ho, tc_19 ho, tw_19 ho, tc_20 ho, tw_20 ho, tc_21 ho, tc_22 ho, tw_22 ho, tc_23 ho, tw_23 ho, tc_24 ho, tc_31 ho, tw_31 ho, tc_r ho, tw_r ho, tc_s ho, tw_s ho, tow_1 ho, tow_2 ho, tow_3 ho, tow_4 ho, row_12 ho, row_15 ho, row_18 ho, row_21 ho, ↓reduceIte, set1_ne, ne_eq, Nat.reduceEqDiff, not_false_eq_true, not_true_eq_false, if_true, if_false, ite_Ei, bI_eq0, pk_us, ix4, cx4, ix5, cx5, ix6, cx6, ix7, cx7, ix8, cx8, ix10, cx10, ix11, cx11, ix12, cx12, ix20, cx20, ix24, cx24, ix60, cx60, ix64, cx64, ix100, cx100, ix101, cx101, ix360, cx360, ix600, cx600, o1, o2, o3, ev, hne2, s10, s11, s12, s13, s14, s20, s21, s22, s23, s24, s30, s31, s32, s33, s34, s40, s41, s42, s43, s44, tq1, tq2, tq3, cpk6 h6, cpi_ii, cxl_0, cm, pk_un]
  have hn : A4 t 1 = nI (tN T) := by rw [a0, pk_un (by decide), pk_un (by decide), pk_us]
  obtain ⟨Y, e, f, hr⟩ := take_row (K := setV K t (kV K o)) (X := A4) (n := n) (z := z) (T := T) ht ho hto h6 hn
  have g : ∀ q, ¬ (t ≤ q ∧ q ≤ t + 11) → Y q = X q := fun q hq => (f q (by omega)).trans (fA q (by omega))
  refine ⟨Y, pre.trans e, g, h6, ?_, ?_, ?_, ?_, ?_, ?_⟩
  · rw [f t (by omega)]; exact hn
  · rw [f t (by omega), a0, pk_us]
  · rw [f t (by omega), a0, pk_un (by decide), pk_us]
  · intro p hp
    rw [f (t + 1) (by omega), f (t + 2) (by omega), f (t + 3) (by omega), f (t + 4) (by omega), a1, a2, a3, a4, cpy0 hp, cpy0 hp, cpy0 hp, cpy0 hp]
    exact o5 p hp
  · intro p q hp hq
    rw [hr p q hp hq, fA _ (by unfold isT at ht ho; omega)]
    exact orow p q hp hq
  · rw [kV_same]
    exact CW_fr (fun q h1 _ => g q (by omega)) (CW_sv ow)
end TAKE
theorem d_follow {K : KT} {X : Nat → Nat → Int32} {n z t j : Nat} {T : TR} {what : Int32} (ht : isT t) (hC : CT K X t T) (hj : j < 6) (hw : 0 ≤ what ∧ what ≤ 3) (hd : ∃ d, d + 1 < 1000000 ∧ tD T = nI d) (h7 : ∀ p, p < tN T → k7 (tK T p)) {B : Nat} (hr : rb B T) (hB : B < 900000) :
    ∃ Y, E 7 mX8_follow 0 [.ref t, .int what, .int (nI j)] [] (hp K X, n, z) = some (none, (hp K Y, n, z)) ∧ FD t X Y ∧ CT K Y t (stepP what j T) := by
  have htl := isT_le ht
  obtain ⟨m, hm, e⟩ := nI_of2 (x := what) (M := 3) (n := 3) (by decide) (Int32.not_lt.mpr hw.1) hw.2
  have : m = 0 ∨ m = 1 ∨ m = 2 ∨ m = 3 := by omega
  have hcut : ∀ c, CT K (set1 X t (upd (X t) 3 c)) t (tSC T c) := by
    intro c
    obtain ⟨h1, h2, h3, h4, h5, h6, h8⟩ := hC
    refine ⟨h1, ?_, ?_, ?_, ?_, ?_, CW_fr (fun q a _ => set1_ne _ _ (by omega)) h8⟩
    · rw [set1_same, pk_un (by decide)]; exact h2
    · rw [set1_same, pk_us]; rfl
    · rw [set1_same, pk_un (by decide)]; exact h4
    · intro p hp
      rw [set1_ne _ _ (by omega), set1_ne _ _ (by omega), set1_ne _ _ (by omega), set1_ne _ _ (by omega)]
      exact h5 p hp
    · intro p q hp hq
      rw [set1_ne _ _ (by omega)]
      exact h6 p q hp hq
  have fcut : ∀ c, FD t X (set1 X t (upd (X t) 3 c)) := fun c q a _ _ => set1_ne _ _ (by omega)
  rcases this with rfl | rfl | rfl | rfl
  · have e' : what = 0 := e
    obtain ⟨Y, eY, f, hY⟩ := d_daysF (K := K) (n := n) (z := z) (k := 1) ht hC (by decide) hd h7 hr (by omega)
    have e1 : nI 1 = 1 := rfl
    rw [e1] at eY
    refine ⟨Y, ?_, f, ?_⟩
    · rw [e']
      simp (decide := true) only [pX8_follow_0, pX8_follow_1, pX8_follow_28, pX8_follow_29, pX8_follow_30, pX8_follow_32, pX8_follow_35, pX8_follow_38, pX8_follow_39, pX8_follow_40, pX8_follow_41, pX8_follow_44, pX8_follow_47, pX8_follow_48, pX8_follow_49, pX8_follow_50, pX8_follow_53, pX8_follow_56, pX8_follow_57, pX8_follow_60, pX8_follow_61, pX8_follow_62, pX8_follow_63, kd_i0, kd_i1, kd_i2, kd_i3, kd_jA, kd_r5, kd_r6, kd_r7, al_i, al_j, al_r, ai_i, aj_j, aq_r, cls_o, fv_o, sti_i, stj_j, st2_s, st2_n, bnd_some, set1_same, set1_twice, to_0, to_1, to_2, to_3, to_4, to_5, to_6, to_7, to_8, to_9, to_10, to_11, to_12, to_13, to_14, to_15, ro_12_0, ro_12_1, ro_12_2, ro_15_0, ro_15_1, ro_15_2, ro_18_0, ro_18_1, ro_18_2, ro_21_0, ro_21_1, ro_21_2, va_rfs, tc_0 ht, tc_1 ht, tw_1 ht, tc_2 ht, tw_2 ht, tc_3 ht, tw_3 ht, tc_4 ht, tw_4 ht, tc_5 ht, tc_12 ht, tc_13 ht, tw_13 ht, tc_14 ht, tw_14 ht, tc_15 ht, tc_16 ht, tw_16 ht, tc_17 ht, tw_17 ht, tc_18 ht, tc_19 ht, tw_19 ht, tc_20 ht, tw_20 ht, tc_21 ht, tc_22 ht, tw_22 ht, tc_23 ht, tw_23 ht, tc_24 ht, tc_31 ht, tw_31 ht, tc_r ht, tw_r ht, tc_s ht, tw_s ht, tow_1 ht, tow_2 ht, tow_3 ht, tow_4 ht, row_12 ht, row_15 ht, row_18 ht, row_21 ht, ↓reduceIte, set1_ne, ne_eq, Nat.reduceEqDiff, not_false_eq_true, not_true_eq_false, if_true, if_false, ite_Ei, bI_eq0, pk_us, ix4, cx4, ix5, cx5, ix6, cx6, ix7, cx7, ix8, cx8, ix10, cx10, ix11, cx11, ix12, cx12, ix20, cx20, ix24, cx24, ix60, cx60, ix64, cx64, ix100, cx100, ix101, cx101, ix360, cx360, ix600, cx600, eY]
    · rw [e']; exact hY
  · have e' : what = 1 := e
    have es := d_setCut (K := K) (X := X) (n := n) (z := z) (k := nI j) (b := true) ht hC
    rw [bI_t] at es
    refine ⟨_, ?_, fcut (cutC (tC T) (nI j) true), ?_⟩
    · rw [e']
      simp (decide := true) only [pX8_follow_0, pX8_follow_1, pX8_follow_28, pX8_follow_29, pX8_follow_30, pX8_follow_32, pX8_follow_35, pX8_follow_38, pX8_follow_39, pX8_follow_40, pX8_follow_41, pX8_follow_44, pX8_follow_47, pX8_follow_48, pX8_follow_49, pX8_follow_50, pX8_follow_53, pX8_follow_56, pX8_follow_57, pX8_follow_60, pX8_follow_61, pX8_follow_62, pX8_follow_63, kd_i0, kd_i1, kd_i2, kd_i3, kd_jA, kd_r5, kd_r6, kd_r7, al_i, al_j, al_r, ai_i, aj_j, aq_r, cls_o, fv_o, sti_i, stj_j, st2_s, st2_n, bnd_some, set1_same, set1_twice, to_0, to_1, to_2, to_3, to_4, to_5, to_6, to_7, to_8, to_9, to_10, to_11, to_12, to_13, to_14, to_15, ro_12_0, ro_12_1, ro_12_2, ro_15_0, ro_15_1, ro_15_2, ro_18_0, ro_18_1, ro_18_2, ro_21_0, ro_21_1, ro_21_2, va_rfs, tc_0 ht, tc_1 ht, tw_1 ht, tc_2 ht, tw_2 ht, tc_3 ht, tw_3 ht, tc_4 ht, tw_4 ht, tc_5 ht, tc_12 ht, tc_13 ht, tw_13 ht, tc_14 ht, tw_14 ht, tc_15 ht, tc_16 ht, tw_16 ht, tc_17 ht, tw_17 ht, tc_18 ht, tc_19 ht, tw_19 ht, tc_20 ht, tw_20 ht, tc_21 ht, tc_22 ht, tw_22 ht, tc_23 ht, tw_23 ht, tc_24 ht, tc_31 ht, tw_31 ht, tc_r ht, tw_r ht, tc_s ht, tw_s ht, tow_1 ht, tow_2 ht, tow_3 ht, tow_4 ht, row_12 ht, row_15 ht, row_18 ht, row_21 ht, ↓reduceIte, set1_ne, ne_eq, Nat.reduceEqDiff, not_false_eq_true, not_true_eq_false, if_true, if_false, ite_Ei, bI_eq0, pk_us, ix4, cx4, ix5, cx5, ix6, cx6, ix7, cx7, ix8, cx8, ix10, cx10, ix11, cx11, ix12, cx12, ix20, cx20, ix24, cx24, ix60, cx60, ix64, cx64, ix100, cx100, ix101, cx101, ix360, cx360, ix600, cx600, es]
    · rw [e']
      exact hcut _
  · have e' : what = 2 := e
    have es := d_setCut (K := K) (X := X) (n := n) (z := z) (k := nI j) (b := false) ht hC
    rw [bI_f] at es
    refine ⟨_, ?_, fcut (cutC (tC T) (nI j) false), ?_⟩
    · rw [e']
      simp (decide := true) only [pX8_follow_0, pX8_follow_1, pX8_follow_28, pX8_follow_29, pX8_follow_30, pX8_follow_32, pX8_follow_35, pX8_follow_38, pX8_follow_39, pX8_follow_40, pX8_follow_41, pX8_follow_44, pX8_follow_47, pX8_follow_48, pX8_follow_49, pX8_follow_50, pX8_follow_53, pX8_follow_56, pX8_follow_57, pX8_follow_60, pX8_follow_61, pX8_follow_62, pX8_follow_63, kd_i0, kd_i1, kd_i2, kd_i3, kd_jA, kd_r5, kd_r6, kd_r7, al_i, al_j, al_r, ai_i, aj_j, aq_r, cls_o, fv_o, sti_i, stj_j, st2_s, st2_n, bnd_some, set1_same, set1_twice, to_0, to_1, to_2, to_3, to_4, to_5, to_6, to_7, to_8, to_9, to_10, to_11, to_12, to_13, to_14, to_15, ro_12_0, ro_12_1, ro_12_2, ro_15_0, ro_15_1, ro_15_2, ro_18_0, ro_18_1, ro_18_2, ro_21_0, ro_21_1, ro_21_2, va_rfs, tc_0 ht, tc_1 ht, tw_1 ht, tc_2 ht, tw_2 ht, tc_3 ht, tw_3 ht, tc_4 ht, tw_4 ht, tc_5 ht, tc_12 ht, tc_13 ht, tw_13 ht, tc_14 ht, tw_14 ht, tc_15 ht, tc_16 ht, tw_16 ht, tc_17 ht, tw_17 ht, tc_18 ht, tc_19 ht, tw_19 ht, tc_20 ht, tw_20 ht, tc_21 ht, tc_22 ht, tw_22 ht, tc_23 ht, tw_23 ht, tc_24 ht, tc_31 ht, tw_31 ht, tc_r ht, tw_r ht, tc_s ht, tw_s ht, tow_1 ht, tow_2 ht, tow_3 ht, tow_4 ht, row_12 ht, row_15 ht, row_18 ht, row_21 ht, ↓reduceIte, set1_ne, ne_eq, Nat.reduceEqDiff, not_false_eq_true, not_true_eq_false, if_true, if_false, ite_Ei, bI_eq0, pk_us, ix4, cx4, ix5, cx5, ix6, cx6, ix7, cx7, ix8, cx8, ix10, cx10, ix11, cx11, ix12, cx12, ix20, cx20, ix24, cx24, ix60, cx60, ix64, cx64, ix100, cx100, ix101, cx101, ix360, cx360, ix600, cx600, es]
    · rw [e']
      exact hcut _
  · have e' : what = 3 := e
    refine ⟨set1 X (t + 4) (upd (X (t + 4)) j 0), ?_, fun q a _ _ => set1_ne _ _ (by omega), ?_⟩
    · rw [e']
      simp (decide := true) only [pX8_follow_0, pX8_follow_1, pX8_follow_28, pX8_follow_29, pX8_follow_30, pX8_follow_32, pX8_follow_35, pX8_follow_38, pX8_follow_39, pX8_follow_40, pX8_follow_41, pX8_follow_44, pX8_follow_47, pX8_follow_48, pX8_follow_49, pX8_follow_50, pX8_follow_53, pX8_follow_56, pX8_follow_57, pX8_follow_60, pX8_follow_61, pX8_follow_62, pX8_follow_63, kd_i0, kd_i1, kd_i2, kd_i3, kd_jA, kd_r5, kd_r6, kd_r7, al_i, al_j, al_r, ai_i, aj_j, aq_r, cls_o, fv_o, sti_i, stj_j, st2_s, st2_n, bnd_some, set1_same, set1_twice, to_0, to_1, to_2, to_3, to_4, to_5, to_6, to_7, to_8, to_9, to_10, to_11, to_12, to_13, to_14, to_15, ro_12_0, ro_12_1, ro_12_2, ro_15_0, ro_15_1, ro_15_2, ro_18_0, ro_18_1, ro_18_2, ro_21_0, ro_21_1, ro_21_2, va_rfs, tc_0 ht, tc_1 ht, tw_1 ht, tc_2 ht, tw_2 ht, tc_3 ht, tw_3 ht, tc_4 ht, tw_4 ht, tc_5 ht, tc_12 ht, tc_13 ht, tw_13 ht, tc_14 ht, tw_14 ht, tc_15 ht, tc_16 ht, tw_16 ht, tc_17 ht, tw_17 ht, tc_18 ht, tc_19 ht, tw_19 ht, tc_20 ht, tw_20 ht, tc_21 ht, tc_22 ht, tw_22 ht, tc_23 ht, tw_23 ht, tc_24 ht, tc_31 ht, tw_31 ht, tc_r ht, tw_r ht, tc_s ht, tw_s ht, tow_1 ht, tow_2 ht, tow_3 ht, tow_4 ht, row_12 ht, row_15 ht, row_18 ht, row_21 ht, ↓reduceIte, set1_ne, ne_eq, Nat.reduceEqDiff, not_false_eq_true, not_true_eq_false, if_true, if_false, ite_Ei, bI_eq0, pk_us, ix4, cx4, ix5, cx5, ix6, cx6, ix7, cx7, ix8, cx8, ix10, cx10, ix11, cx11, ix12, cx12, ix20, cx20, ix24, cx24, ix60, cx60, ix64, cx64, ix100, cx100, ix101, cx101, ix360, cx360, ix600, cx600, hj]
    · rw [e']
      obtain ⟨h1, h2, h3, h4, h5, h6, h8⟩ := hC
      show CT K _ t (tSR T j 0)
      refine ⟨h1, ?_, ?_, ?_, ?_, ?_, CW_fr (fun q a _ => set1_ne _ _ (by omega)) h8⟩
      · rw [set1_ne _ _ (by omega)]; exact h2
      · rw [set1_ne _ _ (by omega)]; exact h3
      · rw [set1_ne _ _ (by omega)]; exact h4
      · intro p hp
        rw [set1_ne _ _ (by omega), set1_ne _ _ (by omega), set1_ne _ _ (by omega), set1_same]
        obtain ⟨k1, k2, k3, k4⟩ := h5 p hp
        refine ⟨k1, k2, k3, ?_⟩
        show upd (X (t + 4)) j 0 p = upd (tR T) j 0 p
        by_cases q : p = j
        · rw [q, pk_us, pk_us]
        · rw [pk_un q, pk_un q]; exact k4
      · intro p q hp hq
        rw [set1_ne _ _ (by omega)]
        exact h6 p q hp hq
