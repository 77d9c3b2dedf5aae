/-! The class: how a wall reads: signs, words, numbers, tests. -/
def sg (tx : List Int32) (p : Nat) : Int32 := if p < tx.length then tx.getD p 0 else -1
/-- the wall at 186 + 6 i reads tx, is at p, has S steps -/
def WS (K : KT) (tx : List Int32) (i : Nat) (X : Nat → Nat → Int32) (p S : Nat) : Prop :=
  i < kM K ∧ kW K i = tx.length ∧ tx.length ≤ 100 ∧ (∀ j, j < tx.length → X (186 + 6 * i + 1) j = tx.getD j 0) ∧ X (186 + 6 * i) 1 = nI p ∧ X (186 + 6 * i) 7 = nI S ∧ p ≤ tx.length ∧ S ≤ p
def tOk (tx : List Int32) : Prop := ∀ x, x ∈ tx → ∃ a, a < 128 ∧ x = nI a
theorem sg_lt {tx : List Int32} {p : Nat} (h : p < tx.length) : sg tx p = tx.getD p 0 := if_pos h
theorem sg_ge {tx : List Int32} {p : Nat} (h : ¬ p < tx.length) : sg tx p = -1 := if_neg h
theorem sg_ok {tx : List Int32} (h : tOk tx) {p : Nat} (hp : p < tx.length) : ∃ a, a < 128 ∧ sg tx p = nI a := by
  rw [sg_lt hp]
  have e : tx.getD p 0 = tx[p] := by simp [List.getD, hp]
  rw [e]
  exact h _ (List.getElem_mem hp)
def setAt (X : Nat → Nat → Int32) (i p : Nat) : Nat → Nat → Int32 := set1 X (186 + 6 * i) (upd (X (186 + 6 * i)) 1 (nI p))
theorem setAt_self {X : Nat → Nat → Int32} {i p : Nat} (h : X (186 + 6 * i) 1 = nI p) : setAt X i p = X := by
  unfold setAt
  rw [← h, upd_self, set1_self]
theorem setAt_2 (X : Nat → Nat → Int32) (i p q : Nat) : setAt (setAt X i p) i q = setAt X i q := by
  unfold setAt
  rw [set1_same, upd_upd, set1_twice]
theorem setAt_b (X : Nat → Nat → Int32) (i p : Nat) : setAt X i p (186 + 6 * i) = upd (X (186 + 6 * i)) 1 (nI p) := set1_same _ _ _
theorem setAt_n {X : Nat → Nat → Int32} {i p q : Nat} (h : q ≠ 186 + 6 * i) : setAt X i p q = X q := set1_ne _ _ h
theorem WS_at {K : KT} {tx : List Int32} {i p S q : Nat} {X : Nat → Nat → Int32} (h : WS K tx i X p S) (hq : q ≤ tx.length) (hS : S ≤ q) : WS K tx i (setAt X i q) q S := by
  obtain ⟨h1, h2, h3, h4, h5, h6, h7, h8⟩ := h
  refine ⟨h1, h2, h3, ?_, ?_, ?_, hq, hS⟩
  · intro j hj
    rw [setAt_n (by omega)]; exact h4 j hj
  · rw [setAt_b, pk_us]
  · rw [setAt_b, pk_un (by decide)]; exact h6
section READ
variable {K : KT} {X : Nat → Nat → Int32} {n z i p S : Nat} {tx : List Int32}
theorem w_sign (h : WS K tx i X p S) : E 1 mX10_sign 0 [.ref (186 + 6 * i)] [] (hp K X, n, z) = some (some (.int (sg tx p)), (hp K X, n, z)) := by
  obtain ⟨hi, h2, h3, h4, h5, h6, h7, h8⟩ := h
  by_cases q : p < tx.length
  · have q1 : ¬ nI tx.length ≤ nI p := nI_ge q (by omega)
    have ip : ix (nI p) tx.length = true := ix_nI q (by omega)
    have cp : cx (nI p) = p := cx_nI (by omega)
    rw [sg_lt q, ← h4 p q]
    simp (decide := true) only [pX10_sign_0, pX10_sign_1, pX10_sign_4, pX10_sign_5, pX10_sign_8, pX10_sign_9, pX10_sign_12, pX10_sign_13, pX10_sign_16, pX10_sign_17, pX10_sign_20, pX10_sign_21, pX10_sign_24, pX10_sign_25, kd_i0, kd_i1, kd_i2, kd_i3, kd_jA, kd_r5, kd_r6, kd_r7, al_i, al_j, al_r, ai_i, aj_j, aq_r, cls_o, fv_o, sti_i, stj_j, st2_s, st2_n, bnd_some, set1_same, set1_twice, wc_0 hi, wc_1 hi, wc_2 hi, wc_3 hi, wc_4 hi, wc_5 hi, ww_1 hi, ww_2 hi, ww_3 hi, ww_4 hi, ww_5 hi, wow_1 hi, wow_2 hi, wow_3 hi, wow_7 hi, wo_0, wo_1, wo_2, wo_3, wo_4, wo_5, wo_6, wo_7, wo_8, ↓reduceIte, set1_ne, ne_eq, Nat.reduceEqDiff, not_false_eq_true, not_true_eq_false, if_true, if_false, ite_Ei, bI_eq0, pk_us, ix4, cx4, ix5, cx5, ix6, cx6, ix7, cx7, ix8, cx8, ix10, cx10, ix11, cx11, ix12, cx12, ix20, cx20, ix24, cx24, ix60, cx60, ix64, cx64, ix100, cx100, ix101, cx101, ix360, cx360, ix600, cx600, h2, h5, ofNat_nI, q1, ip, cp]
  · have q1 : nI tx.length ≤ nI p := nI_le (by omega) (by omega)
    rw [sg_ge q]
    simp (decide := true) only [pX10_sign_0, pX10_sign_1, pX10_sign_4, pX10_sign_5, pX10_sign_8, pX10_sign_9, pX10_sign_12, pX10_sign_13, pX10_sign_16, pX10_sign_17, pX10_sign_20, pX10_sign_21, pX10_sign_24, pX10_sign_25, kd_i0, kd_i1, kd_i2, kd_i3, kd_jA, kd_r5, kd_r6, kd_r7, al_i, al_j, al_r, ai_i, aj_j, aq_r, cls_o, fv_o, sti_i, stj_j, st2_s, st2_n, bnd_some, set1_same, set1_twice, wc_0 hi, wc_1 hi, wc_2 hi, wc_3 hi, wc_4 hi, wc_5 hi, ww_1 hi, ww_2 hi, ww_3 hi, ww_4 hi, ww_5 hi, wow_1 hi, wow_2 hi, wow_3 hi, wow_7 hi, wo_0, wo_1, wo_2, wo_3, wo_4, wo_5, wo_6, wo_7, wo_8, ↓reduceIte, set1_ne, ne_eq, Nat.reduceEqDiff, not_false_eq_true, not_true_eq_false, if_true, if_false, ite_Ei, bI_eq0, pk_us, ix4, cx4, ix5, cx5, ix6, cx6, ix7, cx7, ix8, cx8, ix10, cx10, ix11, cx11, ix12, cx12, ix20, cx20, ix24, cx24, ix60, cx60, ix64, cx64, ix100, cx100, ix101, cx101, ix360, cx360, ix600, cx600, h2, h5, ofNat_nI, q1]
theorem w_rs {c : Int32} (h : WS K tx i X p S) : E 2 mX10_readSign 0 [.ref (186 + 6 * i), .int c] [] (hp K X, n, z) = some (some (.int (bI (decide (sg tx p = c)))), (hp K (if sg tx p = c then setAt X i (p + 1) else X), n, z)) := by
  have es := w_sign (n := n) (z := z) h
  obtain ⟨hi, h2, h3, h4, h5, h6, h7, h8⟩ := h
  by_cases q : sg tx p = c
  · rw [decide_eq_true q, if_pos q]
    simp (decide := true) only [pX10_readSign_0, pX10_readSign_1, pX10_readSign_4, pX10_readSign_5, pX10_readSign_8, pX10_readSign_9, pX10_readSign_9t, pX10_readSign_9f, pX10_readSign_10, pX10_readSign_11, pX10_readSign_12, pX10_readSign_15, pX10_readSign_16, pX10_readSign_17, pX10_readSign_20, pX10_readSign_21, pX10_readSign_21t, pX10_readSign_21f, kd_i0, kd_i1, kd_i2, kd_i3, kd_jA, kd_r5, kd_r6, kd_r7, al_i, al_j, al_r, ai_i, aj_j, aq_r, cls_o, fv_o, sti_i, stj_j, st2_s, st2_n, bnd_some, set1_same, set1_twice, wc_0 hi, wc_1 hi, wc_2 hi, wc_3 hi, wc_4 hi, wc_5 hi, ww_1 hi, ww_2 hi, ww_3 hi, ww_4 hi, ww_5 hi, wow_1 hi, wow_2 hi, wow_3 hi, wow_7 hi, wo_0, wo_1, wo_2, wo_3, wo_4, wo_5, wo_6, wo_7, wo_8, ↓reduceIte, set1_ne, ne_eq, Nat.reduceEqDiff, not_false_eq_true, not_true_eq_false, if_true, if_false, ite_Ei, bI_eq0, pk_us, ix4, cx4, ix5, cx5, ix6, cx6, ix7, cx7, ix8, cx8, ix10, cx10, ix11, cx11, ix12, cx12, ix20, cx20, ix24, cx24, ix60, cx60, ix64, cx64, ix100, cx100, ix101, cx101, ix360, cx360, ix600, cx600, es, q, h5, nI_1, nb1, bI_t]
    rfl
  · rw [decide_eq_false q, if_neg q]
    simp (decide := true) only [pX10_readSign_0, pX10_readSign_1, pX10_readSign_4, pX10_readSign_5, pX10_readSign_8, pX10_readSign_9, pX10_readSign_9t, pX10_readSign_9f, pX10_readSign_10, pX10_readSign_11, pX10_readSign_12, pX10_readSign_15, pX10_readSign_16, pX10_readSign_17, pX10_readSign_20, pX10_readSign_21, pX10_readSign_21t, pX10_readSign_21f, kd_i0, kd_i1, kd_i2, kd_i3, kd_jA, kd_r5, kd_r6, kd_r7, al_i, al_j, al_r, ai_i, aj_j, aq_r, cls_o, fv_o, sti_i, stj_j, st2_s, st2_n, bnd_some, set1_same, set1_twice, wc_0 hi, wc_1 hi, wc_2 hi, wc_3 hi, wc_4 hi, wc_5 hi, ww_1 hi, ww_2 hi, ww_3 hi, ww_4 hi, ww_5 hi, wow_1 hi, wow_2 hi, wow_3 hi, wow_7 hi, wo_0, wo_1, wo_2, wo_3, wo_4, wo_5, wo_6, wo_7, wo_8, ↓reduceIte, set1_ne, ne_eq, Nat.reduceEqDiff, not_false_eq_true, not_true_eq_false, if_true, if_false, ite_Ei, bI_eq0, pk_us, ix4, cx4, ix5, cx5, ix6, cx6, ix7, cx7, ix8, cx8, ix10, cx10, ix11, cx11, ix12, cx12, ix20, cx20, ix24, cx24, ix60, cx60, ix64, cx64, ix100, cx100, ix101, cx101, ix360, cx360, ix600, cx600, es, q, nb0, bI_f]
theorem nar_c {q : Nat} (hq : q < 65536) : vp_nar .char (nI q) = nI q := by
  have e := pk_char (nI q)
  rw [pk_tn (by omega), Nat.mod_eq_of_lt hq] at e
  have := pk_vc (nI q)
  rw [e] at this
  exact this
/-- what a step of three adds -/
def addX3 (X : Nat → Nat → Int32) (i S : Nat) (a l v : Int32) : Nat → Nat → Int32 := set1 (set1 (set1 (set1 X (186 + 6 * i + 3) (upd (X (186 + 6 * i + 3)) S a)) (186 + 6 * i + 4) (upd (X (186 + 6 * i + 4)) S l)) (186 + 6 * i + 5) (upd (X (186 + 6 * i + 5)) S v)) (186 + 6 * i) (upd (X (186 + 6 * i)) 7 (nI (S + 1)))
theorem w_add {a l : Nat} {v : Int32} (h : WS K tx i X p S) (hS : S < p) (ha : a < 65536) (hl : l < 65536) : E 1 mX10_addStep 0 [.ref (186 + 6 * i), .int (nI a), .int (nI l), .int v] [] (hp K X, n, z) = some (none, (hp K (addX3 X i S (nI a) (nI l) v), n, z)) := by
  obtain ⟨hi, h2, h3, h4, h5, h6, h7, h8⟩ := h
  have q1 : ¬ nI tx.length ≤ nI S := nI_ge (by omega) (by omega)
  have ip : ix (nI S) tx.length = true := ix_nI (by omega) (by omega)
  have cp : cx (nI S) = S := cx_nI (by omega)
  have n1 : ∀ (Y : Nat → Nat → Int32) (f : Nat → Int32), set1 Y (186 + 6 * i + 3) f (186 + 6 * i) = Y (186 + 6 * i) := fun Y f => set1_ne _ _ (by omega)
  have n2 : ∀ (Y : Nat → Nat → Int32) (f : Nat → Int32), set1 Y (186 + 6 * i + 4) f (186 + 6 * i) = Y (186 + 6 * i) := fun Y f => set1_ne _ _ (by omega)
  have n3 : ∀ (Y : Nat → Nat → Int32) (f : Nat → Int32), set1 Y (186 + 6 * i + 5) f (186 + 6 * i) = Y (186 + 6 * i) := fun Y f => set1_ne _ _ (by omega)
  have n4 : ∀ (Y : Nat → Nat → Int32) (f : Nat → Int32), set1 Y (186 + 6 * i + 3) f (186 + 6 * i + 4) = Y (186 + 6 * i + 4) := fun Y f => set1_ne _ _ (by omega)
  have n5 : ∀ (Y : Nat → Nat → Int32) (f : Nat → Int32), set1 Y (186 + 6 * i + 3) f (186 + 6 * i + 5) = Y (186 + 6 * i + 5) := fun Y f => set1_ne _ _ (by omega)
  have n6 : ∀ (Y : Nat → Nat → Int32) (f : Nat → Int32), set1 Y (186 + 6 * i + 4) f (186 + 6 * i + 5) = Y (186 + 6 * i + 5) := fun Y f => set1_ne _ _ (by omega)
  have w3 : ∀ Y f, uph (hp K Y) (186 + 6 * i + 3) (iA 2 tx.length f) = hp K (set1 Y (186 + 6 * i + 3) f) := fun Y f => by rw [← h2]; exact ww_3 hi
  have w4 : ∀ Y f, uph (hp K Y) (186 + 6 * i + 4) (iA 2 tx.length f) = hp K (set1 Y (186 + 6 * i + 4) f) := fun Y f => by rw [← h2]; exact ww_4 hi
  have w5 : ∀ Y f, uph (hp K Y) (186 + 6 * i + 5) (iA 0 tx.length f) = hp K (set1 Y (186 + 6 * i + 5) f) := fun Y f => by rw [← h2]; exact ww_5 hi
  unfold addX3
  simp (decide := true) only [pX10_addStep_0, pX10_addStep_1, pX10_addStep_4, pX10_addStep_5, pX10_addStep_8, pX10_addStep_9, pX10_addStep_12, pX10_addStep_13, pX10_addStep_16, pX10_addStep_17, pX10_addStep_20, pX10_addStep_21, pX10_addStep_22, pX10_addStep_23, pX10_addStep_26, pX10_addStep_27, pX10_addStep_30, pX10_addStep_31, pX10_addStep_32, pX10_addStep_33, pX10_addStep_36, pX10_addStep_37, pX10_addStep_40, pX10_addStep_41, pX10_addStep_42, pX10_addStep_43, pX10_addStep_44, pX10_addStep_47, pX10_addStep_48, pX10_addStep_49, pX10_addStep_52, kd_i0, kd_i1, kd_i2, kd_i3, kd_jA, kd_r5, kd_r6, kd_r7, al_i, al_j, al_r, ai_i, aj_j, aq_r, cls_o, fv_o, sti_i, stj_j, st2_s, st2_n, bnd_some, set1_same, set1_twice, wc_0 hi, wc_1 hi, wc_2 hi, wc_3 hi, wc_4 hi, wc_5 hi, ww_1 hi, ww_2 hi, ww_3 hi, ww_4 hi, ww_5 hi, wow_1 hi, wow_2 hi, wow_3 hi, wow_7 hi, wo_0, wo_1, wo_2, wo_3, wo_4, wo_5, wo_6, wo_7, wo_8, ↓reduceIte, set1_ne, ne_eq, Nat.reduceEqDiff, not_false_eq_true, not_true_eq_false, if_true, if_false, ite_Ei, bI_eq0, pk_us, ix4, cx4, ix5, cx5, ix6, cx6, ix7, cx7, ix8, cx8, ix10, cx10, ix11, cx11, ix12, cx12, ix20, cx20, ix24, cx24, ix60, cx60, ix64, cx64, ix100, cx100, ix101, cx101, ix360, cx360, ix600, cx600, h2, w3, w4, w5, h6, ofNat_nI, q1, ip, cp, nar_c ha, nar_c hl, n1, n2, n3, n4, n5, n6, nI_1]
/-- what a reading changes -/
def FW (i S : Nat) (X Y : Nat → Nat → Int32) : Prop := (∀ q, q ≠ 186 + 6 * i → q ≠ 186 + 6 * i + 3 → q ≠ 186 + 6 * i + 4 → q ≠ 186 + 6 * i + 5 → Y q = X q) ∧ Y (186 + 6 * i) 3 = X (186 + 6 * i) 3 ∧ ∀ j, j < S → Y (186 + 6 * i + 3) j = X (186 + 6 * i + 3) j ∧ Y (186 + 6 * i + 4) j = X (186 + 6 * i + 4) j ∧ Y (186 + 6 * i + 5) j = X (186 + 6 * i + 5) j
theorem FW_refl : FW i S X X := ⟨fun _ _ _ _ _ => rfl, rfl, fun _ _ => ⟨rfl, rfl, rfl⟩⟩
theorem FW_trans {S' : Nat} {Y Z : Nat → Nat → Int32} (h : FW i S X Y) (g : FW i S' Y Z) (hS : S ≤ S') : FW i S X Z := ⟨fun q a b c d => (g.1 q a b c d).trans (h.1 q a b c d), g.2.1.trans h.2.1, fun j hj => ⟨(g.2.2 j (by omega)).1.trans (h.2.2 j hj).1, (g.2.2 j (by omega)).2.1.trans (h.2.2 j hj).2.1, (g.2.2 j (by omega)).2.2.trans (h.2.2 j hj).2.2⟩⟩
theorem FW_at {q : Nat} : FW i S X (setAt X i q) := by
  refine ⟨fun q a _ _ _ => setAt_n a, ?_, fun j _ => ?_⟩
  · rw [setAt_b, pk_un (by decide)]
  · rw [setAt_n (by omega), setAt_n (by omega), setAt_n (by omega)]
    exact ⟨rfl, rfl, rfl⟩
theorem FW_add {a l v : Int32} : FW i S X (addX3 X i S a l v) := by
  unfold addX3
  refine ⟨fun q a b c d => by rw [set1_ne _ _ a, set1_ne _ _ d, set1_ne _ _ c, set1_ne _ _ b], ?_, fun j hj => ⟨?_, ?_, ?_⟩⟩
  · rw [set1_same, pk_un (by decide)]
  · rw [set1_ne _ _ (by omega), set1_ne _ _ (by omega), set1_ne _ _ (by omega), set1_same, pk_un (by omega)]
  · rw [set1_ne _ _ (by omega), set1_ne _ _ (by omega), set1_same, pk_un (by omega)]
  · rw [set1_ne _ _ (by omega), set1_same, pk_un (by omega)]
theorem WS_add {a l v : Int32} (h : WS K tx i X p S) (hS : S < p) : WS K tx i (addX3 X i S a l v) p (S + 1) := by
  obtain ⟨h1, h2, h3, h4, h5, h6, h7, h8⟩ := h
  unfold addX3
  refine ⟨h1, h2, h3, ?_, ?_, ?_, h7, by omega⟩
  · intro j hj
    rw [set1_ne _ _ (by omega), set1_ne _ _ (by omega), set1_ne _ _ (by omega), set1_ne _ _ (by omega)]
    exact h4 j hj
  · rw [set1_same, pk_un (by decide)]; exact h5
  · rw [set1_same, pk_us]
theorem At_add {a l v : Int32} : AtS (addX3 X i S a l v) i S [(a, l, v)] := by
  intro k hk
  have : k = 0 := by simpa using hk
  subst this
  unfold addX3
  refine ⟨?_, ?_, ?_⟩
  · rw [set1_ne _ _ (by omega), set1_ne _ _ (by omega), set1_ne _ _ (by omega), set1_same]; exact pk_us
  · rw [set1_ne _ _ (by omega), set1_ne _ _ (by omega), set1_same]; exact pk_us
  · rw [set1_ne _ _ (by omega), set1_same]; exact pk_us
/-- the steps that stood stand -/
theorem AtS_keep {Y : Nat → Nat → Int32} {j : Nat} {R : List (Int32 × Int32 × Int32)} (f : FW i S X Y) (h : AtS X i j R) (hj : j + R.length ≤ S) : AtS Y i j R := by
  intro k hk
  obtain ⟨a, b, c⟩ := f.2.2 (j + k) (by omega)
  obtain ⟨d, e, g⟩ := h k hk
  exact ⟨a.trans d, b.trans e, c.trans g⟩
theorem AtS_join {j : Nat} {R Q : List (Int32 × Int32 × Int32)} (h : AtS X i j R) (g : AtS X i (j + R.length) Q) : AtS X i j (R ++ Q) := by
  intro k hk
  by_cases q : k < R.length
  · rw [List.getElem_append_left q]
    exact h k q
  · rw [List.getElem_append_right (by omega)]
    have := g (k - R.length) (by simp at hk; omega)
    rw [show j + R.length + (k - R.length) = j + k by omega] at this
    exact this
/-- a number: is there one, where it ends, what it is -/
def isD (x : Int32) : Bool := decide (48 ≤ x ∧ x ≤ 57)
def pN (g : Nat → Int32) (p : Nat) : Bool × Nat × Nat :=
  if isD (g p) = false then (false, p, 0) else if isD (g (p + 1)) = false then (true, p + 1, cx (g p - 48)) else (true, p + 2, 10 * cx (g p - 48) + cx (g (p + 1) - 48))
theorem isD_t {x : Int32} (h : isD x = true) : ∃ a, a < 10 ∧ x = nI (48 + a) := by
  have h' := of_decide_eq_true h
  obtain ⟨j, hj, e⟩ := nI_of2 (x := x) (M := 57) (n := 57) (by decide) (Int32.not_lt.mpr (Int32.le_trans (by decide) h'.1)) h'.2
  have h1 := h'.1
  rw [e, show (48 : Int32) = nI 48 from rfl, nI_leI (by decide) (by omega)] at h1
  exact ⟨j - 48, by omega, by rw [e, show 48 + (j - 48) = j by omega]⟩
theorem isD_v {x : Int32} (h : isD x = true) : cx (x - 48) < 10 ∧ x = nI (48 + cx (x - 48)) := by
  obtain ⟨a, ha, e⟩ := isD_t h
  have : x - 48 = nI a := by rw [e, show (48 : Int32) = nI 48 from rfl, pk_sub (by omega), show 48 + a - 48 = a by omega]
  rw [this, cx_nI (by omega)]
  exact ⟨ha, e⟩
theorem isD_n {x : Int32} (h : isD x = false) : x < 48 ∨ (¬ x < 48 ∧ 57 < x) := by
  have h' := of_decide_eq_false h
  by_cases q : x < 48
  · exact Or.inl q
  · exact Or.inr ⟨q, Int32.not_le.mp (fun a => h' ⟨Int32.not_lt.mp q, a⟩)⟩
theorem pN_le {g : Nat → Int32} {p : Nat} : p ≤ (pN g p).2.1 ∧ (pN g p).2.1 ≤ p + 2 ∧ (pN g p).2.2 < 100 ∧ ((pN g p).1 = true → p + 1 ≤ (pN g p).2.1) ∧ ((pN g p).1 = false → (pN g p).2.1 = p) := by
  unfold pN
  cases h1 : isD (g p) with
  | false => simp
  | true =>
    have v1 := (isD_v h1).1
    cases h2 : isD (g (p + 1)) with
    | false => simp; omega
    | true =>
      have v2 := (isD_v h2).1
      simp; omega
theorem sg_len {p : Nat} {c : Int32} (h : sg tx p = c) (hc : c ≠ -1) : p < tx.length := by
  rcases Nat.lt_or_ge p tx.length with q | q
  · exact q
  · rw [sg_ge (by omega)] at h; exact absurd h.symm hc
theorem sgD_len {p : Nat} (h : isD (sg tx p) = true) : p < tx.length := by
  obtain ⟨a, ha, e⟩ := isD_t h
  refine sg_len e (fun q => ?_)
  have : ¬ nI (48 + a) < 0 := nI_pos (by omega)
  rw [q] at this
  exact this (by decide)
theorem pN_len (hp : p ≤ tx.length) : (pN (sg tx) p).2.1 ≤ tx.length := by
  unfold pN
  cases h1 : isD (sg tx p) with
  | false => simpa using hp
  | true =>
    have := sgD_len h1
    cases h2 : isD (sg tx (p + 1)) with
    | false => simp; omega
    | true => have := sgD_len h2; simp; omega
theorem upd21 (f : Nat → Int32) (a b c d : Int32) : upd (upd (upd (upd f 2 a) 1 b) 2 c) 1 d = upd (upd f 2 c) 1 d := by
  funext k
  by_cases q1 : k = 1
  · rw [q1, pk_us, pk_us]
  · by_cases q2 : k = 2
    · rw [q2, pk_un (show (2 : Nat) ≠ 1 by decide), pk_us, pk_un (show (2 : Nat) ≠ 1 by decide), pk_us]
    · rw [pk_un q1, pk_un q2, pk_un q1, pk_un q2, pk_un q1, pk_un q2]
def setAN (X : Nat → Nat → Int32) (i p : Nat) (v : Int32) : Nat → Nat → Int32 := set1 X (186 + 6 * i) (upd (upd (X (186 + 6 * i)) 2 v) 1 (nI p))
theorem w_num (h : WS K tx i X p S) : E 1 mX10_readNumber 0 [.ref (186 + 6 * i), .null] [] (hp K X, n, z) = some (some (.int (bI (pN (sg tx) p).1)), (hp K (setAN X i (pN (sg tx) p).2.1 (nI (pN (sg tx) p).2.2)), n, z)) := by
  obtain ⟨hi, h2, h3, h4, h5, h6, h7, h8⟩ := h
  unfold pN setAN
  have st1 : ∀ (Y : Nat → Nat → Int32) (f : Nat → Int32), set1 Y (186 + 6 * i) f (186 + 6 * i + 1) = Y (186 + 6 * i + 1) := fun Y f => set1_ne _ _ (by omega)
  have ex0 : upd (upd (X (186 + 6 * i)) 2 0) 1 (nI p) = upd (X (186 + 6 * i)) 2 0 := by
    funext a
    by_cases q : a = 1
    · rw [q, pk_us, pk_un (by decide), h5]
    · rw [pk_un q]
  have d1 : isD (sg tx p) = false → E 1 mX10_readNumber 0 [.ref (186 + 6 * i), .null] [] (hp K X, n, z) = some (some (.int (bI false)), (hp K (set1 X (186 + 6 * i) (upd (upd (X (186 + 6 * i)) 2 0) 1 (nI p))), n, z)) := by
    intro hd
    rw [ex0]
    by_cases q : p < tx.length
    · have q1 : ¬ nI tx.length ≤ nI p := nI_ge q (by omega)
      have ip : ix (nI p) tx.length = true := ix_nI q (by omega)
      have cp : cx (nI p) = p := cx_nI (by omega)
      have e4 := h4 p q
      rw [sg_lt q] at hd
      rcases isD_n hd with a | ⟨a, b⟩
      · simp (decide := true) only [pX10_readNumber_0, pX10_readNumber_1, pX10_readNumber_2, pX10_readNumber_5, pX10_readNumber_6, pX10_readNumber_7, pX10_readNumber_8, pX10_readNumber_9, pX10_readNumber_12, pX10_readNumber_13, pX10_readNumber_16, pX10_readNumber_17, pX10_readNumber_20, pX10_readNumber_21, pX10_readNumber_24, pX10_readNumber_25, pX10_readNumber_28, pX10_readNumber_29, pX10_readNumber_32, pX10_readNumber_33, pX10_readNumber_35, pX10_readNumber_38, pX10_readNumber_39, pX10_readNumber_42, pX10_readNumber_43, pX10_readNumber_46, pX10_readNumber_47, pX10_readNumber_49, pX10_readNumber_52, pX10_readNumber_53, pX10_readNumber_54, pX10_readNumber_57, pX10_readNumber_59, pX10_readNumber_60, pX10_readNumber_61, pX10_readNumber_64, pX10_readNumber_65, pX10_readNumber_68, pX10_readNumber_69, pX10_readNumber_70, pX10_readNumber_72, pX10_readNumber_73, pX10_readNumber_76, pX10_readNumber_77, pX10_readNumber_78, pX10_readNumber_81, pX10_readNumber_82, pX10_readNumber_83, pX10_readNumber_86, pX10_readNumber_89, pX10_readNumber_92, pX10_readNumber_93, pX10_readNumber_96, pX10_readNumber_97, pX10_readNumber_100, pX10_readNumber_101, pX10_readNumber_101t, pX10_readNumber_101f, kd_i0, kd_i1, kd_i2, kd_i3, kd_jA, kd_r5, kd_r6, kd_r7, al_i, al_j, al_r, ai_i, aj_j, aq_r, cls_o, fv_o, sti_i, stj_j, st2_s, st2_n, bnd_some, set1_same, set1_twice, wc_0 hi, wc_1 hi, wc_2 hi, wc_3 hi, wc_4 hi, wc_5 hi, ww_1 hi, ww_2 hi, ww_3 hi, ww_4 hi, ww_5 hi, wow_1 hi, wow_2 hi, wow_3 hi, wow_7 hi, wo_0, wo_1, wo_2, wo_3, wo_4, wo_5, wo_6, wo_7, wo_8, ↓reduceIte, set1_ne, ne_eq, Nat.reduceEqDiff, not_false_eq_true, not_true_eq_false, if_true, if_false, ite_Ei, bI_eq0, pk_us, ix4, cx4, ix5, cx5, ix6, cx6, ix7, cx7, ix8, cx8, ix10, cx10, ix11, cx11, ix12, cx12, ix20, cx20, ix24, cx24, ix60, cx60, ix64, cx64, ix100, cx100, ix101, cx101, ix360, cx360, ix600, cx600, h2, h5, st1, ofNat_nI, q1, ip, cp, e4, a, pk_un, nb0, bI_f]
      · simp (decide := true) only [pX10_readNumber_0, pX10_readNumber_1, pX10_readNumber_2, pX10_readNumber_5, pX10_readNumber_6, pX10_readNumber_7, pX10_readNumber_8, pX10_readNumber_9, pX10_readNumber_12, pX10_readNumber_13, pX10_readNumber_16, pX10_readNumber_17, pX10_readNumber_20, pX10_readNumber_21, pX10_readNumber_24, pX10_readNumber_25, pX10_readNumber_28, pX10_readNumber_29, pX10_readNumber_32, pX10_readNumber_33, pX10_readNumber_35, pX10_readNumber_38, pX10_readNumber_39, pX10_readNumber_42, pX10_readNumber_43, pX10_readNumber_46, pX10_readNumber_47, pX10_readNumber_49, pX10_readNumber_52, pX10_readNumber_53, pX10_readNumber_54, pX10_readNumber_57, pX10_readNumber_59, pX10_readNumber_60, pX10_readNumber_61, pX10_readNumber_64, pX10_readNumber_65, pX10_readNumber_68, pX10_readNumber_69, pX10_readNumber_70, pX10_readNumber_72, pX10_readNumber_73, pX10_readNumber_76, pX10_readNumber_77, pX10_readNumber_78, pX10_readNumber_81, pX10_readNumber_82, pX10_readNumber_83, pX10_readNumber_86, pX10_readNumber_89, pX10_readNumber_92, pX10_readNumber_93, pX10_readNumber_96, pX10_readNumber_97, pX10_readNumber_100, pX10_readNumber_101, pX10_readNumber_101t, pX10_readNumber_101f, kd_i0, kd_i1, kd_i2, kd_i3, kd_jA, kd_r5, kd_r6, kd_r7, al_i, al_j, al_r, ai_i, aj_j, aq_r, cls_o, fv_o, sti_i, stj_j, st2_s, st2_n, bnd_some, set1_same, set1_twice, wc_0 hi, wc_1 hi, wc_2 hi, wc_3 hi, wc_4 hi, wc_5 hi, ww_1 hi, ww_2 hi, ww_3 hi, ww_4 hi, ww_5 hi, wow_1 hi, wow_2 hi, wow_3 hi, wow_7 hi, wo_0, wo_1, wo_2, wo_3, wo_4, wo_5, wo_6, wo_7, wo_8, ↓reduceIte, set1_ne, ne_eq, Nat.reduceEqDiff, not_false_eq_true, not_true_eq_false, if_true, if_false, ite_Ei, bI_eq0, pk_us, ix4, cx4, ix5, cx5, ix6, cx6, ix7, cx7, ix8, cx8, ix10, cx10, ix11, cx11, ix12, cx12, ix20, cx20, ix24, cx24, ix60, cx60, ix64, cx64, ix100, cx100, ix101, cx101, ix360, cx360, ix600, cx600, h2, h5, st1, ofNat_nI, q1, ip, cp, e4, a, b, pk_un, nb0, bI_f]
    · have q1 : nI tx.length ≤ nI p := nI_le (by omega) (by omega)
      simp (decide := true) only [pX10_readNumber_0, pX10_readNumber_1, pX10_readNumber_2, pX10_readNumber_5, pX10_readNumber_6, pX10_readNumber_7, pX10_readNumber_8, pX10_readNumber_9, pX10_readNumber_12, pX10_readNumber_13, pX10_readNumber_16, pX10_readNumber_17, pX10_readNumber_20, pX10_readNumber_21, pX10_readNumber_24, pX10_readNumber_25, pX10_readNumber_28, pX10_readNumber_29, pX10_readNumber_32, pX10_readNumber_33, pX10_readNumber_35, pX10_readNumber_38, pX10_readNumber_39, pX10_readNumber_42, pX10_readNumber_43, pX10_readNumber_46, pX10_readNumber_47, pX10_readNumber_49, pX10_readNumber_52, pX10_readNumber_53, pX10_readNumber_54, pX10_readNumber_57, pX10_readNumber_59, pX10_readNumber_60, pX10_readNumber_61, pX10_readNumber_64, pX10_readNumber_65, pX10_readNumber_68, pX10_readNumber_69, pX10_readNumber_70, pX10_readNumber_72, pX10_readNumber_73, pX10_readNumber_76, pX10_readNumber_77, pX10_readNumber_78, pX10_readNumber_81, pX10_readNumber_82, pX10_readNumber_83, pX10_readNumber_86, pX10_readNumber_89, pX10_readNumber_92, pX10_readNumber_93, pX10_readNumber_96, pX10_readNumber_97, pX10_readNumber_100, pX10_readNumber_101, pX10_readNumber_101t, pX10_readNumber_101f, kd_i0, kd_i1, kd_i2, kd_i3, kd_jA, kd_r5, kd_r6, kd_r7, al_i, al_j, al_r, ai_i, aj_j, aq_r, cls_o, fv_o, sti_i, stj_j, st2_s, st2_n, bnd_some, set1_same, set1_twice, wc_0 hi, wc_1 hi, wc_2 hi, wc_3 hi, wc_4 hi, wc_5 hi, ww_1 hi, ww_2 hi, ww_3 hi, ww_4 hi, ww_5 hi, wow_1 hi, wow_2 hi, wow_3 hi, wow_7 hi, wo_0, wo_1, wo_2, wo_3, wo_4, wo_5, wo_6, wo_7, wo_8, ↓reduceIte, set1_ne, ne_eq, Nat.reduceEqDiff, not_false_eq_true, not_true_eq_false, if_true, if_false, ite_Ei, bI_eq0, pk_us, ix4, cx4, ix5, cx5, ix6, cx6, ix7, cx7, ix8, cx8, ix10, cx10, ix11, cx11, ix12, cx12, ix20, cx20, ix24, cx24, ix60, cx60, ix64, cx64, ix100, cx100, ix101, cx101, ix360, cx360, ix600, cx600, h2, h5, st1, ofNat_nI, q1, pk_un, nb0, bI_f]
  cases hd1 : isD (sg tx p) with
  | false => exact d1 hd1
  | true =>
    have q := sgD_len hd1
    have q1 : ¬ nI tx.length ≤ nI p := nI_ge q (by omega)
    have ip : ix (nI p) tx.length = true := ix_nI q (by omega)
    have cp : cx (nI p) = p := cx_nI (by omega)
    have e4 := h4 p q
    rw [sg_lt q] at hd1
    have b1 := of_decide_eq_true hd1
    have b2 : ¬ tx.getD p 0 < 48 := Int32.not_lt.mpr b1.1
    have b3 : ¬ 57 < tx.getD p 0 := Int32.not_lt.mpr b1.2
    obtain ⟨v1, e1⟩ := isD_v hd1
    rw [if_neg (by decide)]
    rw [sg_lt q]
    have en : (0 : Int32) * 10 + tx.getD p 0 - 48 = nI (cx (tx.getD p 0 - 48)) := by
      rw [Int32.zero_mul, Int32.zero_add]
      obtain ⟨a, ha, ea⟩ := isD_t hd1
      have : tx.getD p 0 - 48 = nI a := by rw [ea, show (48 : Int32) = nI 48 from rfl, pk_sub (by omega), show 48 + a - 48 = a by omega]
      rw [this, cx_nI (by omega)]
    cases hd2 : isD (sg tx (p + 1)) with
    | false =>
      rw [if_pos rfl]
      by_cases r : p + 1 < tx.length
      · have r1 : ¬ nI tx.length ≤ nI (p + 1) := nI_ge r (by omega)
        have ip2 : ix (nI (p + 1)) tx.length = true := ix_nI r (by omega)
        have cp2 : cx (nI (p + 1)) = p + 1 := cx_nI (by omega)
        have e5 := h4 (p + 1) r
        rw [sg_lt r] at hd2
        rcases isD_n hd2 with a | ⟨a, b⟩
        · simp (decide := true) only [pX10_readNumber_0, pX10_readNumber_1, pX10_readNumber_2, pX10_readNumber_5, pX10_readNumber_6, pX10_readNumber_7, pX10_readNumber_8, pX10_readNumber_9, pX10_readNumber_12, pX10_readNumber_13, pX10_readNumber_16, pX10_readNumber_17, pX10_readNumber_20, pX10_readNumber_21, pX10_readNumber_24, pX10_readNumber_25, pX10_readNumber_28, pX10_readNumber_29, pX10_readNumber_32, pX10_readNumber_33, pX10_readNumber_35, pX10_readNumber_38, pX10_readNumber_39, pX10_readNumber_42, pX10_readNumber_43, pX10_readNumber_46, pX10_readNumber_47, pX10_readNumber_49, pX10_readNumber_52, pX10_readNumber_53, pX10_readNumber_54, pX10_readNumber_57, pX10_readNumber_59, pX10_readNumber_60, pX10_readNumber_61, pX10_readNumber_64, pX10_readNumber_65, pX10_readNumber_68, pX10_readNumber_69, pX10_readNumber_70, pX10_readNumber_72, pX10_readNumber_73, pX10_readNumber_76, pX10_readNumber_77, pX10_readNumber_78, pX10_readNumber_81, pX10_readNumber_82, pX10_readNumber_83, pX10_readNumber_86, pX10_readNumber_89, pX10_readNumber_92, pX10_readNumber_93, pX10_readNumber_96, pX10_readNumber_97, pX10_readNumber_100, pX10_readNumber_101, pX10_readNumber_101t, pX10_readNumber_101f, kd_i0, kd_i1, kd_i2, kd_i3, kd_jA, kd_r5, kd_r6, kd_r7, al_i, al_j, al_r, ai_i, aj_j, aq_r, cls_o, fv_o, sti_i, stj_j, st2_s, st2_n, bnd_some, set1_same, set1_twice, wc_0 hi, wc_1 hi, wc_2 hi, wc_3 hi, wc_4 hi, wc_5 hi, ww_1 hi, ww_2 hi, ww_3 hi, ww_4 hi, ww_5 hi, wow_1 hi, wow_2 hi, wow_3 hi, wow_7 hi, wo_0, wo_1, wo_2, wo_3, wo_4, wo_5, wo_6, wo_7, wo_8, ↓reduceIte, set1_ne, ne_eq, Nat.reduceEqDiff, not_false_eq_true, not_true_eq_false, if_true, if_false, ite_Ei, bI_eq0, pk_us, ix4, cx4, ix5, cx5, ix6, cx6, ix7, cx7, ix8, cx8, ix10, cx10, ix11, cx11, ix12, cx12, ix20, cx20, ix24, cx24, ix60, cx60, ix64, cx64, ix100, cx100, ix101, cx101, ix360, cx360, ix600, cx600, h2, h5, st1, ofNat_nI, q1, ip, cp, e4, b2, b3, en, r1, ip2, cp2, e5, a, pk_un, nI_1, nb1, bI_t, upd_upd]
        · simp (decide := true) only [pX10_readNumber_0, pX10_readNumber_1, pX10_readNumber_2, pX10_readNumber_5, pX10_readNumber_6, pX10_readNumber_7, pX10_readNumber_8, pX10_readNumber_9, pX10_readNumber_12, pX10_readNumber_13, pX10_readNumber_16, pX10_readNumber_17, pX10_readNumber_20, pX10_readNumber_21, pX10_readNumber_24, pX10_readNumber_25, pX10_readNumber_28, pX10_readNumber_29, pX10_readNumber_32, pX10_readNumber_33, pX10_readNumber_35, pX10_readNumber_38, pX10_readNumber_39, pX10_readNumber_42, pX10_readNumber_43, pX10_readNumber_46, pX10_readNumber_47, pX10_readNumber_49, pX10_readNumber_52, pX10_readNumber_53, pX10_readNumber_54, pX10_readNumber_57, pX10_readNumber_59, pX10_readNumber_60, pX10_readNumber_61, pX10_readNumber_64, pX10_readNumber_65, pX10_readNumber_68, pX10_readNumber_69, pX10_readNumber_70, pX10_readNumber_72, pX10_readNumber_73, pX10_readNumber_76, pX10_readNumber_77, pX10_readNumber_78, pX10_readNumber_81, pX10_readNumber_82, pX10_readNumber_83, pX10_readNumber_86, pX10_readNumber_89, pX10_readNumber_92, pX10_readNumber_93, pX10_readNumber_96, pX10_readNumber_97, pX10_readNumber_100, pX10_readNumber_101, pX10_readNumber_101t, pX10_readNumber_101f, kd_i0, kd_i1, kd_i2, kd_i3, kd_jA, kd_r5, kd_r6, kd_r7, al_i, al_j, al_r, ai_i, aj_j, aq_r, cls_o, fv_o, sti_i, stj_j, st2_s, st2_n, bnd_some, set1_same, set1_twice, wc_0 hi, wc_1 hi, wc_2 hi, wc_3 hi, wc_4 hi, wc_5 hi, ww_1 hi, ww_2 hi, ww_3 hi, ww_4 hi, ww_5 hi, wow_1 hi, wow_2 hi, wow_3 hi, wow_7 hi, wo_0, wo_1, wo_2, wo_3, wo_4, wo_5, wo_6, wo_7, wo_8, ↓reduceIte, set1_ne, ne_eq, Nat.reduceEqDiff, not_false_eq_true, not_true_eq_false, if_true, if_false, ite_Ei, bI_eq0, pk_us, ix4, cx4, ix5, cx5, ix6, cx6, ix7, cx7, ix8, cx8, ix10, cx10, ix11, cx11, ix12, cx12, ix20, cx20, ix24, cx24, ix60, cx60, ix64, cx64, ix100, cx100, ix101, cx101, ix360, cx360, ix600, cx600, h2, h5, st1, ofNat_nI, q1, ip, cp, e4, b2, b3, en, r1, ip2, cp2, e5, a, b, pk_un, nI_1, nb1, bI_t, upd_upd]
      · have r1 : nI tx.length ≤ nI (p + 1) := nI_le (by omega) (by omega)
        simp (decide := true) only [pX10_readNumber_0, pX10_readNumber_1, pX10_readNumber_2, pX10_readNumber_5, pX10_readNumber_6, pX10_readNumber_7, pX10_readNumber_8, pX10_readNumber_9, pX10_readNumber_12, pX10_readNumber_13, pX10_readNumber_16, pX10_readNumber_17, pX10_readNumber_20, pX10_readNumber_21, pX10_readNumber_24, pX10_readNumber_25, pX10_readNumber_28, pX10_readNumber_29, pX10_readNumber_32, pX10_readNumber_33, pX10_readNumber_35, pX10_readNumber_38, pX10_readNumber_39, pX10_readNumber_42, pX10_readNumber_43, pX10_readNumber_46, pX10_readNumber_47, pX10_readNumber_49, pX10_readNumber_52, pX10_readNumber_53, pX10_readNumber_54, pX10_readNumber_57, pX10_readNumber_59, pX10_readNumber_60, pX10_readNumber_61, pX10_readNumber_64, pX10_readNumber_65, pX10_readNumber_68, pX10_readNumber_69, pX10_readNumber_70, pX10_readNumber_72, pX10_readNumber_73, pX10_readNumber_76, pX10_readNumber_77, pX10_readNumber_78, pX10_readNumber_81, pX10_readNumber_82, pX10_readNumber_83, pX10_readNumber_86, pX10_readNumber_89, pX10_readNumber_92, pX10_readNumber_93, pX10_readNumber_96, pX10_readNumber_97, pX10_readNumber_100, pX10_readNumber_101, pX10_readNumber_101t, pX10_readNumber_101f, kd_i0, kd_i1, kd_i2, kd_i3, kd_jA, kd_r5, kd_r6, kd_r7, al_i, al_j, al_r, ai_i, aj_j, aq_r, cls_o, fv_o, sti_i, stj_j, st2_s, st2_n, bnd_some, set1_same, set1_twice, wc_0 hi, wc_1 hi, wc_2 hi, wc_3 hi, wc_4 hi, wc_5 hi, ww_1 hi, ww_2 hi, ww_3 hi, ww_4 hi, ww_5 hi, wow_1 hi, wow_2 hi, wow_3 hi, wow_7 hi, wo_0, wo_1, wo_2, wo_3, wo_4, wo_5, wo_6, wo_7, wo_8, ↓reduceIte, set1_ne, ne_eq, Nat.reduceEqDiff, not_false_eq_true, not_true_eq_false, if_true, if_false, ite_Ei, bI_eq0, pk_us, ix4, cx4, ix5, cx5, ix6, cx6, ix7, cx7, ix8, cx8, ix10, cx10, ix11, cx11, ix12, cx12, ix20, cx20, ix24, cx24, ix60, cx60, ix64, cx64, ix100, cx100, ix101, cx101, ix360, cx360, ix600, cx600, h2, h5, st1, ofNat_nI, q1, ip, cp, e4, b2, b3, en, r1, pk_un, nI_1, nb1, bI_t, upd_upd]
    | true =>
      have r := sgD_len hd2
      rw [if_neg (by decide), sg_lt r]
      have r1 : ¬ nI tx.length ≤ nI (p + 1) := nI_ge r (by omega)
      have ip2 : ix (nI (p + 1)) tx.length = true := ix_nI r (by omega)
      have cp2 : cx (nI (p + 1)) = p + 1 := cx_nI (by omega)
      have e5 := h4 (p + 1) r
      rw [sg_lt r] at hd2
      have c1 := of_decide_eq_true hd2
      have c2 : ¬ tx.getD (p + 1) 0 < 48 := Int32.not_lt.mpr c1.1
      have c3 : ¬ 57 < tx.getD (p + 1) 0 := Int32.not_lt.mpr c1.2
      have en2 : nI (cx (tx.getD p 0 - 48)) * 10 + tx.getD (p + 1) 0 - 48 = nI (10 * cx (tx.getD p 0 - 48) + cx (tx.getD (p + 1) 0 - 48)) := by
        obtain ⟨a, ha, ea⟩ := isD_t hd2
        have e48 : tx.getD (p + 1) 0 - 48 = nI a := by rw [ea, show (48 : Int32) = nI 48 from rfl, pk_sub (by omega), show 48 + a - 48 = a by omega]
        rw [e48, cx_nI (by omega), show (10 : Int32) = nI 10 from rfl, pk_mul, ea, nI_add, show (48 : Int32) = nI 48 from rfl, pk_sub (by omega)]
        congr 1
        omega
      simp (decide := true) only [pX10_readNumber_0, pX10_readNumber_1, pX10_readNumber_2, pX10_readNumber_5, pX10_readNumber_6, pX10_readNumber_7, pX10_readNumber_8, pX10_readNumber_9, pX10_readNumber_12, pX10_readNumber_13, pX10_readNumber_16, pX10_readNumber_17, pX10_readNumber_20, pX10_readNumber_21, pX10_readNumber_24, pX10_readNumber_25, pX10_readNumber_28, pX10_readNumber_29, pX10_readNumber_32, pX10_readNumber_33, pX10_readNumber_35, pX10_readNumber_38, pX10_readNumber_39, pX10_readNumber_42, pX10_readNumber_43, pX10_readNumber_46, pX10_readNumber_47, pX10_readNumber_49, pX10_readNumber_52, pX10_readNumber_53, pX10_readNumber_54, pX10_readNumber_57, pX10_readNumber_59, pX10_readNumber_60, pX10_readNumber_61, pX10_readNumber_64, pX10_readNumber_65, pX10_readNumber_68, pX10_readNumber_69, pX10_readNumber_70, pX10_readNumber_72, pX10_readNumber_73, pX10_readNumber_76, pX10_readNumber_77, pX10_readNumber_78, pX10_readNumber_81, pX10_readNumber_82, pX10_readNumber_83, pX10_readNumber_86, pX10_readNumber_89, pX10_readNumber_92, pX10_readNumber_93, pX10_readNumber_96, pX10_readNumber_97, pX10_readNumber_100, pX10_readNumber_101, pX10_readNumber_101t, pX10_readNumber_101f, kd_i0, kd_i1, kd_i2, kd_i3, kd_jA, kd_r5, kd_r6, kd_r7, al_i, al_j, al_r, ai_i, aj_j, aq_r, cls_o, fv_o, sti_i, stj_j, st2_s, st2_n, bnd_some, set1_same, set1_twice, wc_0 hi, wc_1 hi, wc_2 hi, wc_3 hi, wc_4 hi, wc_5 hi, ww_1 hi, ww_2 hi, ww_3 hi, ww_4 hi, ww_5 hi, wow_1 hi, wow_2 hi, wow_3 hi, wow_7 hi, wo_0, wo_1, wo_2, wo_3, wo_4, wo_5, wo_6, wo_7, wo_8, ↓reduceIte, set1_ne, ne_eq, Nat.reduceEqDiff, not_false_eq_true, not_true_eq_false, if_true, if_false, ite_Ei, bI_eq0, pk_us, ix4, cx4, ix5, cx5, ix6, cx6, ix7, cx7, ix8, cx8, ix10, cx10, ix11, cx11, ix12, cx12, ix20, cx20, ix24, cx24, ix60, cx60, ix64, cx64, ix100, cx100, ix101, cx101, ix360, cx360, ix600, cx600, h2, h5, st1, ofNat_nI, q1, ip, cp, e4, b2, b3, en, r1, ip2, cp2, e5, c2, c3, en2, pk_un, nI_1, nb1, bI_t, upd21, upd_upd]
      try rfl
end READ
