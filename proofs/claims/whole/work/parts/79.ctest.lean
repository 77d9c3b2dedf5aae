/-! The class: words, tests, hours that a test names. -/
/-- a word's cells: 2 ripe, 3 shade, 4 sun, 5 the letters -/
theorem hc_s2 (K : KT) (X : Nat → Nat → Int32) : hp K X 2 = ob 20 (fun k => if k = 0 then .ref 6 else .int 0) := rfl
theorem hc_s3 (K : KT) (X : Nat → Nat → Int32) : hp K X 3 = ob 20 (fun k => if k = 0 then .ref 7 else .int 0) := rfl
theorem hc_s4 (K : KT) (X : Nat → Nat → Int32) : hp K X 4 = ob 20 (fun k => if k = 0 then .ref 8 else .int 0) := rfl
theorem hc_s5 (K : KT) (X : Nat → Nat → Int32) : hp K X 5 = ob 20 (fun k => if k = 0 then .ref 9 else .int 0) := rfl
def wdR : List Int32 := [114, 105, 112, 101]
def wdS : List Int32 := [115, 104, 97, 100, 101]
def wdU : List Int32 := [115, 117, 110]
def wdL : List Int32 := [112, 107, 118, 104, 114, 100]
/-- the text w lies at the cells q, q + 4 -/
def StO (K : KT) (q : Nat) (w : List Int32) : Prop := (∀ X, hp K X q = ob 20 (fun k => if k = 0 then .ref (q + 4) else .int 0)) ∧ (∀ X, hp K X (q + 4) = iA 11 w.length (fun j => w.getD j 0)) ∧ w.length < 10 ∧ ∀ j, j < w.length → ∃ a, a < 128 ∧ w.getD j 0 = nI a
theorem sto2 (K : KT) : StO K 2 wdR := by
  refine ⟨fun X => rfl, fun X => rfl, by decide, ?_⟩
  intro j hj
  match j, hj with
  | 0, _ => exact ⟨114, by decide, rfl⟩
  | 1, _ => exact ⟨105, by decide, rfl⟩
  | 2, _ => exact ⟨112, by decide, rfl⟩
  | 3, _ => exact ⟨101, by decide, rfl⟩
theorem sto3 (K : KT) : StO K 3 wdS := by
  refine ⟨fun X => rfl, fun X => rfl, by decide, ?_⟩
  intro j hj
  match j, hj with
  | 0, _ => exact ⟨115, by decide, rfl⟩
  | 1, _ => exact ⟨104, by decide, rfl⟩
  | 2, _ => exact ⟨97, by decide, rfl⟩
  | 3, _ => exact ⟨100, by decide, rfl⟩
  | 4, _ => exact ⟨101, by decide, rfl⟩
theorem sto4 (K : KT) : StO K 4 wdU := by
  refine ⟨fun X => rfl, fun X => rfl, by decide, ?_⟩
  intro j hj
  match j, hj with
  | 0, _ => exact ⟨115, by decide, rfl⟩
  | 1, _ => exact ⟨117, by decide, rfl⟩
  | 2, _ => exact ⟨110, by decide, rfl⟩
theorem kd_11 (n : Nat) (f : Nat → Int32) : kd (iA 11 n f) = 11 := rfl
theorem nb_0 : nOk .byte 0 = true := rfl
theorem pc14 {l0 : Value} {w : Wd} : E 1 mJ0_coder_7d493 14 [l0] [.int 0] w = some (some (.int 0), w) := pJ0_coder_7d493_14 rfl
theorem sh0 (x : Int32) : x >>> ((0 : Int32) &&& 31) = x := by
  rw [show ((0 : Int32) &&& 31) = nI 0 &&& 31 from rfl]
  apply b_ext
  intro i hi
  rw [b_sshr 0 (by decide) x hi, Nat.zero_add, if_pos hi]
theorem nc_128 : ∀ a : Fin 128, nOk .char (nI a.1) = true ∧ ((nI a.1 &&& 255).toUInt32 % 65536).toInt32 = nI a.1 ∧ ((nI a.1).toUInt32 % 65536).toInt32 = nI a.1 ∧ (nI a.1).toInt8.toInt32 = nI a.1 := by decide +kernel
theorem c0_20 : (if (0 : Nat) = 0 then (Value.ref 9 : Value) else .int 0) = .ref 9 := rfl
section WORDS
variable {K : KT} {X : Nat → Nat → Int32} {n z i p S q : Nat} {tx w : List Int32}
theorem s_len (h : StO K q w) : E 2 mJ0_length_8abf5 0 [.ref q] [] (hp K X, n, z) = some (some (.int (nI w.length)), (hp K X, n, z)) := by
  obtain ⟨h1, h2, h3, h4⟩ := h
  simp (decide := true) only [pJ0_length_8abf5_0, pJ0_length_8abf5_1, pJ0_length_8abf5_4, pJ0_length_8abf5_5, pJ0_length_8abf5_6, pJ0_length_8abf5_9, pJ0_length_8abf5_10, kd_i0, kd_i1, kd_i2, kd_i3, kd_jA, kd_r5, kd_r6, kd_r7, al_i, al_j, al_r, ai_i, aj_j, aq_r, cls_o, fv_o, sti_i, stj_j, st2_s, st2_n, bnd_some, set1_same, set1_twice, ↓reduceIte, set1_ne, ne_eq, Nat.reduceEqDiff, not_false_eq_true, not_true_eq_false, if_true, if_false, ite_Ei, bI_eq0, pk_us, ix4, cx4, ix5, cx5, ix6, cx6, ix7, cx7, ix8, cx8, ix10, cx10, ix11, cx11, ix12, cx12, ix20, cx20, ix24, cx24, ix60, cx60, ix64, cx64, ix100, cx100, ix101, cx101, ix360, cx360, ix600, cx600, pJ0_coder_7d493_0, pJ0_coder_7d493_3, pJ0_coder_7d493_6, pJ0_coder_7d493_7, pJ0_coder_7d493_10, pJ0_coder_7d493_13, pJ0_coder_7d493_14, h1, h2, kd_11, ofNat_nI, pc14, sh0]
theorem s_chr {j : Nat} (h : StO K q w) (hj : j < w.length) : E 4 mJ0_charAt_5068e 0 [.ref q, .int (nI j)] [] (hp K X, n, z) = some (some (.int (w.getD j 0)), (hp K X, n, z)) := by
  obtain ⟨h1, h2, h3, h4⟩ := h
  obtain ⟨a, ha, ea⟩ := h4 j hj
  obtain ⟨n1, n2, n3, n4⟩ := nc_128 ⟨a, ha⟩
  have j0 : ¬ nI j < 0 := nI_pos (by omega)
  have j1 : nI j < nI w.length := nI_lt hj (by omega)
  have ij : ix (nI j) w.length = true := ix_nI hj (by omega)
  have cj : cx (nI j) = j := cx_nI (by omega)
  simp only at n1 n2
  rw [ea]
  simp (decide := true) only [pJ0_charAt_5068e_0, pJ0_charAt_5068e_1, pJ0_charAt_5068e_4, pJ0_charAt_5068e_7, pJ0_charAt_5068e_8, pJ0_charAt_5068e_11, pJ0_charAt_5068e_12, pJ0_charAt_5068e_15, pJ0_charAt_5068e_16, pJ0_charAt_5068e_17, pJ0_charAt_5068e_20, pJ0_charAt_5068e_24, kd_i0, kd_i1, kd_i2, kd_i3, kd_jA, kd_r5, kd_r6, kd_r7, al_i, al_j, al_r, ai_i, aj_j, aq_r, cls_o, fv_o, sti_i, stj_j, st2_s, st2_n, bnd_some, set1_same, set1_twice, ↓reduceIte, set1_ne, ne_eq, Nat.reduceEqDiff, not_false_eq_true, not_true_eq_false, if_true, if_false, ite_Ei, bI_eq0, pk_us, ix4, cx4, ix5, cx5, ix6, cx6, ix7, cx7, ix8, cx8, ix10, cx10, ix11, cx11, ix12, cx12, ix20, cx20, ix24, cx24, ix60, cx60, ix64, cx64, ix100, cx100, ix101, cx101, ix360, cx360, ix600, cx600, pJ0_isLatin1_aae02_0, pJ0_isLatin1_aae02_3, pJ0_isLatin1_aae02_6, pJ0_isLatin1_aae02_7, pJ0_isLatin1_aae02_10, pJ0_isLatin1_aae02_13, pJ0_isLatin1_aae02_14, pJ0_isLatin1_aae02_17, pJ0_isLatin1_aae02_18, pJ0_isLatin1_aae02_18t, pJ0_isLatin1_aae02_18f, pJ1_charAt_3b067_0, pJ1_charAt_3b067_1, pJ1_charAt_3b067_2, pJ1_charAt_3b067_3, pJ1_charAt_3b067_6, pJ1_charAt_3b067_7, pJ1_charAt_3b067_8, pJ1_charAt_3b067_9, pJ1_charAt_3b067_12, pJ1_charAt_3b067_13, pJ1_charAt_3b067_14, pJ0_checkIndex_df160_0, pJ0_checkIndex_df160_1, pJ0_checkIndex_df160_2, pJ0_checkIndex_df160_5, pJ0_checkIndex_df160_8, pJ0_checkIndex_df160_9, pJ3_checkIndex_8e157_0, pJ3_checkIndex_8e157_1, pJ3_checkIndex_8e157_4, pJ3_checkIndex_8e157_5, pJ3_checkIndex_8e157_6, pJ3_checkIndex_8e157_9, pJ3_checkIndex_8e157_10, pJ3_checkIndex_8e157_11, pJ3_checkIndex_8e157_16, pJ3_checkIndex_8e157_17, h1, h2, kd_11, ofNat_nI, j0, j1, ij, cj, ea, n1, n2]
/-- a word, and the space behind it -/
def pW (g : Nat → Int32) : List Int32 → Nat → Bool × Nat
  | [], p => if g p = 32 then (true, p + 1) else (false, p)
  | c :: r, p => if g p = c then pW g r (p + 1) else (false, p)
theorem pW_le (g : Nat → Int32) : ∀ (w : List Int32) (p : Nat), p ≤ (pW g w p).2 ∧ ((pW g w p).1 = true → p + 1 ≤ (pW g w p).2) := by
  intro w
  induction w with
  | nil =>
    intro p
    unfold pW
    split
    · exact ⟨Nat.le_succ p, fun _ => Nat.le_refl _⟩
    · exact ⟨Nat.le_refl p, fun h => by cases h⟩
  | cons c r ih =>
    intro p
    unfold pW
    split
    · have := ih (p + 1)
      exact ⟨by omega, fun h => by omega⟩
    · exact ⟨Nat.le_refl p, fun h => by cases h⟩
theorem pW_len : ∀ (w : List Int32) (p : Nat), (∀ c, c ∈ w → c ≠ -1) → p ≤ tx.length → (pW (sg tx) w p).2 ≤ tx.length := by
  intro w
  induction w with
  | nil =>
    intro p _ hp
    unfold pW
    split
    · have := sg_len (tx := tx) (p := p) (c := 32) (by assumption) (by decide)
      show p + 1 ≤ _; omega
    · exact hp
  | cons c r ih =>
    intro p hc hp
    unfold pW
    split
    · have := sg_len (tx := tx) (p := p) (c := c) (by assumption) (hc c List.mem_cons_self)
      exact ih (p + 1) (fun x hx => hc x (List.mem_cons_of_mem _ hx)) (by omega)
    · exact hp
theorem neq_m1 {w : List Int32} (h : ∀ j, j < w.length → ∃ a, a < 128 ∧ w.getD j 0 = nI a) : ∀ c, c ∈ w → c ≠ -1 := by
  intro c hc
  obtain ⟨j, hj, e⟩ := List.getElem_of_mem hc
  obtain ⟨a, ha, ea⟩ := h j hj
  have : w.getD j 0 = w[j] := by simp [List.getD, hj]
  rw [this, e] at ea
  intro q
  have h0 : ¬ nI a < 0 := nI_pos (by omega)
  rw [← ea, q] at h0
  exact h0 (by decide)
theorem w_word (h : WS K tx i X p S) (hw : StO K q w) : E 5 mX10_readWord 0 [.ref (186 + 6 * i), .ref q, .null] [] (hp K X, n, z) = some (some (.int (bI (pW (sg tx) w p).1)), (hp K (setAt X i (pW (sg tx) w p).2), n, z)) := by
  have hnq := neq_m1 hw.2.2.2
  have hl10 := hw.2.2.1
  have hi := h.1
  have loop : ∀ (r : List Int32) (j p' : Nat) (Y : Nat → Nat → Int32), j + r.length = w.length → (∀ k, k < r.length → w.getD (j + k) 0 = r.getD k 0) → WS K tx i Y p' S → (∀ c, c ∈ r → c ≠ -1) → E 5 mX10_readWord 2 [.ref (186 + 6 * i), .ref q, .int (nI j)] [] (hp K Y, n, z) = some (some (.int (bI (pW (sg tx) r p').1)), (hp K (setAt Y i (pW (sg tx) r p').2), n, z)) := by
    intro r
    induction r with
    | nil =>
      intro j p' Y hj _ hY _
      have ej : j = w.length := by simpa using hj
      have h1 : nI w.length ≤ nI j := by rw [ej]; exact Int32.le_refl _
      have hc := (hw.1 Y)
      have er := w_rs (n := n) (z := z) (c := 32) hY
      have e5 := hY.2.2.2.2.1
      unfold pW
      by_cases g : sg tx p' = 32
      · rw [decide_eq_true g, if_pos g] at er
        rw [if_pos g]
        simp (decide := true) only [pX10_readWord_0, pX10_readWord_1, pX10_readWord_2, pX10_readWord_3, pX10_readWord_4, pX10_readWord_7, pX10_readWord_10, pX10_readWord_11, pX10_readWord_12, pX10_readWord_13, pX10_readWord_16, pX10_readWord_19, pX10_readWord_22, pX10_readWord_23, pX10_readWord_23t, pX10_readWord_23f, pX10_readWord_24, pX10_readWord_27, pX10_readWord_30, pX10_readWord_31, pX10_readWord_33, pX10_readWord_36, pX10_readWord_36t, pX10_readWord_36f, kd_i0, kd_i1, kd_i2, kd_i3, kd_jA, kd_r5, kd_r6, kd_r7, al_i, al_j, al_r, ai_i, aj_j, aq_r, cls_o, fv_o, sti_i, stj_j, st2_s, st2_n, bnd_some, set1_same, set1_twice, wc_0 hi, wc_1 hi, wc_2 hi, wc_3 hi, wc_4 hi, wc_5 hi, ww_1 hi, ww_2 hi, ww_3 hi, ww_4 hi, ww_5 hi, wow_1 hi, wow_2 hi, wow_3 hi, wow_7 hi, wo_0, wo_1, wo_2, wo_3, wo_4, wo_5, wo_6, wo_7, wo_8, ↓reduceIte, set1_ne, ne_eq, Nat.reduceEqDiff, not_false_eq_true, not_true_eq_false, if_true, if_false, ite_Ei, bI_eq0, pk_us, ix4, cx4, ix5, cx5, ix6, cx6, ix7, cx7, ix8, cx8, ix10, cx10, ix11, cx11, ix12, cx12, ix20, cx20, ix24, cx24, ix60, cx60, ix64, cx64, ix100, cx100, ix101, cx101, ix360, cx360, ix600, cx600, hc, s_len hw, h1, er, nb1, bI_t]
      · rw [decide_eq_false g, if_neg g] at er
        rw [if_neg g]
        simp (decide := true) only [pX10_readWord_0, pX10_readWord_1, pX10_readWord_2, pX10_readWord_3, pX10_readWord_4, pX10_readWord_7, pX10_readWord_10, pX10_readWord_11, pX10_readWord_12, pX10_readWord_13, pX10_readWord_16, pX10_readWord_19, pX10_readWord_22, pX10_readWord_23, pX10_readWord_23t, pX10_readWord_23f, pX10_readWord_24, pX10_readWord_27, pX10_readWord_30, pX10_readWord_31, pX10_readWord_33, pX10_readWord_36, pX10_readWord_36t, pX10_readWord_36f, kd_i0, kd_i1, kd_i2, kd_i3, kd_jA, kd_r5, kd_r6, kd_r7, al_i, al_j, al_r, ai_i, aj_j, aq_r, cls_o, fv_o, sti_i, stj_j, st2_s, st2_n, bnd_some, set1_same, set1_twice, wc_0 hi, wc_1 hi, wc_2 hi, wc_3 hi, wc_4 hi, wc_5 hi, ww_1 hi, ww_2 hi, ww_3 hi, ww_4 hi, ww_5 hi, wow_1 hi, wow_2 hi, wow_3 hi, wow_7 hi, wo_0, wo_1, wo_2, wo_3, wo_4, wo_5, wo_6, wo_7, wo_8, ↓reduceIte, set1_ne, ne_eq, Nat.reduceEqDiff, not_false_eq_true, not_true_eq_false, if_true, if_false, ite_Ei, bI_eq0, pk_us, ix4, cx4, ix5, cx5, ix6, cx6, ix7, cx7, ix8, cx8, ix10, cx10, ix11, cx11, ix12, cx12, ix20, cx20, ix24, cx24, ix60, cx60, ix64, cx64, ix100, cx100, ix101, cx101, ix360, cx360, ix600, cx600, hc, s_len hw, h1, er, nb0, bI_f, setAt_self e5]
    | cons c r ih =>
      intro j p' Y hj hk hY hcn
      simp only [List.length_cons] at hj hk
      have h1 : ¬ nI w.length ≤ nI j := nI_ge (by omega) (by omega)
      have hc := (hw.1 Y)
      have ech := s_chr (X := Y) (n := n) (z := z) (j := j) hw (by omega)
      have e0 : w.getD j 0 = c := by
        have := hk 0 (by omega)
        rw [Nat.add_zero] at this
        exact this
      rw [e0] at ech
      have er := w_rs (n := n) (z := z) (c := c) hY
      have e5 := hY.2.2.2.2.1
      rw [pX10_readWord_2]
      unfold pW
      by_cases g : sg tx p' = c
      · rw [decide_eq_true g, if_pos g] at er
        rw [if_pos g]
        have hlt := sg_len g (hcn c List.mem_cons_self)
        have hY' := WS_at (q := p' + 1) hY (by omega) (by have := hY.2.2.2.2.2.2.2; omega)
        have nx := ih (j + 1) (p' + 1) (setAt Y i (p' + 1)) (by omega) (fun k hk' => by have := hk (k + 1) (by omega); rw [show j + (k + 1) = j + 1 + k by omega] at this; exact this) hY' (fun x hx => hcn x (List.mem_cons_of_mem _ hx))
        rw [setAt_2] at nx
        rw [← nx]
        simp (decide := true) only [pX10_readWord_0, pX10_readWord_1, pX10_readWord_3, pX10_readWord_4, pX10_readWord_7, pX10_readWord_10, pX10_readWord_11, pX10_readWord_12, pX10_readWord_13, pX10_readWord_16, pX10_readWord_19, pX10_readWord_22, pX10_readWord_23, pX10_readWord_23t, pX10_readWord_23f, pX10_readWord_24, pX10_readWord_27, pX10_readWord_30, pX10_readWord_31, pX10_readWord_33, pX10_readWord_36, pX10_readWord_36t, pX10_readWord_36f, kd_i0, kd_i1, kd_i2, kd_i3, kd_jA, kd_r5, kd_r6, kd_r7, al_i, al_j, al_r, ai_i, aj_j, aq_r, cls_o, fv_o, sti_i, stj_j, st2_s, st2_n, bnd_some, set1_same, set1_twice, wc_0 hi, wc_1 hi, wc_2 hi, wc_3 hi, wc_4 hi, wc_5 hi, ww_1 hi, ww_2 hi, ww_3 hi, ww_4 hi, ww_5 hi, wow_1 hi, wow_2 hi, wow_3 hi, wow_7 hi, wo_0, wo_1, wo_2, wo_3, wo_4, wo_5, wo_6, wo_7, wo_8, ↓reduceIte, set1_ne, ne_eq, Nat.reduceEqDiff, not_false_eq_true, not_true_eq_false, if_true, if_false, ite_Ei, bI_eq0, pk_us, ix4, cx4, ix5, cx5, ix6, cx6, ix7, cx7, ix8, cx8, ix10, cx10, ix11, cx11, ix12, cx12, ix20, cx20, ix24, cx24, ix60, cx60, ix64, cx64, ix100, cx100, ix101, cx101, ix360, cx360, ix600, cx600, hc, s_len hw, h1, ech, er, bI_t, nI_1]
      · rw [decide_eq_false g, if_neg g] at er
        rw [if_neg g]
        simp (decide := true) only [pX10_readWord_0, pX10_readWord_1, pX10_readWord_3, pX10_readWord_4, pX10_readWord_7, pX10_readWord_10, pX10_readWord_11, pX10_readWord_12, pX10_readWord_13, pX10_readWord_16, pX10_readWord_19, pX10_readWord_22, pX10_readWord_23, pX10_readWord_23t, pX10_readWord_23f, pX10_readWord_24, pX10_readWord_27, pX10_readWord_30, pX10_readWord_31, pX10_readWord_33, pX10_readWord_36, pX10_readWord_36t, pX10_readWord_36f, kd_i0, kd_i1, kd_i2, kd_i3, kd_jA, kd_r5, kd_r6, kd_r7, al_i, al_j, al_r, ai_i, aj_j, aq_r, cls_o, fv_o, sti_i, stj_j, st2_s, st2_n, bnd_some, set1_same, set1_twice, wc_0 hi, wc_1 hi, wc_2 hi, wc_3 hi, wc_4 hi, wc_5 hi, ww_1 hi, ww_2 hi, ww_3 hi, ww_4 hi, ww_5 hi, wow_1 hi, wow_2 hi, wow_3 hi, wow_7 hi, wo_0, wo_1, wo_2, wo_3, wo_4, wo_5, wo_6, wo_7, wo_8, ↓reduceIte, set1_ne, ne_eq, Nat.reduceEqDiff, not_false_eq_true, not_true_eq_false, if_true, if_false, ite_Ei, bI_eq0, pk_us, ix4, cx4, ix5, cx5, ix6, cx6, ix7, cx7, ix8, cx8, ix10, cx10, ix11, cx11, ix12, cx12, ix20, cx20, ix24, cx24, ix60, cx60, ix64, cx64, ix100, cx100, ix101, cx101, ix360, cx360, ix600, cx600, hc, s_len hw, h1, ech, er, bI_f, nb0, setAt_self e5]
  have := loop w 0 p X (by omega) (fun k _ => by rw [Nat.zero_add]) h hnq
  rw [← this]
  simp (decide := true) only [pX10_readWord_0, pX10_readWord_1, pX10_readWord_3, pX10_readWord_4, pX10_readWord_7, pX10_readWord_10, pX10_readWord_11, pX10_readWord_12, pX10_readWord_13, pX10_readWord_16, pX10_readWord_19, pX10_readWord_22, pX10_readWord_23, pX10_readWord_23t, pX10_readWord_23f, pX10_readWord_24, pX10_readWord_27, pX10_readWord_30, pX10_readWord_31, pX10_readWord_33, pX10_readWord_36, pX10_readWord_36t, pX10_readWord_36f, kd_i0, kd_i1, kd_i2, kd_i3, kd_jA, kd_r5, kd_r6, kd_r7, al_i, al_j, al_r, ai_i, aj_j, aq_r, cls_o, fv_o, sti_i, stj_j, st2_s, st2_n, bnd_some, set1_same, set1_twice, wc_0 hi, wc_1 hi, wc_2 hi, wc_3 hi, wc_4 hi, wc_5 hi, ww_1 hi, ww_2 hi, ww_3 hi, ww_4 hi, ww_5 hi, wow_1 hi, wow_2 hi, wow_3 hi, wow_7 hi, wo_0, wo_1, wo_2, wo_3, wo_4, wo_5, wo_6, wo_7, wo_8, ↓reduceIte, set1_ne, ne_eq, Nat.reduceEqDiff, not_false_eq_true, not_true_eq_false, if_true, if_false, ite_Ei, bI_eq0, pk_us, ix4, cx4, ix5, cx5, ix6, cx6, ix7, cx7, ix8, cx8, ix10, cx10, ix11, cx11, ix12, cx12, ix20, cx20, ix24, cx24, ix60, cx60, ix64, cx64, ix100, cx100, ix101, cx101, ix360, cx360, ix600, cx600]
  rfl
end WORDS
/-- which fact a letter names; 6: none -/
def plN (c : Int32) : Nat := if c = 112 then 0 else if c = 107 then 1 else if c = 118 then 2 else if c = 104 then 3 else if c = 114 then 4 else if c = 100 then 5 else 6
def plI (c : Int32) : Int32 := if plN c = 6 then -1 else nI (plN c)
theorem wL_0 : wdL.getD 0 0 = 112 := rfl
theorem wL_1 : wdL.getD 1 0 = 107 := rfl
theorem wL_2 : wdL.getD 2 0 = 118 := rfl
theorem wL_3 : wdL.getD 3 0 = 104 := rfl
theorem wL_4 : wdL.getD 4 0 = 114 := rfl
theorem wL_5 : wdL.getD 5 0 = 100 := rfl
theorem s_idx {K : KT} {X : Nat → Nat → Int32} {n z a : Nat} (ha : a < 128) : E 4 mJ0_indexOf_0f7a4 0 [.ref 5, .int (nI a)] [] (hp K X, n, z) = some (some (.int (plI (nI a))), (hp K X, n, z)) := by
  obtain ⟨n1, n2, n3, n4⟩ := nc_128 ⟨a, ha⟩
  simp only at n4
  have a0 : ¬ nI a < 0 := nI_pos (by omega)
  have a1 : ¬ (255 : Int32) < nI a := Int32.not_lt.mpr (nI_le (b := 255) (by omega) (by decide))
  have h5 : cls (hp K X 5) = 20 := rfl
  have hf : fv (hp K X 5) 0 = .ref 9 := rfl
  have hf1 : fv (hp K X 5) 1 = .int 0 := rfl
  have hk : kd (hp K X 9) = 11 := rfl
  have hal : al (hp K X 9) = 6 := rfl
  have hd : ∀ j, ai (hp K X 9) j = wdL.getD j 0 := fun j => rfl
  have e6 : nI 6 = 6 := rfl
  unfold plI plN
  by_cases q0 : nI a = 112
  · simp (decide := true) only [pJ0_indexOf_0f7a4_0, pJ0_indexOf_0f7a4_1, pJ0_indexOf_0f7a4_2, pJ0_indexOf_0f7a4_3, pJ0_indexOf_0f7a4_6, kd_i0, kd_i1, kd_i2, kd_i3, kd_jA, kd_r5, kd_r6, kd_r7, al_i, al_j, al_r, ai_i, aj_j, aq_r, cls_o, fv_o, sti_i, stj_j, st2_s, st2_n, bnd_some, set1_same, set1_twice, ↓reduceIte, set1_ne, ne_eq, Nat.reduceEqDiff, not_false_eq_true, not_true_eq_false, if_true, if_false, ite_Ei, bI_eq0, pk_us, ix4, cx4, ix5, cx5, ix6, cx6, ix7, cx7, ix8, cx8, ix10, cx10, ix11, cx11, ix12, cx12, ix20, cx20, ix24, cx24, ix60, cx60, ix64, cx64, ix100, cx100, ix101, cx101, ix360, cx360, ix600, cx600, pJ0_indexOf_7cf53_0, pJ0_indexOf_7cf53_1, pJ0_indexOf_7cf53_4, pJ0_indexOf_7cf53_7, pJ0_indexOf_7cf53_8, pJ0_indexOf_7cf53_11, pJ0_indexOf_7cf53_12, pJ0_indexOf_7cf53_13, pJ0_indexOf_7cf53_14, pJ0_indexOf_7cf53_17, pJ0_indexOf_7cf53_20, pJ0_indexOf_7cf53_23, pJ0_indexOf_7cf53_24, pJ0_indexOf_7cf53_27, pJ0_indexOf_7cf53_28, pJ0_indexOf_7cf53_29, pJ0_indexOf_7cf53_30, pJ0_indexOf_7cf53_36, pJ0_isLatin1_aae02_0, pJ0_isLatin1_aae02_3, pJ0_isLatin1_aae02_6, pJ0_isLatin1_aae02_7, pJ0_isLatin1_aae02_10, pJ0_isLatin1_aae02_13, pJ0_isLatin1_aae02_14, pJ0_isLatin1_aae02_17, pJ0_isLatin1_aae02_18, pJ0_isLatin1_aae02_18t, pJ0_isLatin1_aae02_18f, pJ0_length_8abf5_0, pJ0_length_8abf5_1, pJ0_length_8abf5_4, pJ0_length_8abf5_5, pJ0_length_8abf5_6, pJ0_length_8abf5_9, pJ0_length_8abf5_10, pJ0_coder_7d493_0, pJ0_coder_7d493_3, pJ0_coder_7d493_6, pJ0_coder_7d493_7, pJ0_coder_7d493_10, pJ0_coder_7d493_13, pJ0_coder_7d493_14, pJ1_indexOf_4cfef_0, pJ1_indexOf_4cfef_1, pJ1_indexOf_4cfef_4, pJ1_indexOf_4cfef_7, pJ1_indexOf_4cfef_8, pJ1_indexOf_4cfef_9, pJ1_indexOf_4cfef_10, pJ1_indexOf_4cfef_11, pJ1_indexOf_4cfef_14, pJ1_indexOf_4cfef_15, pJ1_indexOf_4cfef_16, pJ1_indexOf_4cfef_17, pJ1_indexOf_4cfef_18, pJ1_indexOf_4cfef_21, pJ1_indexOf_4cfef_22, pJ1_indexOf_4cfef_23, pJ1_indexOf_4cfef_24, pJ1_indexOf_4cfef_27, pJ1_indexOf_4cfef_28, pJ1_indexOf_4cfef_29, pJ1_indexOf_4cfef_30, pJ1_indexOf_4cfef_31, pJ1_indexOf_4cfef_32, pJ1_indexOf_4cfef_33, pJ1_indexOf_4cfef_36, pJ1_canEncode_9a6ad_0, pJ1_canEncode_9a6ad_1, pJ1_canEncode_9a6ad_4, pJ1_canEncode_9a6ad_5, pJ1_canEncode_9a6ad_8, pJ1_canEncode_9a6ad_11, pJ1_canEncode_9a6ad_12, pJ1_canEncode_9a6ad_15, pJ1_canEncode_9a6ad_16, pJ1_canEncode_9a6ad_16t, pJ1_canEncode_9a6ad_16f, pJ1_indexOfChar_4cfef_0, pJ1_indexOfChar_4cfef_1, pJ1_indexOfChar_4cfef_2, pJ1_indexOfChar_4cfef_4, pJ1_indexOfChar_4cfef_5, pJ1_indexOfChar_4cfef_7, pJ1_indexOfChar_4cfef_9, pJ1_indexOfChar_4cfef_10, pJ1_indexOfChar_4cfef_13, pJ1_indexOfChar_4cfef_14, pJ1_indexOfChar_4cfef_16, pJ1_indexOfChar_4cfef_17, pJ1_indexOfChar_4cfef_19, pJ1_indexOfChar_4cfef_22, pJ1_indexOfChar_4cfef_24, pJ1_indexOfChar_4cfef_25, pJ1_indexOfChar_4cfef_28, pJ1_indexOfChar_4cfef_31, pJ1_indexOfChar_4cfef_32, h5, hf, hf1, hk, hal, hd, ofNat_nI, e6, pc14, sh0, a0, a1, n4, q0, cxl_0, wL_0]
    try rfl
  by_cases q1 : nI a = 107
  · simp (decide := true) only [pJ0_indexOf_0f7a4_0, pJ0_indexOf_0f7a4_1, pJ0_indexOf_0f7a4_2, pJ0_indexOf_0f7a4_3, pJ0_indexOf_0f7a4_6, kd_i0, kd_i1, kd_i2, kd_i3, kd_jA, kd_r5, kd_r6, kd_r7, al_i, al_j, al_r, ai_i, aj_j, aq_r, cls_o, fv_o, sti_i, stj_j, st2_s, st2_n, bnd_some, set1_same, set1_twice, ↓reduceIte, set1_ne, ne_eq, Nat.reduceEqDiff, not_false_eq_true, not_true_eq_false, if_true, if_false, ite_Ei, bI_eq0, pk_us, ix4, cx4, ix5, cx5, ix6, cx6, ix7, cx7, ix8, cx8, ix10, cx10, ix11, cx11, ix12, cx12, ix20, cx20, ix24, cx24, ix60, cx60, ix64, cx64, ix100, cx100, ix101, cx101, ix360, cx360, ix600, cx600, pJ0_indexOf_7cf53_0, pJ0_indexOf_7cf53_1, pJ0_indexOf_7cf53_4, pJ0_indexOf_7cf53_7, pJ0_indexOf_7cf53_8, pJ0_indexOf_7cf53_11, pJ0_indexOf_7cf53_12, pJ0_indexOf_7cf53_13, pJ0_indexOf_7cf53_14, pJ0_indexOf_7cf53_17, pJ0_indexOf_7cf53_20, pJ0_indexOf_7cf53_23, pJ0_indexOf_7cf53_24, pJ0_indexOf_7cf53_27, pJ0_indexOf_7cf53_28, pJ0_indexOf_7cf53_29, pJ0_indexOf_7cf53_30, pJ0_indexOf_7cf53_36, pJ0_isLatin1_aae02_0, pJ0_isLatin1_aae02_3, pJ0_isLatin1_aae02_6, pJ0_isLatin1_aae02_7, pJ0_isLatin1_aae02_10, pJ0_isLatin1_aae02_13, pJ0_isLatin1_aae02_14, pJ0_isLatin1_aae02_17, pJ0_isLatin1_aae02_18, pJ0_isLatin1_aae02_18t, pJ0_isLatin1_aae02_18f, pJ0_length_8abf5_0, pJ0_length_8abf5_1, pJ0_length_8abf5_4, pJ0_length_8abf5_5, pJ0_length_8abf5_6, pJ0_length_8abf5_9, pJ0_length_8abf5_10, pJ0_coder_7d493_0, pJ0_coder_7d493_3, pJ0_coder_7d493_6, pJ0_coder_7d493_7, pJ0_coder_7d493_10, pJ0_coder_7d493_13, pJ0_coder_7d493_14, pJ1_indexOf_4cfef_0, pJ1_indexOf_4cfef_1, pJ1_indexOf_4cfef_4, pJ1_indexOf_4cfef_7, pJ1_indexOf_4cfef_8, pJ1_indexOf_4cfef_9, pJ1_indexOf_4cfef_10, pJ1_indexOf_4cfef_11, pJ1_indexOf_4cfef_14, pJ1_indexOf_4cfef_15, pJ1_indexOf_4cfef_16, pJ1_indexOf_4cfef_17, pJ1_indexOf_4cfef_18, pJ1_indexOf_4cfef_21, pJ1_indexOf_4cfef_22, pJ1_indexOf_4cfef_23, pJ1_indexOf_4cfef_24, pJ1_indexOf_4cfef_27, pJ1_indexOf_4cfef_28, pJ1_indexOf_4cfef_29, pJ1_indexOf_4cfef_30, pJ1_indexOf_4cfef_31, pJ1_indexOf_4cfef_32, pJ1_indexOf_4cfef_33, pJ1_indexOf_4cfef_36, pJ1_canEncode_9a6ad_0, pJ1_canEncode_9a6ad_1, pJ1_canEncode_9a6ad_4, pJ1_canEncode_9a6ad_5, pJ1_canEncode_9a6ad_8, pJ1_canEncode_9a6ad_11, pJ1_canEncode_9a6ad_12, pJ1_canEncode_9a6ad_15, pJ1_canEncode_9a6ad_16, pJ1_canEncode_9a6ad_16t, pJ1_canEncode_9a6ad_16f, pJ1_indexOfChar_4cfef_0, pJ1_indexOfChar_4cfef_1, pJ1_indexOfChar_4cfef_2, pJ1_indexOfChar_4cfef_4, pJ1_indexOfChar_4cfef_5, pJ1_indexOfChar_4cfef_7, pJ1_indexOfChar_4cfef_9, pJ1_indexOfChar_4cfef_10, pJ1_indexOfChar_4cfef_13, pJ1_indexOfChar_4cfef_14, pJ1_indexOfChar_4cfef_16, pJ1_indexOfChar_4cfef_17, pJ1_indexOfChar_4cfef_19, pJ1_indexOfChar_4cfef_22, pJ1_indexOfChar_4cfef_24, pJ1_indexOfChar_4cfef_25, pJ1_indexOfChar_4cfef_28, pJ1_indexOfChar_4cfef_31, pJ1_indexOfChar_4cfef_32, h5, hf, hf1, hk, hal, hd, ofNat_nI, e6, pc14, sh0, a0, a1, n4, q1, cxl_0, cxl_1, wL_0, wL_1]
    try rfl
  by_cases q2 : nI a = 118
  · simp (decide := true) only [pJ0_indexOf_0f7a4_0, pJ0_indexOf_0f7a4_1, pJ0_indexOf_0f7a4_2, pJ0_indexOf_0f7a4_3, pJ0_indexOf_0f7a4_6, kd_i0, kd_i1, kd_i2, kd_i3, kd_jA, kd_r5, kd_r6, kd_r7, al_i, al_j, al_r, ai_i, aj_j, aq_r, cls_o, fv_o, sti_i, stj_j, st2_s, st2_n, bnd_some, set1_same, set1_twice, ↓reduceIte, set1_ne, ne_eq, Nat.reduceEqDiff, not_false_eq_true, not_true_eq_false, if_true, if_false, ite_Ei, bI_eq0, pk_us, ix4, cx4, ix5, cx5, ix6, cx6, ix7, cx7, ix8, cx8, ix10, cx10, ix11, cx11, ix12, cx12, ix20, cx20, ix24, cx24, ix60, cx60, ix64, cx64, ix100, cx100, ix101, cx101, ix360, cx360, ix600, cx600, pJ0_indexOf_7cf53_0, pJ0_indexOf_7cf53_1, pJ0_indexOf_7cf53_4, pJ0_indexOf_7cf53_7, pJ0_indexOf_7cf53_8, pJ0_indexOf_7cf53_11, pJ0_indexOf_7cf53_12, pJ0_indexOf_7cf53_13, pJ0_indexOf_7cf53_14, pJ0_indexOf_7cf53_17, pJ0_indexOf_7cf53_20, pJ0_indexOf_7cf53_23, pJ0_indexOf_7cf53_24, pJ0_indexOf_7cf53_27, pJ0_indexOf_7cf53_28, pJ0_indexOf_7cf53_29, pJ0_indexOf_7cf53_30, pJ0_indexOf_7cf53_36, pJ0_isLatin1_aae02_0, pJ0_isLatin1_aae02_3, pJ0_isLatin1_aae02_6, pJ0_isLatin1_aae02_7, pJ0_isLatin1_aae02_10, pJ0_isLatin1_aae02_13, pJ0_isLatin1_aae02_14, pJ0_isLatin1_aae02_17, pJ0_isLatin1_aae02_18, pJ0_isLatin1_aae02_18t, pJ0_isLatin1_aae02_18f, pJ0_length_8abf5_0, pJ0_length_8abf5_1, pJ0_length_8abf5_4, pJ0_length_8abf5_5, pJ0_length_8abf5_6, pJ0_length_8abf5_9, pJ0_length_8abf5_10, pJ0_coder_7d493_0, pJ0_coder_7d493_3, pJ0_coder_7d493_6, pJ0_coder_7d493_7, pJ0_coder_7d493_10, pJ0_coder_7d493_13, pJ0_coder_7d493_14, pJ1_indexOf_4cfef_0, pJ1_indexOf_4cfef_1, pJ1_indexOf_4cfef_4, pJ1_indexOf_4cfef_7, pJ1_indexOf_4cfef_8, pJ1_indexOf_4cfef_9, pJ1_indexOf_4cfef_10, pJ1_indexOf_4cfef_11, pJ1_indexOf_4cfef_14, pJ1_indexOf_4cfef_15, pJ1_indexOf_4cfef_16, pJ1_indexOf_4cfef_17, pJ1_indexOf_4cfef_18, pJ1_indexOf_4cfef_21, pJ1_indexOf_4cfef_22, pJ1_indexOf_4cfef_23, pJ1_indexOf_4cfef_24, pJ1_indexOf_4cfef_27, pJ1_indexOf_4cfef_28, pJ1_indexOf_4cfef_29, pJ1_indexOf_4cfef_30, pJ1_indexOf_4cfef_31, pJ1_indexOf_4cfef_32, pJ1_indexOf_4cfef_33, pJ1_indexOf_4cfef_36, pJ1_canEncode_9a6ad_0, pJ1_canEncode_9a6ad_1, pJ1_canEncode_9a6ad_4, pJ1_canEncode_9a6ad_5, pJ1_canEncode_9a6ad_8, pJ1_canEncode_9a6ad_11, pJ1_canEncode_9a6ad_12, pJ1_canEncode_9a6ad_15, pJ1_canEncode_9a6ad_16, pJ1_canEncode_9a6ad_16t, pJ1_canEncode_9a6ad_16f, pJ1_indexOfChar_4cfef_0, pJ1_indexOfChar_4cfef_1, pJ1_indexOfChar_4cfef_2, pJ1_indexOfChar_4cfef_4, pJ1_indexOfChar_4cfef_5, pJ1_indexOfChar_4cfef_7, pJ1_indexOfChar_4cfef_9, pJ1_indexOfChar_4cfef_10, pJ1_indexOfChar_4cfef_13, pJ1_indexOfChar_4cfef_14, pJ1_indexOfChar_4cfef_16, pJ1_indexOfChar_4cfef_17, pJ1_indexOfChar_4cfef_19, pJ1_indexOfChar_4cfef_22, pJ1_indexOfChar_4cfef_24, pJ1_indexOfChar_4cfef_25, pJ1_indexOfChar_4cfef_28, pJ1_indexOfChar_4cfef_31, pJ1_indexOfChar_4cfef_32, h5, hf, hf1, hk, hal, hd, ofNat_nI, e6, pc14, sh0, a0, a1, n4, q2, cxl_0, cxl_1, cxl_2, wL_0, wL_1, wL_2]
    try rfl
  by_cases q3 : nI a = 104
  · simp (decide := true) only [pJ0_indexOf_0f7a4_0, pJ0_indexOf_0f7a4_1, pJ0_indexOf_0f7a4_2, pJ0_indexOf_0f7a4_3, pJ0_indexOf_0f7a4_6, kd_i0, kd_i1, kd_i2, kd_i3, kd_jA, kd_r5, kd_r6, kd_r7, al_i, al_j, al_r, ai_i, aj_j, aq_r, cls_o, fv_o, sti_i, stj_j, st2_s, st2_n, bnd_some, set1_same, set1_twice, ↓reduceIte, set1_ne, ne_eq, Nat.reduceEqDiff, not_false_eq_true, not_true_eq_false, if_true, if_false, ite_Ei, bI_eq0, pk_us, ix4, cx4, ix5, cx5, ix6, cx6, ix7, cx7, ix8, cx8, ix10, cx10, ix11, cx11, ix12, cx12, ix20, cx20, ix24, cx24, ix60, cx60, ix64, cx64, ix100, cx100, ix101, cx101, ix360, cx360, ix600, cx600, pJ0_indexOf_7cf53_0, pJ0_indexOf_7cf53_1, pJ0_indexOf_7cf53_4, pJ0_indexOf_7cf53_7, pJ0_indexOf_7cf53_8, pJ0_indexOf_7cf53_11, pJ0_indexOf_7cf53_12, pJ0_indexOf_7cf53_13, pJ0_indexOf_7cf53_14, pJ0_indexOf_7cf53_17, pJ0_indexOf_7cf53_20, pJ0_indexOf_7cf53_23, pJ0_indexOf_7cf53_24, pJ0_indexOf_7cf53_27, pJ0_indexOf_7cf53_28, pJ0_indexOf_7cf53_29, pJ0_indexOf_7cf53_30, pJ0_indexOf_7cf53_36, pJ0_isLatin1_aae02_0, pJ0_isLatin1_aae02_3, pJ0_isLatin1_aae02_6, pJ0_isLatin1_aae02_7, pJ0_isLatin1_aae02_10, pJ0_isLatin1_aae02_13, pJ0_isLatin1_aae02_14, pJ0_isLatin1_aae02_17, pJ0_isLatin1_aae02_18, pJ0_isLatin1_aae02_18t, pJ0_isLatin1_aae02_18f, pJ0_length_8abf5_0, pJ0_length_8abf5_1, pJ0_length_8abf5_4, pJ0_length_8abf5_5, pJ0_length_8abf5_6, pJ0_length_8abf5_9, pJ0_length_8abf5_10, pJ0_coder_7d493_0, pJ0_coder_7d493_3, pJ0_coder_7d493_6, pJ0_coder_7d493_7, pJ0_coder_7d493_10, pJ0_coder_7d493_13, pJ0_coder_7d493_14, pJ1_indexOf_4cfef_0, pJ1_indexOf_4cfef_1, pJ1_indexOf_4cfef_4, pJ1_indexOf_4cfef_7, pJ1_indexOf_4cfef_8, pJ1_indexOf_4cfef_9, pJ1_indexOf_4cfef_10, pJ1_indexOf_4cfef_11, pJ1_indexOf_4cfef_14, pJ1_indexOf_4cfef_15, pJ1_indexOf_4cfef_16, pJ1_indexOf_4cfef_17, pJ1_indexOf_4cfef_18, pJ1_indexOf_4cfef_21, pJ1_indexOf_4cfef_22, pJ1_indexOf_4cfef_23, pJ1_indexOf_4cfef_24, pJ1_indexOf_4cfef_27, pJ1_indexOf_4cfef_28, pJ1_indexOf_4cfef_29, pJ1_indexOf_4cfef_30, pJ1_indexOf_4cfef_31, pJ1_indexOf_4cfef_32, pJ1_indexOf_4cfef_33, pJ1_indexOf_4cfef_36, pJ1_canEncode_9a6ad_0, pJ1_canEncode_9a6ad_1, pJ1_canEncode_9a6ad_4, pJ1_canEncode_9a6ad_5, pJ1_canEncode_9a6ad_8, pJ1_canEncode_9a6ad_11, pJ1_canEncode_9a6ad_12, pJ1_canEncode_9a6ad_15, pJ1_canEncode_9a6ad_16, pJ1_canEncode_9a6ad_16t, pJ1_canEncode_9a6ad_16f, pJ1_indexOfChar_4cfef_0, pJ1_indexOfChar_4cfef_1, pJ1_indexOfChar_4cfef_2, pJ1_indexOfChar_4cfef_4, pJ1_indexOfChar_4cfef_5, pJ1_indexOfChar_4cfef_7, pJ1_indexOfChar_4cfef_9, pJ1_indexOfChar_4cfef_10, pJ1_indexOfChar_4cfef_13, pJ1_indexOfChar_4cfef_14, pJ1_indexOfChar_4cfef_16, pJ1_indexOfChar_4cfef_17, pJ1_indexOfChar_4cfef_19, pJ1_indexOfChar_4cfef_22, pJ1_indexOfChar_4cfef_24, pJ1_indexOfChar_4cfef_25, pJ1_indexOfChar_4cfef_28, pJ1_indexOfChar_4cfef_31, pJ1_indexOfChar_4cfef_32, h5, hf, hf1, hk, hal, hd, ofNat_nI, e6, pc14, sh0, a0, a1, n4, q3, cxl_0, cxl_1, cxl_2, cxl_3, wL_0, wL_1, wL_2, wL_3]
    try rfl
  by_cases q4 : nI a = 114
  · simp (decide := true) only [pJ0_indexOf_0f7a4_0, pJ0_indexOf_0f7a4_1, pJ0_indexOf_0f7a4_2, pJ0_indexOf_0f7a4_3, pJ0_indexOf_0f7a4_6, kd_i0, kd_i1, kd_i2, kd_i3, kd_jA, kd_r5, kd_r6, kd_r7, al_i, al_j, al_r, ai_i, aj_j, aq_r, cls_o, fv_o, sti_i, stj_j, st2_s, st2_n, bnd_some, set1_same, set1_twice, ↓reduceIte, set1_ne, ne_eq, Nat.reduceEqDiff, not_false_eq_true, not_true_eq_false, if_true, if_false, ite_Ei, bI_eq0, pk_us, ix4, cx4, ix5, cx5, ix6, cx6, ix7, cx7, ix8, cx8, ix10, cx10, ix11, cx11, ix12, cx12, ix20, cx20, ix24, cx24, ix60, cx60, ix64, cx64, ix100, cx100, ix101, cx101, ix360, cx360, ix600, cx600, pJ0_indexOf_7cf53_0, pJ0_indexOf_7cf53_1, pJ0_indexOf_7cf53_4, pJ0_indexOf_7cf53_7, pJ0_indexOf_7cf53_8, pJ0_indexOf_7cf53_11, pJ0_indexOf_7cf53_12, pJ0_indexOf_7cf53_13, pJ0_indexOf_7cf53_14, pJ0_indexOf_7cf53_17, pJ0_indexOf_7cf53_20, pJ0_indexOf_7cf53_23, pJ0_indexOf_7cf53_24, pJ0_indexOf_7cf53_27, pJ0_indexOf_7cf53_28, pJ0_indexOf_7cf53_29, pJ0_indexOf_7cf53_30, pJ0_indexOf_7cf53_36, pJ0_isLatin1_aae02_0, pJ0_isLatin1_aae02_3, pJ0_isLatin1_aae02_6, pJ0_isLatin1_aae02_7, pJ0_isLatin1_aae02_10, pJ0_isLatin1_aae02_13, pJ0_isLatin1_aae02_14, pJ0_isLatin1_aae02_17, pJ0_isLatin1_aae02_18, pJ0_isLatin1_aae02_18t, pJ0_isLatin1_aae02_18f, pJ0_length_8abf5_0, pJ0_length_8abf5_1, pJ0_length_8abf5_4, pJ0_length_8abf5_5, pJ0_length_8abf5_6, pJ0_length_8abf5_9, pJ0_length_8abf5_10, pJ0_coder_7d493_0, pJ0_coder_7d493_3, pJ0_coder_7d493_6, pJ0_coder_7d493_7, pJ0_coder_7d493_10, pJ0_coder_7d493_13, pJ0_coder_7d493_14, pJ1_indexOf_4cfef_0, pJ1_indexOf_4cfef_1, pJ1_indexOf_4cfef_4, pJ1_indexOf_4cfef_7, pJ1_indexOf_4cfef_8, pJ1_indexOf_4cfef_9, pJ1_indexOf_4cfef_10, pJ1_indexOf_4cfef_11, pJ1_indexOf_4cfef_14, pJ1_indexOf_4cfef_15, pJ1_indexOf_4cfef_16, pJ1_indexOf_4cfef_17, pJ1_indexOf_4cfef_18, pJ1_indexOf_4cfef_21, pJ1_indexOf_4cfef_22, pJ1_indexOf_4cfef_23, pJ1_indexOf_4cfef_24, pJ1_indexOf_4cfef_27, pJ1_indexOf_4cfef_28, pJ1_indexOf_4cfef_29, pJ1_indexOf_4cfef_30, pJ1_indexOf_4cfef_31, pJ1_indexOf_4cfef_32, pJ1_indexOf_4cfef_33, pJ1_indexOf_4cfef_36, pJ1_canEncode_9a6ad_0, pJ1_canEncode_9a6ad_1, pJ1_canEncode_9a6ad_4, pJ1_canEncode_9a6ad_5, pJ1_canEncode_9a6ad_8, pJ1_canEncode_9a6ad_11, pJ1_canEncode_9a6ad_12, pJ1_canEncode_9a6ad_15, pJ1_canEncode_9a6ad_16, pJ1_canEncode_9a6ad_16t, pJ1_canEncode_9a6ad_16f, pJ1_indexOfChar_4cfef_0, pJ1_indexOfChar_4cfef_1, pJ1_indexOfChar_4cfef_2, pJ1_indexOfChar_4cfef_4, pJ1_indexOfChar_4cfef_5, pJ1_indexOfChar_4cfef_7, pJ1_indexOfChar_4cfef_9, pJ1_indexOfChar_4cfef_10, pJ1_indexOfChar_4cfef_13, pJ1_indexOfChar_4cfef_14, pJ1_indexOfChar_4cfef_16, pJ1_indexOfChar_4cfef_17, pJ1_indexOfChar_4cfef_19, pJ1_indexOfChar_4cfef_22, pJ1_indexOfChar_4cfef_24, pJ1_indexOfChar_4cfef_25, pJ1_indexOfChar_4cfef_28, pJ1_indexOfChar_4cfef_31, pJ1_indexOfChar_4cfef_32, h5, hf, hf1, hk, hal, hd, ofNat_nI, e6, pc14, sh0, a0, a1, n4, q4, cxl_0, cxl_1, cxl_2, cxl_3, cxl_4, wL_0, wL_1, wL_2, wL_3, wL_4]
    try rfl
  by_cases q5 : nI a = 100
  · simp (decide := true) only [pJ0_indexOf_0f7a4_0, pJ0_indexOf_0f7a4_1, pJ0_indexOf_0f7a4_2, pJ0_indexOf_0f7a4_3, pJ0_indexOf_0f7a4_6, kd_i0, kd_i1, kd_i2, kd_i3, kd_jA, kd_r5, kd_r6, kd_r7, al_i, al_j, al_r, ai_i, aj_j, aq_r, cls_o, fv_o, sti_i, stj_j, st2_s, st2_n, bnd_some, set1_same, set1_twice, ↓reduceIte, set1_ne, ne_eq, Nat.reduceEqDiff, not_false_eq_true, not_true_eq_false, if_true, if_false, ite_Ei, bI_eq0, pk_us, ix4, cx4, ix5, cx5, ix6, cx6, ix7, cx7, ix8, cx8, ix10, cx10, ix11, cx11, ix12, cx12, ix20, cx20, ix24, cx24, ix60, cx60, ix64, cx64, ix100, cx100, ix101, cx101, ix360, cx360, ix600, cx600, pJ0_indexOf_7cf53_0, pJ0_indexOf_7cf53_1, pJ0_indexOf_7cf53_4, pJ0_indexOf_7cf53_7, pJ0_indexOf_7cf53_8, pJ0_indexOf_7cf53_11, pJ0_indexOf_7cf53_12, pJ0_indexOf_7cf53_13, pJ0_indexOf_7cf53_14, pJ0_indexOf_7cf53_17, pJ0_indexOf_7cf53_20, pJ0_indexOf_7cf53_23, pJ0_indexOf_7cf53_24, pJ0_indexOf_7cf53_27, pJ0_indexOf_7cf53_28, pJ0_indexOf_7cf53_29, pJ0_indexOf_7cf53_30, pJ0_indexOf_7cf53_36, pJ0_isLatin1_aae02_0, pJ0_isLatin1_aae02_3, pJ0_isLatin1_aae02_6, pJ0_isLatin1_aae02_7, pJ0_isLatin1_aae02_10, pJ0_isLatin1_aae02_13, pJ0_isLatin1_aae02_14, pJ0_isLatin1_aae02_17, pJ0_isLatin1_aae02_18, pJ0_isLatin1_aae02_18t, pJ0_isLatin1_aae02_18f, pJ0_length_8abf5_0, pJ0_length_8abf5_1, pJ0_length_8abf5_4, pJ0_length_8abf5_5, pJ0_length_8abf5_6, pJ0_length_8abf5_9, pJ0_length_8abf5_10, pJ0_coder_7d493_0, pJ0_coder_7d493_3, pJ0_coder_7d493_6, pJ0_coder_7d493_7, pJ0_coder_7d493_10, pJ0_coder_7d493_13, pJ0_coder_7d493_14, pJ1_indexOf_4cfef_0, pJ1_indexOf_4cfef_1, pJ1_indexOf_4cfef_4, pJ1_indexOf_4cfef_7, pJ1_indexOf_4cfef_8, pJ1_indexOf_4cfef_9, pJ1_indexOf_4cfef_10, pJ1_indexOf_4cfef_11, pJ1_indexOf_4cfef_14, pJ1_indexOf_4cfef_15, pJ1_indexOf_4cfef_16, pJ1_indexOf_4cfef_17, pJ1_indexOf_4cfef_18, pJ1_indexOf_4cfef_21, pJ1_indexOf_4cfef_22, pJ1_indexOf_4cfef_23, pJ1_indexOf_4cfef_24, pJ1_indexOf_4cfef_27, pJ1_indexOf_4cfef_28, pJ1_indexOf_4cfef_29, pJ1_indexOf_4cfef_30, pJ1_indexOf_4cfef_31, pJ1_indexOf_4cfef_32, pJ1_indexOf_4cfef_33, pJ1_indexOf_4cfef_36, pJ1_canEncode_9a6ad_0, pJ1_canEncode_9a6ad_1, pJ1_canEncode_9a6ad_4, pJ1_canEncode_9a6ad_5, pJ1_canEncode_9a6ad_8, pJ1_canEncode_9a6ad_11, pJ1_canEncode_9a6ad_12, pJ1_canEncode_9a6ad_15, pJ1_canEncode_9a6ad_16, pJ1_canEncode_9a6ad_16t, pJ1_canEncode_9a6ad_16f, pJ1_indexOfChar_4cfef_0, pJ1_indexOfChar_4cfef_1, pJ1_indexOfChar_4cfef_2, pJ1_indexOfChar_4cfef_4, pJ1_indexOfChar_4cfef_5, pJ1_indexOfChar_4cfef_7, pJ1_indexOfChar_4cfef_9, pJ1_indexOfChar_4cfef_10, pJ1_indexOfChar_4cfef_13, pJ1_indexOfChar_4cfef_14, pJ1_indexOfChar_4cfef_16, pJ1_indexOfChar_4cfef_17, pJ1_indexOfChar_4cfef_19, pJ1_indexOfChar_4cfef_22, pJ1_indexOfChar_4cfef_24, pJ1_indexOfChar_4cfef_25, pJ1_indexOfChar_4cfef_28, pJ1_indexOfChar_4cfef_31, pJ1_indexOfChar_4cfef_32, h5, hf, hf1, hk, hal, hd, ofNat_nI, e6, pc14, sh0, a0, a1, n4, q5, cxl_0, cxl_1, cxl_2, cxl_3, cxl_4, cxl_5, wL_0, wL_1, wL_2, wL_3, wL_4, wL_5]
    try rfl
  · have r0 : ¬ (112 : Int32) = nI a := fun q => q0 q.symm
    have r1 : ¬ (107 : Int32) = nI a := fun q => q1 q.symm
    have r2 : ¬ (118 : Int32) = nI a := fun q => q2 q.symm
    have r3 : ¬ (104 : Int32) = nI a := fun q => q3 q.symm
    have r4 : ¬ (114 : Int32) = nI a := fun q => q4 q.symm
    have r5 : ¬ (100 : Int32) = nI a := fun q => q5 q.symm
    have k1 : wdL.getD (cx ((0 : Int32) + 1)) 0 = 107 := by decide
    have k2 : wdL.getD (cx ((0 : Int32) + 1 + 1)) 0 = 118 := by decide
    have k3 : wdL.getD (cx ((0 : Int32) + 1 + 1 + 1)) 0 = 104 := by decide
    have k4 : wdL.getD (cx ((0 : Int32) + 1 + 1 + 1 + 1)) 0 = 114 := by decide
    have k5 : wdL.getD (cx ((0 : Int32) + 1 + 1 + 1 + 1 + 1)) 0 = 100 := by decide
    simp (decide := true) only [pJ0_indexOf_0f7a4_0, pJ0_indexOf_0f7a4_1, pJ0_indexOf_0f7a4_2, pJ0_indexOf_0f7a4_3, pJ0_indexOf_0f7a4_6, kd_i0, kd_i1, kd_i2, kd_i3, kd_jA, kd_r5, kd_r6, kd_r7, al_i, al_j, al_r, ai_i, aj_j, aq_r, cls_o, fv_o, sti_i, stj_j, st2_s, st2_n, bnd_some, set1_same, set1_twice, ↓reduceIte, set1_ne, ne_eq, Nat.reduceEqDiff, not_false_eq_true, not_true_eq_false, if_true, if_false, ite_Ei, bI_eq0, pk_us, ix4, cx4, ix5, cx5, ix6, cx6, ix7, cx7, ix8, cx8, ix10, cx10, ix11, cx11, ix12, cx12, ix20, cx20, ix24, cx24, ix60, cx60, ix64, cx64, ix100, cx100, ix101, cx101, ix360, cx360, ix600, cx600, pJ0_indexOf_7cf53_0, pJ0_indexOf_7cf53_1, pJ0_indexOf_7cf53_4, pJ0_indexOf_7cf53_7, pJ0_indexOf_7cf53_8, pJ0_indexOf_7cf53_11, pJ0_indexOf_7cf53_12, pJ0_indexOf_7cf53_13, pJ0_indexOf_7cf53_14, pJ0_indexOf_7cf53_17, pJ0_indexOf_7cf53_20, pJ0_indexOf_7cf53_23, pJ0_indexOf_7cf53_24, pJ0_indexOf_7cf53_27, pJ0_indexOf_7cf53_28, pJ0_indexOf_7cf53_29, pJ0_indexOf_7cf53_30, pJ0_indexOf_7cf53_36, pJ0_isLatin1_aae02_0, pJ0_isLatin1_aae02_3, pJ0_isLatin1_aae02_6, pJ0_isLatin1_aae02_7, pJ0_isLatin1_aae02_10, pJ0_isLatin1_aae02_13, pJ0_isLatin1_aae02_14, pJ0_isLatin1_aae02_17, pJ0_isLatin1_aae02_18, pJ0_isLatin1_aae02_18t, pJ0_isLatin1_aae02_18f, pJ0_length_8abf5_0, pJ0_length_8abf5_1, pJ0_length_8abf5_4, pJ0_length_8abf5_5, pJ0_length_8abf5_6, pJ0_length_8abf5_9, pJ0_length_8abf5_10, pJ0_coder_7d493_0, pJ0_coder_7d493_3, pJ0_coder_7d493_6, pJ0_coder_7d493_7, pJ0_coder_7d493_10, pJ0_coder_7d493_13, pJ0_coder_7d493_14, pJ1_indexOf_4cfef_0, pJ1_indexOf_4cfef_1, pJ1_indexOf_4cfef_4, pJ1_indexOf_4cfef_7, pJ1_indexOf_4cfef_8, pJ1_indexOf_4cfef_9, pJ1_indexOf_4cfef_10, pJ1_indexOf_4cfef_11, pJ1_indexOf_4cfef_14, pJ1_indexOf_4cfef_15, pJ1_indexOf_4cfef_16, pJ1_indexOf_4cfef_17, pJ1_indexOf_4cfef_18, pJ1_indexOf_4cfef_21, pJ1_indexOf_4cfef_22, pJ1_indexOf_4cfef_23, pJ1_indexOf_4cfef_24, pJ1_indexOf_4cfef_27, pJ1_indexOf_4cfef_28, pJ1_indexOf_4cfef_29, pJ1_indexOf_4cfef_30, pJ1_indexOf_4cfef_31, pJ1_indexOf_4cfef_32, pJ1_indexOf_4cfef_33, pJ1_indexOf_4cfef_36, pJ1_canEncode_9a6ad_0, pJ1_canEncode_9a6ad_1, pJ1_canEncode_9a6ad_4, pJ1_canEncode_9a6ad_5, pJ1_canEncode_9a6ad_8, pJ1_canEncode_9a6ad_11, pJ1_canEncode_9a6ad_12, pJ1_canEncode_9a6ad_15, pJ1_canEncode_9a6ad_16, pJ1_canEncode_9a6ad_16t, pJ1_canEncode_9a6ad_16f, pJ1_indexOfChar_4cfef_0, pJ1_indexOfChar_4cfef_1, pJ1_indexOfChar_4cfef_2, pJ1_indexOfChar_4cfef_4, pJ1_indexOfChar_4cfef_5, pJ1_indexOfChar_4cfef_7, pJ1_indexOfChar_4cfef_9, pJ1_indexOfChar_4cfef_10, pJ1_indexOfChar_4cfef_13, pJ1_indexOfChar_4cfef_14, pJ1_indexOfChar_4cfef_16, pJ1_indexOfChar_4cfef_17, pJ1_indexOfChar_4cfef_19, pJ1_indexOfChar_4cfef_22, pJ1_indexOfChar_4cfef_24, pJ1_indexOfChar_4cfef_25, pJ1_indexOfChar_4cfef_28, pJ1_indexOfChar_4cfef_31, pJ1_indexOfChar_4cfef_32, h5, hf, hf1, hk, hal, hd, ofNat_nI, e6, pc14, sh0, a0, a1, n4, q0, q1, q2, q3, q4, q5, r0, r1, r2, r3, r4, r5, k1, k2, k3, k4, k5, cxl_0, cxl_1, cxl_2, cxl_3, cxl_4, cxl_5, wL_0, wL_1, wL_2, wL_3, wL_4, wL_5]
    try rfl
theorem w_hth {w : Wd} {r m : Nat} (hr : r < 3) (hm : m < 100) : E 1 mX10_hoursThat 0 [.int (nI (60 + r)), .int (nI m), .null] [] w = some (some (.int (hth (nI r) (nI m))), w) := by
  have : r = 0 ∨ r = 1 ∨ r = 2 := by omega
  unfold hth
  by_cases q : (12 : Int32) ≤ nI m
  · rw [if_pos q]
    rcases this with rfl | rfl | rfl
    · have e : nI (60 + 0) = 60 := rfl
      simp (decide := true) only [pX10_hoursThat_0, pX10_hoursThat_1, pX10_hoursThat_2, pX10_hoursThat_4, pX10_hoursThat_7, pX10_hoursThat_8, pX10_hoursThat_11, pX10_hoursThat_13, pX10_hoursThat_14, pX10_hoursThat_15, pX10_hoursThat_16, pX10_hoursThat_44, pX10_hoursThat_45, pX10_hoursThat_46, pX10_hoursThat_47, pX10_hoursThat_48, pX10_hoursThat_49, pX10_hoursThat_52, pX10_hoursThat_53, pX10_hoursThat_54, pX10_hoursThat_57, pX10_hoursThat_58, pX10_hoursThat_59, pX10_hoursThat_60, pX10_hoursThat_61, pX10_hoursThat_62, pX10_hoursThat_63, pX10_hoursThat_64, pX10_hoursThat_65, kd_i0, kd_i1, kd_i2, kd_i3, kd_jA, kd_r5, kd_r6, kd_r7, al_i, al_j, al_r, ai_i, aj_j, aq_r, cls_o, fv_o, sti_i, stj_j, st2_s, st2_n, bnd_some, set1_same, set1_twice, ↓reduceIte, set1_ne, ne_eq, Nat.reduceEqDiff, not_false_eq_true, not_true_eq_false, if_true, if_false, ite_Ei, bI_eq0, pk_us, ix4, cx4, ix5, cx5, ix6, cx6, ix7, cx7, ix8, cx8, ix10, cx10, ix11, cx11, ix12, cx12, ix20, cx20, ix24, cx24, ix60, cx60, ix64, cx64, ix100, cx100, ix101, cx101, ix360, cx360, ix600, cx600, q, e]
    · have e : nI (60 + 1) = 61 := rfl
      simp (decide := true) only [pX10_hoursThat_0, pX10_hoursThat_1, pX10_hoursThat_2, pX10_hoursThat_4, pX10_hoursThat_7, pX10_hoursThat_8, pX10_hoursThat_11, pX10_hoursThat_13, pX10_hoursThat_14, pX10_hoursThat_15, pX10_hoursThat_16, pX10_hoursThat_44, pX10_hoursThat_45, pX10_hoursThat_46, pX10_hoursThat_47, pX10_hoursThat_48, pX10_hoursThat_49, pX10_hoursThat_52, pX10_hoursThat_53, pX10_hoursThat_54, pX10_hoursThat_57, pX10_hoursThat_58, pX10_hoursThat_59, pX10_hoursThat_60, pX10_hoursThat_61, pX10_hoursThat_62, pX10_hoursThat_63, pX10_hoursThat_64, pX10_hoursThat_65, kd_i0, kd_i1, kd_i2, kd_i3, kd_jA, kd_r5, kd_r6, kd_r7, al_i, al_j, al_r, ai_i, aj_j, aq_r, cls_o, fv_o, sti_i, stj_j, st2_s, st2_n, bnd_some, set1_same, set1_twice, ↓reduceIte, set1_ne, ne_eq, Nat.reduceEqDiff, not_false_eq_true, not_true_eq_false, if_true, if_false, ite_Ei, bI_eq0, pk_us, ix4, cx4, ix5, cx5, ix6, cx6, ix7, cx7, ix8, cx8, ix10, cx10, ix11, cx11, ix12, cx12, ix20, cx20, ix24, cx24, ix60, cx60, ix64, cx64, ix100, cx100, ix101, cx101, ix360, cx360, ix600, cx600, q, e]
    · have e : nI (60 + 2) = 62 := rfl
      simp (decide := true) only [pX10_hoursThat_0, pX10_hoursThat_1, pX10_hoursThat_2, pX10_hoursThat_4, pX10_hoursThat_7, pX10_hoursThat_8, pX10_hoursThat_11, pX10_hoursThat_13, pX10_hoursThat_14, pX10_hoursThat_15, pX10_hoursThat_16, pX10_hoursThat_44, pX10_hoursThat_45, pX10_hoursThat_46, pX10_hoursThat_47, pX10_hoursThat_48, pX10_hoursThat_49, pX10_hoursThat_52, pX10_hoursThat_53, pX10_hoursThat_54, pX10_hoursThat_57, pX10_hoursThat_58, pX10_hoursThat_59, pX10_hoursThat_60, pX10_hoursThat_61, pX10_hoursThat_62, pX10_hoursThat_63, pX10_hoursThat_64, pX10_hoursThat_65, kd_i0, kd_i1, kd_i2, kd_i3, kd_jA, kd_r5, kd_r6, kd_r7, al_i, al_j, al_r, ai_i, aj_j, aq_r, cls_o, fv_o, sti_i, stj_j, st2_s, st2_n, bnd_some, set1_same, set1_twice, ↓reduceIte, set1_ne, ne_eq, Nat.reduceEqDiff, not_false_eq_true, not_true_eq_false, if_true, if_false, ite_Ei, bI_eq0, pk_us, ix4, cx4, ix5, cx5, ix6, cx6, ix7, cx7, ix8, cx8, ix10, cx10, ix11, cx11, ix12, cx12, ix20, cx20, ix24, cx24, ix60, cx60, ix64, cx64, ix100, cx100, ix101, cx101, ix360, cx360, ix600, cx600, q, e]
  · rw [if_neg q]
    rcases this with rfl | rfl | rfl
    · have e : nI (60 + 0) = 60 := rfl
      simp (decide := true) only [pX10_hoursThat_0, pX10_hoursThat_1, pX10_hoursThat_2, pX10_hoursThat_4, pX10_hoursThat_7, pX10_hoursThat_8, pX10_hoursThat_11, pX10_hoursThat_13, pX10_hoursThat_14, pX10_hoursThat_15, pX10_hoursThat_16, pX10_hoursThat_44, pX10_hoursThat_45, pX10_hoursThat_46, pX10_hoursThat_47, pX10_hoursThat_48, pX10_hoursThat_49, pX10_hoursThat_52, pX10_hoursThat_53, pX10_hoursThat_54, pX10_hoursThat_57, pX10_hoursThat_58, pX10_hoursThat_59, pX10_hoursThat_60, pX10_hoursThat_61, pX10_hoursThat_62, pX10_hoursThat_63, pX10_hoursThat_64, pX10_hoursThat_65, kd_i0, kd_i1, kd_i2, kd_i3, kd_jA, kd_r5, kd_r6, kd_r7, al_i, al_j, al_r, ai_i, aj_j, aq_r, cls_o, fv_o, sti_i, stj_j, st2_s, st2_n, bnd_some, set1_same, set1_twice, ↓reduceIte, set1_ne, ne_eq, Nat.reduceEqDiff, not_false_eq_true, not_true_eq_false, if_true, if_false, ite_Ei, bI_eq0, pk_us, ix4, cx4, ix5, cx5, ix6, cx6, ix7, cx7, ix8, cx8, ix10, cx10, ix11, cx11, ix12, cx12, ix20, cx20, ix24, cx24, ix60, cx60, ix64, cx64, ix100, cx100, ix101, cx101, ix360, cx360, ix600, cx600, q, e]
    · have e : nI (60 + 1) = 61 := rfl
      simp (decide := true) only [pX10_hoursThat_0, pX10_hoursThat_1, pX10_hoursThat_2, pX10_hoursThat_4, pX10_hoursThat_7, pX10_hoursThat_8, pX10_hoursThat_11, pX10_hoursThat_13, pX10_hoursThat_14, pX10_hoursThat_15, pX10_hoursThat_16, pX10_hoursThat_44, pX10_hoursThat_45, pX10_hoursThat_46, pX10_hoursThat_47, pX10_hoursThat_48, pX10_hoursThat_49, pX10_hoursThat_52, pX10_hoursThat_53, pX10_hoursThat_54, pX10_hoursThat_57, pX10_hoursThat_58, pX10_hoursThat_59, pX10_hoursThat_60, pX10_hoursThat_61, pX10_hoursThat_62, pX10_hoursThat_63, pX10_hoursThat_64, pX10_hoursThat_65, kd_i0, kd_i1, kd_i2, kd_i3, kd_jA, kd_r5, kd_r6, kd_r7, al_i, al_j, al_r, ai_i, aj_j, aq_r, cls_o, fv_o, sti_i, stj_j, st2_s, st2_n, bnd_some, set1_same, set1_twice, ↓reduceIte, set1_ne, ne_eq, Nat.reduceEqDiff, not_false_eq_true, not_true_eq_false, if_true, if_false, ite_Ei, bI_eq0, pk_us, ix4, cx4, ix5, cx5, ix6, cx6, ix7, cx7, ix8, cx8, ix10, cx10, ix11, cx11, ix12, cx12, ix20, cx20, ix24, cx24, ix60, cx60, ix64, cx64, ix100, cx100, ix101, cx101, ix360, cx360, ix600, cx600, q, e]
    · have e : nI (60 + 2) = 62 := rfl
      simp (decide := true) only [pX10_hoursThat_0, pX10_hoursThat_1, pX10_hoursThat_2, pX10_hoursThat_4, pX10_hoursThat_7, pX10_hoursThat_8, pX10_hoursThat_11, pX10_hoursThat_13, pX10_hoursThat_14, pX10_hoursThat_15, pX10_hoursThat_16, pX10_hoursThat_44, pX10_hoursThat_45, pX10_hoursThat_46, pX10_hoursThat_47, pX10_hoursThat_48, pX10_hoursThat_49, pX10_hoursThat_52, pX10_hoursThat_53, pX10_hoursThat_54, pX10_hoursThat_57, pX10_hoursThat_58, pX10_hoursThat_59, pX10_hoursThat_60, pX10_hoursThat_61, pX10_hoursThat_62, pX10_hoursThat_63, pX10_hoursThat_64, pX10_hoursThat_65, kd_i0, kd_i1, kd_i2, kd_i3, kd_jA, kd_r5, kd_r6, kd_r7, al_i, al_j, al_r, ai_i, aj_j, aq_r, cls_o, fv_o, sti_i, stj_j, st2_s, st2_n, bnd_some, set1_same, set1_twice, ↓reduceIte, set1_ne, ne_eq, Nat.reduceEqDiff, not_false_eq_true, not_true_eq_false, if_true, if_false, ite_Ei, bI_eq0, pk_us, ix4, cx4, ix5, cx5, ix6, cx6, ix7, cx7, ix8, cx8, ix10, cx10, ix11, cx11, ix12, cx12, ix20, cx20, ix24, cx24, ix60, cx60, ix64, cx64, ix100, cx100, ix101, cx101, ix360, cx360, ix600, cx600, q, e]
