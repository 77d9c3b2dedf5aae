/-! The class's wall(): a new wall is made, read, taken. -/
theorem uph_s (h : Nat → Cl) (a : Nat) (c : Cl) : uph h a c a = c := if_pos rfl
theorem uph_n {h : Nat → Cl} {a q : Nat} {c : Cl} (e : q ≠ a) : uph h a c q = h q := if_neg e
theorem stf_o (c k : Nat) (f : Nat → Value) (v : Value) : stf (ob c f) k v = ob c (updV f k v) := rfl
theorem zA0 (m : Nat) : zA 0 m = iA 0 m (fun _ => 0) := rfl
theorem zA1 (m : Nat) : zA 1 m = iA 1 m (fun _ => 0) := rfl
theorem zA2 (m : Nat) : zA 2 m = iA 2 m (fun _ => 0) := rfl
theorem nI_fitB {a : Nat} (h : a < 128) : fits .byte (.int (nI a)) = true := by
  have : ∀ a : Fin 128, fits .byte (.int (nI a.val)) = true := by decide
  exact this ⟨a, h⟩
theorem d_copyOf {h : Nat → Cl} {N z m : Nat} {g : Nat → Int32} (h1 : h 121 = iA 1 100 g) (hg : ∀ j, ∃ a, a < 128 ∧ g j = nI a) (hm : m ≤ 100) (hN : 186 ≤ N) : ∃ g', E 1 mJ7_copyOf_9075b 0 [.ref 121, .int (nI m), .null] [] (h, N, z) = some (some (.ref N), (uph h N (iA 1 m g'), N + 1, z + m)) ∧ ∀ j, j < m → g' j = g j := by
  have hf : ∀ j : Nat, j < al (h 121) → fits .byte (.int (ai (h 121) j)) = true := fun j _ => by
    rw [h1, ai_i]
    obtain ⟨a, ha, e⟩ := hg j
    rw [e]
    exact nI_fitB ha
  have hk1 : kd (h 121) = 1 := by rw [h1]; rfl
  have hk : kd (h 121) < 12 := by rw [h1, kd_i1]; decide
  have ha : al (h 121) = 100 := by rw [h1]; rfl
  have e100 : Int32.ofNat 100 = nI 100 := rfl
  by_cases e : m = 100
  · subst e
    refine ⟨g, ?_, fun _ _ => rfl⟩
    have hk2 : kd (uph h N (iA 1 100 g) N) = 1 := by rw [uph_s]; rfl
    simp (decide := true) only [pJ7_copyOf_9075b_0, pJ7_copyOf_9075b_1, pJ7_copyOf_9075b_3, pJ7_copyOf_9075b_6, pJ7_copyOf_9075b_13, pJ7_copyOf_9075b_14, pJ7_copyOf_9075b_15, pJ7_copyOf_9075b_17, pJ7_copyOf_9075b_18, pJ7_copyOf_9075b_19, pJ7_copyOf_9075b_20, pJ7_copyOf_9075b_21, pJ7_copyOf_9075b_22, pJ7_copyOf_9075b_23, pJ7_copyOf_9075b_24, pJ7_copyOf_9075b_25, pJ7_copyOf_9075b_28, pJ7_copyOf_9075b_31, pJ7_copyOf_9075b_32, kd_i0, kd_i1, kd_i2, kd_i3, kd_jA, kd_r5, kd_r6, kd_r7, al_i, al_j, al_r, ai_i, aj_j, aq_r, cls_o, fv_o, sti_i, stj_j, st2_s, st2_n, bnd_some, set1_same, set1_twice, ↓reduceIte, set1_ne, ne_eq, Nat.reduceEqDiff, not_false_eq_true, not_true_eq_false, if_true, if_false, ite_Ei, bI_eq0, pk_us, ix4, cx4, ix5, cx5, ix6, cx6, ix7, cx7, ix8, cx8, ix10, cx10, ix11, cx11, ix12, cx12, ix20, cx20, ix24, cx24, ix60, cx60, ix64, cx64, ix100, cx100, ix101, cx101, ix360, cx360, ix600, cx600, pJ7_copyOf_9075b_2 hk, ha, e100, ↓reduceIte, pJ7_copyOf_9075b_7 hk1 hf, pJ7_copyOf_9075b_10 hk2, h1]
  · have ne : ¬ nI m = nI 100 := fun q => e ((nI_eq (by omega) (by decide)).mp q)
    have k1 : ¬ nI m < 0 := nI_nlt (b := 0) (by omega) (by omega)
    have k2 : cx (nI m) = m := cx_nI (by omega)
    have k3 : cx (nI m) ≤ 1000 := by rw [k2]; omega
    have h2 : uph h N (zA 1 m) 121 = iA 1 100 g := by rw [uph_n (by omega)]; exact h1
    have hk2 : kd (uph h N (zA 1 m) 121) < 12 := by rw [h2, kd_i1]; decide
    have ha2 : al (uph h N (zA 1 m) 121) = 100 := by rw [h2]; rfl
    have mn : (if nI m < nI 100 then nI m else nI 100) = nI m := if_pos (nI_lt (by omega) (by decide))
    have c0 : cx 0 = 0 := rfl
    have hc : cpok (uph h N (zA 1 m) 121) (uph h N (zA 1 m) N) 0 0 (nI m) := by
      unfold cpok
      rw [h2, uph_s, k2, c0]
      refine ⟨by decide, by decide, k1, ?_, ?_, Or.inr (Or.inr ⟨rfl, rfl, fun i _ => ?_⟩)⟩
      · show 0 + m ≤ 100; omega
      · show 0 + m ≤ m; omega
      · rw [ai_i]
        obtain ⟨a, ha, e⟩ := hg (0 + i)
        rw [e]
        exact nI_fitB ha
    refine ⟨va_cpy g (fun _ => 0) 0 0 m, ?_, fun j hj => ?_⟩
    · simp (decide := true) only [pJ7_copyOf_9075b_0, pJ7_copyOf_9075b_1, pJ7_copyOf_9075b_3, pJ7_copyOf_9075b_6, pJ7_copyOf_9075b_7, pJ7_copyOf_9075b_10, pJ7_copyOf_9075b_13, pJ7_copyOf_9075b_14, pJ7_copyOf_9075b_17, pJ7_copyOf_9075b_18, pJ7_copyOf_9075b_19, pJ7_copyOf_9075b_20, pJ7_copyOf_9075b_21, pJ7_copyOf_9075b_22, pJ7_copyOf_9075b_24, pJ7_copyOf_9075b_25, pJ7_copyOf_9075b_31, pJ7_copyOf_9075b_32, kd_i0, kd_i1, kd_i2, kd_i3, kd_jA, kd_r5, kd_r6, kd_r7, al_i, al_j, al_r, ai_i, aj_j, aq_r, cls_o, fv_o, sti_i, stj_j, st2_s, st2_n, bnd_some, set1_same, set1_twice, ↓reduceIte, set1_ne, ne_eq, Nat.reduceEqDiff, not_false_eq_true, not_true_eq_false, if_true, if_false, ite_Ei, bI_eq0, pk_us, ix4, cx4, ix5, cx5, ix6, cx6, ix7, cx7, ix8, cx8, ix10, cx10, ix11, cx11, ix12, cx12, ix20, cx20, ix24, cx24, ix60, cx60, ix64, cx64, ix100, cx100, ix101, cx101, ix360, cx360, ix600, cx600, pJ7_copyOf_9075b_2 hk, ha, e100, ne, ↓reduceIte, pJ7_copyOf_9075b_15 k1 k3, k2, pJ7_copyOf_9075b_23 hk2, ha2, mn, pJ7_copyOf_9075b_28 hc, c0, h2, uph_s]
      refine congrArg (fun h => some (some (Value.ref N), (h, N + 1, z + m))) (funext fun q => ?_)
      unfold uph
      by_cases e : q = N
      · rw [if_pos e, if_pos e]; rfl
      · rw [if_neg e, if_neg e, if_neg e]
    · unfold va_cpy
      rw [if_pos ⟨Nat.zero_le _, by omega⟩, Nat.zero_add, Nat.sub_zero]
/-- a new wall's fields -/
def wfl0 (N : Nat) (k : Nat) : Value := if 9 ≤ k then defaultValue (fty 10 k) else if k = 0 then .ref (N + 1) else if k = 8 then .ref (N + 2) else if k = 4 then .ref (N + 3) else if k = 5 then .ref (N + 4) else if k = 6 then .ref (N + 5) else if k = 3 then .int 30 else .int 0
def wnew (h : Nat → Cl) (N m : Nat) : Nat → Cl := fun q => if q = N then ob 10 (wfl0 N) else if q = N + 2 then iA 0 11 (fun _ => 0) else if q = N + 3 then iA 2 m (fun _ => 0) else if q = N + 4 then iA 2 m (fun _ => 0) else if q = N + 5 then iA 0 m (fun _ => 0) else h q
theorem d_winit {h : Nat → Cl} {N z m : Nat} {g : Nat → Int32} {f : Nat → Value} (h0 : h N = ob 10 f) (h1 : h (N + 1) = iA 1 m g) (hf : f = fun k => defaultValue (fty 10 k)) (hm : m ≤ 100) : E 1 mX10_init 0 [.ref N, .ref (N + 1)] [] (h, N + 2, z) = some (none, (wnew h N m, N + 6, z + 11 + m + m + m)) := by
  have u1 : ∀ (h : Nat → Cl) c, uph h N c (N + 1) = h (N + 1) := fun h c => uph_n (by omega)
  have u2 : ∀ (h : Nat → Cl) c, uph h (N + 2) c (N + 1) = h (N + 1) := fun h c => uph_n (by omega)
  have u3 : ∀ (h : Nat → Cl) c, uph h (N + 3) c (N + 1) = h (N + 1) := fun h c => uph_n (by omega)
  have u4 : ∀ (h : Nat → Cl) c, uph h (N + 4) c (N + 1) = h (N + 1) := fun h c => uph_n (by omega)
  have v2 : ∀ (h : Nat → Cl) c, uph h (N + 2) c N = h N := fun h c => uph_n (by omega)
  have v3 : ∀ (h : Nat → Cl) c, uph h (N + 3) c N = h N := fun h c => uph_n (by omega)
  have v4 : ∀ (h : Nat → Cl) c, uph h (N + 4) c N = h N := fun h c => uph_n (by omega)
  have v5 : ∀ (h : Nat → Cl) c, uph h (N + 5) c N = h N := fun h c => uph_n (by omega)
  have k1 : ¬ nI m < 0 := nI_nlt (b := 0) (by omega) (by omega)
  have k2 : cx (nI m) = m := cx_nI (by omega)
  have k3 : m ≤ 1000 := by omega
  have c11 : cx 11 = 11 := rfl
  simp (decide := true) only [pX10_init_0, pX10_init_1, pX10_init_4, pX10_init_5, pX10_init_7, pX10_init_10, pX10_init_11, pX10_init_13, pX10_init_15, pX10_init_18, pX10_init_19, pX10_init_20, pX10_init_23, pX10_init_24, pX10_init_25, pX10_init_26, pX10_init_28, pX10_init_31, pX10_init_32, pX10_init_33, pX10_init_34, pX10_init_36, pX10_init_39, pX10_init_40, pX10_init_41, pX10_init_42, pX10_init_44, pX10_init_47, kd_i0, kd_i1, kd_i2, kd_i3, kd_jA, kd_r5, kd_r6, kd_r7, al_i, al_j, al_r, ai_i, aj_j, aq_r, cls_o, fv_o, sti_i, stj_j, st2_s, st2_n, bnd_some, set1_same, set1_twice, ↓reduceIte, set1_ne, ne_eq, Nat.reduceEqDiff, not_false_eq_true, not_true_eq_false, if_true, if_false, ite_Ei, bI_eq0, pk_us, ix4, cx4, ix5, cx5, ix6, cx6, ix7, cx7, ix8, cx8, ix10, cx10, ix11, cx11, ix12, cx12, ix20, cx20, ix24, cx24, ix60, cx60, ix64, cx64, ix100, cx100, ix101, cx101, ix360, cx360, ix600, cx600, h0, h1, u1, u2, u3, u4, v2, v3, v4, v5, uph_s, stf_o, zA0, zA2, ofNat_nI, k1, k2, k3, c11, Nat.add_assoc, Nat.reduceAdd]
  refine congrArg (fun h => some (none, (h, N + 6, z + (11 + (m + (m + m)))))) (funext fun q => ?_)
  unfold wnew
  simp only [uph]
  by_cases e0 : q = N
  · rw [if_pos e0, if_pos e0]
    congr 1
    funext k
    rw [hf]
    by_cases h9 : 9 ≤ k
    · unfold updV wfl0
      rw [if_pos h9, if_neg (by omega), if_neg (by omega), if_neg (by omega), if_neg (by omega), if_neg (by omega), if_neg (by omega)]
    · have : k = 0 ∨ k = 1 ∨ k = 2 ∨ k = 3 ∨ k = 4 ∨ k = 5 ∨ k = 6 ∨ k = 7 ∨ k = 8 := by omega
      rcases this with rfl | rfl | rfl | rfl | rfl | rfl | rfl | rfl | rfl <;> rfl
  · by_cases e5 : q = N + 5
    · subst e5; simp
    · by_cases e4 : q = N + 4
      · subst e4; simp
      · by_cases e3 : q = N + 3
        · subst e3; simp
        · by_cases e2 : q = N + 2
          · subst e2; simp
          · simp [e0, e2, e3, e4, e5]
/-- the rows and the numbers behind a new wall -/
def kNew (K : KT) (m : Nat) : KT := (kJ K, kV K, fun i => if i = kM K then m else kW K i, kM K + 1, kN K, kS K)
def xNew (K : KT) (X : Nat → Nat → Int32) (g : Nat → Int32) : Nat → Nat → Int32 := fun q => if q = 186 + 6 * kM K then (fun k => if k = 3 then 30 else 0) else if q = 186 + 6 * kM K + 1 then g else if 186 + 6 * kM K + 2 ≤ q ∧ q ≤ 186 + 6 * kM K + 5 then (fun _ => 0) else X q
theorem shp_new {K : KT} {m q : Nat} (h : q < 186 + 6 * kM K) : shp (kNew K m) q = shp K q := by
  unfold shp
  by_cases h1 : q < 16
  · rw [if_pos h1, if_pos h1]
  · rw [if_neg h1, if_neg h1]
    by_cases h2 : q < 186
    · rw [if_pos h2, if_pos h2]
    · rw [if_neg h2, if_neg h2]
      unfold wsh
      have e : kW (kNew K m) ((q - 186) / 6) = kW K ((q - 186) / 6) := if_neg (by omega)
      have e1 : q - 186 < 6 * kM (kNew K m) := by show q - 186 < 6 * (kM K + 1); omega
      have e2 : q - 186 < 6 * kM K := by omega
      rw [if_pos e1, if_pos e2, e]
theorem shp_hi {K : KT} {q : Nat} (h : 186 + 6 * kM K ≤ q) : shp K q = (0, 0, 0, 0) := by
  unfold shp
  rw [if_neg (by omega), if_neg (by omega)]
  unfold wsh
  rw [if_neg (by omega)]
theorem hp_em {K : KT} {X : Nat → Nat → Int32} {q : Nat} (h : 186 + 6 * kM K ≤ q) : hp K X q = em := by
  unfold hp cel
  rw [shp_hi h]
  show (if q < 10 then _ else em) = em
  rw [if_neg (by omega)]
theorem hp_new {K : KT} {X : Nat → Nat → Int32} {m : Nat} {g : Nat → Int32} {c : Cl} : wnew (uph (uph (hp K X) (186 + 6 * kM K) c) (186 + 6 * kM K + 1) (iA 1 m g)) (186 + 6 * kM K) m = hp (kNew K m) (xNew K X g) := by
  have hk : kM K < kM (kNew K m) := Nat.lt_succ_self _
  have hw : kW (kNew K m) (kM K) = m := if_pos rfl
  funext q
  unfold wnew uph
  by_cases e0 : q = 186 + 6 * kM K
  · rw [if_pos e0, e0, hp_o (wshp_0 hk)]
    congr 1
    funext k
    have x0 : xNew K X g (186 + 6 * kM K) = (fun k => if k = 3 then 30 else 0) := if_pos rfl
    by_cases h9 : 9 ≤ k
    · unfold wfl0 ofl ofr
      rw [if_pos h9, if_pos (show fnum 10 ≤ k from h9)]
    · have : k = 0 ∨ k = 1 ∨ k = 2 ∨ k = 3 ∨ k = 4 ∨ k = 5 ∨ k = 6 ∨ k = 7 ∨ k = 8 := by omega
      rcases this with rfl | rfl | rfl | rfl | rfl | rfl | rfl | rfl | rfl
      · rfl
      · rw [wo_1, x0]; rfl
      · rw [wo_2, x0]; rfl
      · rw [wo_3, x0]; rfl
      · rfl
      · rfl
      · rfl
      · rw [wo_7, x0]; rfl
      · rfl
  · have y0 : ∀ j, 2 ≤ j → j ≤ 5 → xNew K X g (186 + 6 * kM K + j) = (fun _ => 0) := fun j h1 h2 => by
      unfold xNew
      rw [if_neg (by omega), if_neg (by omega), if_pos (by omega)]
    rw [if_neg e0]
    by_cases e2 : q = 186 + 6 * kM K + 2
    · rw [if_pos e2, e2, hp_i (wshp_2 hk), y0 2 (by decide) (by decide)]
    · rw [if_neg e2]
      by_cases e3 : q = 186 + 6 * kM K + 3
      · rw [if_pos e3, e3, hp_i (wshp_3 hk), y0 3 (by decide) (by decide), hw]
      · rw [if_neg e3]
        by_cases e4 : q = 186 + 6 * kM K + 4
        · rw [if_pos e4, e4, hp_i (wshp_4 hk), y0 4 (by decide) (by decide), hw]
        · rw [if_neg e4]
          by_cases e5 : q = 186 + 6 * kM K + 5
          · rw [if_pos e5, e5, hp_i (wshp_5 hk), y0 5 (by decide) (by decide), hw]
          · rw [if_neg e5]
            by_cases e1 : q = 186 + 6 * kM K + 1
            · rw [if_pos e1, e1, hp_i (wshp_1 hk), hw]
              congr 1
              unfold xNew
              rw [if_neg (by omega), if_pos rfl]
            · rw [if_neg e1, if_neg e0]
              have ex : xNew K X g q = X q := by
                unfold xNew
                rw [if_neg e0, if_neg e1, if_neg (by omega)]
              by_cases hq : q < 186 + 6 * kM K
              · unfold hp cel
                rw [shp_new hq, ex]
                have hf : ∀ ci, ofl K X q ci = ofl (kNew K m) (xNew K X g) q ci := fun ci => by
                  funext k
                  unfold ofl
                  rw [ex]
                  rfl
                rw [hf]
                rfl
              · rw [hp_em (by omega), hp_em (by show 186 + 6 * (kM K + 1) ≤ q; omega)]
theorem xNew_lo {K : KT} {X : Nat → Nat → Int32} {g : Nat → Int32} {q : Nat} (h : q < 186 + 6 * kM K) : xNew K X g q = X q := by
  unfold xNew
  rw [if_neg (by omega), if_neg (by omega), if_neg (by omega)]
