/-! The steps that change the tree: fruit, cut, set, row, pass. -/
theorem fr_bit : ∀ N : Fin 6, ∀ c : Fin 64, c.1 < 2 ^ N.1 → nI c.1 &&& (((1 : Int32) <<< (nI N.1 &&& 31)) ^^^ -1) = nI c.1 := by decide +kernel
theorem cut_t : ∀ c : Fin 64, ∀ j : Fin 6, cutC (nI c.1) (nI j.1) true = nI (c.1 ||| 2 ^ j.1) := by decide +kernel
theorem cut_f : ∀ c : Fin 64, ∀ j : Fin 6, cutC (nI c.1) (nI j.1) false = nI (c.1 &&& (63 ^^^ 2 ^ j.1)) := by decide +kernel
theorem c64 {N c : Nat} (hN : N ≤ 6) (h : c < 2 ^ N) : c < 64 := Nat.lt_of_lt_of_le h (Nat.pow_le_pow_right (by decide) hN)
theorem k7_rng {k : Int32} (h : 0 ≤ k ∧ k ≤ 6) : k7 k := by
  obtain ⟨m, hm, rfl⟩ := nI_of2 (x := k) (M := 6) (n := 6) (by decide) (Int32.not_lt.mpr h.1) h.2
  have : m = 0 ∨ m = 1 ∨ m = 2 ∨ m = 3 ∨ m = 4 ∨ m = 5 ∨ m = 6 := by omega
  rcases this with rfl | rfl | rfl | rfl | rfl | rfl | rfl <;> unfold k7 <;> decide
theorem gG_fr {T : TR} {k v : Int32} (h6 : tN T ≤ 6) (h : gG T) : gG (frT T k v) ∧ tN T ≤ tN (frT T k v) ∧ tL (frT T k v) = tL T := by
  unfold frT
  by_cases a : 0 ≤ k ∧ k ≤ 6
  · rw [if_neg (not_not_intro a)]
    by_cases b : 0 ≤ v ∧ v ≤ 9
    · rw [if_neg (not_not_intro b)]
      by_cases c : tN T = 6
      · rw [if_pos c]; exact ⟨h, Nat.le_refl _, rfl⟩
      · rw [if_neg c]
        obtain ⟨h1, h2, h3, x, h4, h5⟩ := h
        refine ⟨⟨h1, fun p hp0 => ?_, fun p hp0 => ?_, x, ?_, ?_⟩, Nat.le_succ _, rfl⟩
        · show k7 (upd (tK T) (tN T) k p)
          by_cases e : p = tN T
          · rw [e, pk_us]; exact k7_rng a
          · rw [pk_un e]; exact h2 p (by have : p < tN T + 1 := hp0; omega)
        · show ∃ r, r ≤ 9999 ∧ upd (tR T) (tN T) 0 p = nI r
          by_cases e : p = tN T
          · rw [e, pk_us]; exact ⟨0, by decide, rfl⟩
          · rw [pk_un e]; exact h3 p (by have : p < tN T + 1 := hp0; omega)
        · show x < 2 ^ (tN T + 1)
          rw [Nat.pow_succ]; omega
        · show tC T &&& _ = nI x
          rw [h5]
          exact fr_bit ⟨tN T, by omega⟩ ⟨x, c64 h6 h4⟩ h4
    · rw [if_pos b]; exact ⟨h, Nat.le_refl _, rfl⟩
  · rw [if_pos a]; exact ⟨h, Nat.le_refl _, rfl⟩
theorem gG_cut {T : TR} {p : Int32} {b : Bool} (h6 : tN T ≤ 6) (h : gG T) : gG (cutT T p b) ∧ tN T ≤ tN (cutT T p b) ∧ tL (cutT T p b) = tL T := by
  unfold cutT
  cases hf : isF (tN T) p with
  | false => rw [if_pos rfl]; exact ⟨h, Nat.le_refl _, rfl⟩
  | true =>
    rw [if_neg (by decide)]
    obtain ⟨j, hj, rfl⟩ := isF_t h6 hf
    obtain ⟨h1, h2, h3, x, h4, h5⟩ := h
    refine ⟨⟨h1, h2, h3, ?_⟩, Nat.le_refl _, rfl⟩
    show ∃ c, c < 2 ^ tN T ∧ cutC (tC T) (nI j) b = nI c
    rw [h5]
    cases b with
    | true => exact ⟨_, Nat.or_lt_two_pow h4 (Nat.pow_lt_pow_right (by decide) hj), cut_t ⟨x, c64 h6 h4⟩ ⟨j, by omega⟩⟩
    | false => exact ⟨_, Nat.lt_of_le_of_lt Nat.and_le_left h4, cut_f ⟨x, c64 h6 h4⟩ ⟨j, by omega⟩⟩
theorem gG_set {T : TR} {p what m : Int32} (h : gG T) : gG (setT T p what m) ∧ tN T ≤ tN (setT T p what m) ∧ tL (setT T p what m) = tL T := by
  unfold setT
  by_cases a : isF (tN T) p = false ∨ ¬ (0 ≤ what ∧ what ≤ 1)
  · rw [if_pos a]; exact ⟨h, Nat.le_refl _, rfl⟩
  · rw [if_neg a]
    by_cases b : 0 ≤ m ∧ m ≤ if what = 0 then 4095 else 9999
    · rw [if_neg (not_not_intro b)]
      by_cases c : what = 0
      · rw [if_pos c]; exact ⟨h, Nat.le_refl _, rfl⟩
      · rw [if_neg c]
        rw [if_neg c] at b
        obtain ⟨r, hr, rfl⟩ := nI_of2 (x := m) (M := 9999) (n := 9999) (by decide) (Int32.not_lt.mpr b.1) b.2
        obtain ⟨h1, h2, h3, h4⟩ := h
        refine ⟨⟨h1, h2, fun q hq => ?_, h4⟩, Nat.le_refl _, rfl⟩
        show ∃ r', r' ≤ 9999 ∧ upd (tR T) (cx p) (nI r) q = nI r'
        by_cases e : q = cx p
        · rw [e, pk_us]; exact ⟨r, hr, rfl⟩
        · rw [pk_un e]; exact h3 q hq
    · rw [if_pos b]; exact ⟨h, Nat.le_refl _, rfl⟩
theorem gG_row {T : TR} {p part m : Int32} (h : gG T) : gG (rowT T p part m) ∧ tN T ≤ tN (rowT T p part m) ∧ tL (rowT T p part m) = tL T := by
  unfold rowT
  split
  · exact ⟨h, Nat.le_refl _, rfl⟩
  · split
    · exact ⟨h, Nat.le_refl _, rfl⟩
    · split
      · exact ⟨h, Nat.le_refl _, rfl⟩
      · exact ⟨h, Nat.le_refl _, rfl⟩
theorem gG_days {T : TR} (h2 : ∀ p, p < tN T → k7 (tK T p)) (h3 : rb 9999 T) {d : Nat} (hd : tD T = nI d) : ∀ k, tN (daysT 9999 k T) = tN T ∧ tK (daysT 9999 k T) = tK T ∧ tC (daysT 9999 k T) = tC T ∧ tL (daysT 9999 k T) = tL T ∧ tD (daysT 9999 k T) = nI (d + k) ∧ rb 9999 (daysT 9999 k T) := by
  intro k
  induction k with
  | zero => exact ⟨rfl, rfl, rfl, rfl, hd, h3⟩
  | succ k ih =>
    obtain ⟨i1, i2, i3, i4, i5, i6⟩ := ih
    refine ⟨i1, i2, i3, i4, ?_, fun p hp0 => ?_⟩
    · show tD (daysT 9999 k T) + 1 = _
      rw [i5, nI_1]; rfl
    · obtain ⟨r, hr, e⟩ := i6 p hp0
      have hc := cntb_le (hrT (daysT 9999 k T) p) 12
      show ∃ r', r' ≤ 9999 ∧ (if tR (daysT 9999 k T) p + nI (cntb (hrT (daysT 9999 k T) p) 12) < 9999 then tR (daysT 9999 k T) p + nI (cntb (hrT (daysT 9999 k T) p) 12) else 9999) = nI r'
      rw [e, nI_add]
      by_cases q : r + cntb (hrT (daysT 9999 k T) p) 12 < 9999
      · have q' : nI (r + cntb (hrT (daysT 9999 k T) p) 12) < (9999 : Int32) := nI_lt (b := 9999) q (by decide)
        rw [if_pos q']
        exact ⟨_, by omega, rfl⟩
      · have q' : ¬ nI (r + cntb (hrT (daysT 9999 k T) p) 12) < (9999 : Int32) := nI_nlt (b := 9999) (by omega) (by omega)
        rw [if_neg q']
        exact ⟨9999, by decide, rfl⟩
theorem gG_pass {T : TR} {k : Int32} (h : gG T) : gG (passT T k) ∧ tN T ≤ tN (passT T k) ∧ tL (passT T k) = tL T := by
  unfold passT
  by_cases a : 0 ≤ k ∧ k ≤ 60
  · rw [if_neg (not_not_intro a)]
    by_cases b : 9999 < tD T + k
    · rw [if_pos b]; exact ⟨h, Nat.le_refl _, rfl⟩
    · rw [if_neg b]
      obtain ⟨m, hm, rfl⟩ := nI_of2 (x := k) (M := 60) (n := 60) (by decide) (Int32.not_lt.mpr a.1) a.2
      obtain ⟨⟨d, h1, hd⟩, h2, h3, h4⟩ := h
      obtain ⟨i1, i2, i3, i4, i5, i6⟩ := gG_days h2 h3 hd m
      rw [hd, nI_add] at b
      have bd : d + m ≤ 9999 := Decidable.byContradiction (fun q => b (nI_lt (a := 9999) (by omega) (by omega)))
      rw [cx_nI (by omega)]
      exact ⟨⟨⟨d + m, bd, i5⟩, by rw [i1, i2]; exact h2, i6, by rw [i1, i3]; exact h4⟩, by omega, i4⟩
  · rw [if_pos a]; exact ⟨h, Nat.le_refl _, rfl⟩
theorem whoOk_mono {a b : Nat} {l : List (Int32 × Int32)} (h : whoOk a l) (hab : a ≤ b) : whoOk b l := fun x hx => by
  obtain ⟨j, h1, h2⟩ := h x hx
  exact ⟨j, by omega, h2⟩
theorem treP {v : Value} {r1 : Nat} {m1 : Md} {L1 : List Value} {r2 : Nat} {m2 : Md} {L2 : List Value} {K : KT} {X : Nat → Nat → Int32} {n z : Nat} {S : ST} {T : TR} (hn : n = 186 + 6 * kM K) (hi : Inv K X S) (hg : gG T ∧ tN (sT S) ≤ tN T ∧ tL T = tL (sT S)) (e1 : ∃ Y, E r1 m1 0 L1 [] (hp K X, n, z) = some (some v, (hp K Y, n, z)) ∧ FD 25 X Y ∧ CT K Y 25 T) (e2 : ∀ (Y : Nat → Nat → Int32), RInv K Y S → ∃ Z, E r2 m2 0 L2 [] (hp K Y, n, z) = some (some v, (hp K Z, n, z)) ∧ Fr [141, 142, 143, 144, 145, 146, 156, 157] Y Z ∧ R1 [0, 1, 2] Y Z ∧ RT Z T) : PairV v r1 m1 L1 r2 m2 L2 K X n z := by
  obtain ⟨hC, hR, hP⟩ := hi
  obtain ⟨Y, e1, f, hT⟩ := e1
  have hC1 : CInv K Y (T, S.2) := C_tree hT (fun q a b _ _ d => f q (by omega) (by omega) d) hC
  have hR1 : RInv K Y S := R_keep (fun q a b => f q (by omega) (by omega) (nW (by omega))) rfl hR
  obtain ⟨Z, e2, g, g1, hT2⟩ := e2 Y hR1
  refine mkP hn e1 e2 rfl rfl ⟨C_keep (fun q a => g q (by simp; omega)) (fun _ _ => rfl) rfl hC1, R_tree hT2 hg.2.2 (fun q a b d1 d2 d3 d4 d5 d6 d7 => g q (by simp; omega)) (fun k a b c => g1 k (by simp; omega)) hR1, hg.1, ?_, hP.2.2⟩
  obtain ⟨w1, w2, w3, w4⟩ := hP.2.1
  exact ⟨w1, w2, w3, whoOk_mono w4 hg.2.1⟩
theorem FD_FO {t : Nat} {X Y : Nat → Nat → Int32} (h : FO t X Y) : FD t X Y := fun q a _ _ => h q a
section
variable {K : KT} {X : Nat → Nat → Int32} {n z : Nat} {S : ST}
theorem p_fruit (k v : Int32) (hn : n = 186 + 6 * kM K) (hi : Inv K X S) : PairV (.int (frA (sT S) k v)) 3 mX11_fruit [.ref 16, .int k, .int v] 2 mX12_fruit [.ref 141, .int k, .int v, .null] K X n z := by
  obtain ⟨Y, e, f, c⟩ := x_fruit (n := n) (z := z) (k := k) (v := v) hi.1.1 hi.2.2.1
  refine treP hn hi (gG_fr hi.1.1.1 hi.2.2.1) ⟨Y, e, FD_FO f, c⟩ (fun Y hR => ?_)
  obtain ⟨Z, e2, f2, g2, c2⟩ := c_fruit (K := K) (n := n) (z := z) (k := k) (v := v) hR.1
  exact ⟨Z, e2, Fr_sub f2 (by simp), fun k hk => g2 k (fun m => hk (by simp at m ⊢; omega)), c2⟩
theorem p_cut (p : Int32) (b : Bool) (hn : n = 186 + 6 * kM K) (hi : Inv K X S) : PairV (.int (cutA (sT S) p)) 2 mX11_cut [.ref 16, .int p, .int (bI b), .null] 3 mX12_cut [.ref 141, .int p, .int (bI b), .null] K X n z := by
  obtain ⟨Y, e, f, c⟩ := x_cut (n := n) (z := z) (p := p) (b := b) hi.1.1
  refine treP hn hi (gG_cut hi.1.1.1 hi.2.2.1) ⟨Y, e, FD_FO f, c⟩ (fun Y hR => ?_)
  obtain ⟨Z, e2, f2, g2, c2⟩ := c_cut (K := K) (n := n) (z := z) (p := p) (b := b) hR.1
  exact ⟨Z, e2, Fr_sub f2 (by simp), fun k hk => g2 k (fun m => hk (by simp at m ⊢; omega)), c2⟩
theorem p_set (p what m : Int32) (hn : n = 186 + 6 * kM K) (hi : Inv K X S) : PairV (.int (setA (sT S) p what m)) 2 mX11_set [.ref 16, .int p, .int what, .int m, .null, .null] 3 mX12_set [.ref 141, .int p, .int what, .int m, .null] K X n z := by
  obtain ⟨Y, e, f, c⟩ := x_set (n := n) (z := z) (p := p) (what := what) (m := m) hi.1.1
  refine treP hn hi (gG_set hi.2.2.1) ⟨Y, e, FD_FO f, c⟩ (fun Y hR => ?_)
  obtain ⟨Z, e2, f2, c2⟩ := c_set (K := K) (n := n) (z := z) (p := p) (what := what) (m := m) hR.1
  exact ⟨Z, e2, Fr_sub f2 (by simp), fun k hk => by rw [f2 141 (by decide)], c2⟩
theorem p_row (p part m : Int32) (hn : n = 186 + 6 * kM K) (hi : Inv K X S) : PairV (.int (rowA (sT S) p part m)) 2 mX11_row [.ref 16, .int p, .int part, .int m, .null] 3 mX12_row [.ref 141, .int p, .int part, .int m, .null] K X n z := by
  obtain ⟨Y, e, f, c⟩ := x_row (n := n) (z := z) (p := p) (part := part) (m := m) hi.1.1
  refine treP hn hi (gG_row hi.2.2.1) ⟨Y, e, FD_FO f, c⟩ (fun Y hR => ?_)
  obtain ⟨Z, e2, f2, c2⟩ := c_row (K := K) (n := n) (z := z) (p := p) (part := part) (m := m) hR.1
  exact ⟨Z, e2, Fr_sub f2 (by simp), fun k hk => by rw [f2 141 (by decide)], c2⟩
theorem p_pass (k : Int32) (hn : n = 186 + 6 * kM K) (hi : Inv K X S) : PairV (.int (passA (sT S) k)) 7 mX11_pass [.ref 16, .int k] 9 mX12_pass [.ref 141, .int k] K X n z := by
  obtain ⟨Y, e, f, c⟩ := x_pass (n := n) (z := z) (k := k) hi.1.1 hi.2.2.1
  refine treP hn hi (gG_pass hi.2.2.1) ⟨Y, e, f, c⟩ (fun Y hR => ?_)
  obtain ⟨Z, e2, f2, g2, c2⟩ := c_pass (K := K) (n := n) (z := z) (k := k) hR.1 hR.2.2.2.2.2.2.2.2.1
  exact ⟨Z, e2, Fr_sub f2 (by simp), fun k hk => g2 k (fun m => hk (by simp at m ⊢; omega)), c2⟩
end
