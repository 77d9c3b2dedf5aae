/-! The questions. -/
section
variable {K : KT} {X : Nat → Nat → Int32} {n z : Nat} {S : ST}
theorem g_mean {T : TR} (h : gG T) : ∀ p, p < tN T → 0 ≤ tR T p ∧ tR T p ≤ 9999 := fun p hp0 => by
  obtain ⟨r, h1, h2⟩ := h.2.2.1 p hp0
  rw [h2]
  exact ⟨nI_le (a := 0) (by omega) (by omega), nI_le (b := 9999) h1 (by decide)⟩
theorem p_of (p what : Int32) (hn : n = 186 + 6 * kM K) (hi : Inv K X S) : PairV (.int (ofT (sT S) p what)) 8 mX11_of [.ref 16, .int p, .int what] 10 mX12_of [.ref 141, .int p, .int what] K X n z := askP hn hi (x_of hi.1.1 hi.2.2.1) (fun K' Y _ hR => c_of hR.1 hR.2.2.2.2.2.2.2.2.1)
theorem p_told (what : Int32) (hn : n = 186 + 6 * kM K) (hi : Inv K X S) : PairV (.int (toldT (sT S) what)) 5 mX11_told [.ref 16, .int what, .null] 6 mX12_told [.ref 141, .int what] K X n z := by
  obtain ⟨Y, e, f⟩ := x_told (n := n) (z := z) (what := what) hi.1.1 hi.2.2.1
  exact askP hn hi (askS e f) (fun K' Y _ hR => c_told hR.1)
theorem p_on (k what : Int32) (hn : n = 186 + 6 * kM K) (hi : Inv K X S) : PairV (.int (onT (sT S) k what)) 7 mX11_on [.ref 16, .int k, .int what, .null, .null] 9 mX12_on [.ref 141, .int k, .int what, .null] K X n z := askP hn hi (x_on hi.1.1 hi.2.2.1) (fun K' Y _ hR => c_on hR.1 hR.2.2.2.2.2.2.2.2.1)
theorem p_clear (p hours : Int32) (hn : n = 186 + 6 * kM K) (hi : Inv K X S) : PairV (.int (clrA (sT S) p hours)) 7 mX11_clear [.ref 16, .int p, .int hours] 9 mX12_clear [.ref 141, .int p, .int hours, .null, .null] K X n z := askP hn hi (x_clear hi.1.1 hi.2.2.1) (fun K' Y _ hR => c_clear hR.1)
theorem p_help (p what : Int32) (hn : n = 186 + 6 * kM K) (hi : Inv K X S) : PairV (.int (hlpA (sT S) p what)) 6 mX11_help [.ref 16, .int p, .int what, .null, .null, .null, .null, .null] 9 mX12_help [.ref 141, .int p, .int what, .null, .null, .null, .null, .null] K X n z := askP hn hi (x_help hi.1.1 hi.2.2.1) (fun K' Y _ hR => c_help hR.1)
theorem p_sent (k : Int32) (hn : n = 186 + 6 * kM K) (hi : Inv K X S) : PairV (.int (sentP (sT S) (sR S).1 k)) 4 mX11_sent [.ref 16, .int k] 3 mX12_sent [.ref 141, .int k, .null, .null, .null, .null, .null] K X n z := by
  obtain ⟨Y, e, f⟩ := x_sent (n := n) (z := z) (k := k) hi.1.1 hi.1.2.1.1 hi.2.2.2.1.1.1
  refine askP hn hi (askS e (fun q _ _ c _ => f q (by omega))) (fun K' Y _ hR => ?_)
  obtain ⟨h1, h2⟩ := sentA_eq hR.1.1 hi.2.2.2.1.1.1 (Y 161) k
  obtain ⟨Z, e2, r⟩ := c_sent (K := K') (n := n) (z := z) (k := k) hR.1 hR.2.2.1.1 hi.2.2.2.1.1.1 h1
  rw [h2] at e2
  exact ⟨Z, e2, r⟩
theorem p_can (p what : Int32) (hn : n = 186 + 6 * kM K) (hi : Inv K X S) : PairV (.int (canA (sT S) (sR S).2.1 p what)) 7 mX11_can [.ref 16, .int p, .int what, .null, .null, .null] 8 mX12_can [.ref 141, .int p, .int what, .null, .null, .null, .null] K X n z := askP hn hi (x_can hi.1.1 hi.2.2.1 hi.1.2.1.2.1 hi.2.2.2.1.1.2.1 hi.2.2.2.1.2.1) (fun K' Y _ hR => c_can hR.1 hR.2.2.1.2.1 hi.2.2.2.1.1.2.1 hi.2.2.2.1.2.1)
theorem p_which (what : Int32) (hn : n = 186 + 6 * kM K) (hi : Inv K X S) : PairV (.int (whiA (sT S) (sR S).2.1 what)) 7 mX11_which [.ref 16, .int what, .null, .null, .null] 8 mX12_which [.ref 141, .int what, .null, .null, .null, .null] K X n z := askP hn hi (x_which hi.1.1 hi.2.2.1 hi.1.2.1.2.1 hi.2.2.2.1.1.2.1 hi.2.2.2.1.2.1) (fun K' Y _ hR => c_which hR.1 hR.2.2.1.2.1 hi.2.2.2.1.1.2.1 hi.2.2.2.1.2.1)
theorem p_odds (p h part : Int32) (hn : n = 186 + 6 * kM K) (hi : Inv K X S) : PairV (.long (oddA (sT S) p h part)) 5 mX11_odds [.ref 16, .int p, .int h, .int part, .null, .null] 9 mX12_odds [.ref 141, .int p, .int h, .int part, .null, .null] K X n z := askP hn hi (x_odds hi.1.1 hi.2.2.1) (fun K' Y _ hR => c_odds hR.1)
theorem p_mean (part : Int32) (hn : n = 186 + 6 * kM K) (hi : Inv K X S) : PairV (.long (meanA (sT S) part)) 2 mX11_mean [.ref 16, .int part] 3 mX12_mean [.ref 141, .int part] K X n z := askP hn hi (askS (x_mean hi.1.1 hi.2.2.1) (FQ_refl X)) (fun K' Y _ hR => ⟨Y, c_mean hR.1 (g_mean hi.2.2.1), Q_refl Y, hR.1⟩)
theorem p_ends (what : Int32) (hn : n = 186 + 6 * kM K) (hi : Inv K X S) : PairV (.int (endsA (sT S) (sR S).2.2.1 what)) 8 mX11_ends [.ref 16, .int what, .null] 9 mX12_ends [.ref 141, .int what, .null] K X n z := askP hn hi (x_ends hi.1.1 hi.2.2.1 hi.1.2.1.2.2.1 hi.2.2.2.1.1.2.2.1 hi.2.2.2.1.2.2.1) (fun K' Y _ hR => c_ends hR.1 hR.2.2.2.2.2.2.2.2.1 hR.2.2.1.2.2.1 hi.2.2.2.1.1.2.2.1 hi.2.2.2.1.2.2.1)
theorem p_looked (hn : n = 186 + 6 * kM K) (hi : Inv K X S) : PairV (.int (lookT (sT S) (sR S).2.2.2 0)) 2 mX11_looked [.ref 16] 1 mX12_looked [.ref 141, .null] K X n z := askP hn hi (askS (x_looked hi.1.1 hi.1.2.1.2.2.2 hi.2.2.2.1.1.2.2.2 hi.2.2.2.1.2.2.2) (FQ_refl X)) (fun K' Y _ hR => ⟨Y, c_looked hR.1 hR.2.2.1.2.2.2 hi.2.2.2.1.1.2.2.2 hi.2.2.2.1.2.2.2, Q_refl Y, hR.1⟩)
theorem p_judge (t i : Int32) (hn : n = 186 + 6 * kM K) (hi : Inv K X S) : PairV (.int (juA (sT S) (sP S) t i)) 2 mX11_judge [.ref 16, .int t, .int i, .null] 3 mX12_judge [.ref 141, .int t, .int i, .null] K X n z := askP hn hi (askS (x_judge hi.1.1 hi.1.2.2.2.2.2.2 hi.2.2.2.2.2.2.2.2) (FQ_refl X)) (fun K' Y _ hR => ⟨Y, c_judge hR.1 hR.2.2.2.2.2.2.2.1 hi.2.2.2.2.2.2.2.2, Q_refl Y, hR.1⟩)
theorem p_trace (i : Int32) (hn : n = 186 + 6 * kM K) (hi : Inv K X S) : PairV (.int (traA (sS S) i)) 1 mX11_trace [.ref 16, .int i] 2 mX12_trace [.ref 141, .int i] K X n z := askP hn hi (askS (x_trace hi.1.2.2.2.2.2.1 hi.2.2.2.2.2.2.2.1) (FQ_refl X)) (fun K' Y _ hR => ⟨Y, c_trace hR.2.2.2.2.2.2.1 hi.2.2.2.2.2.2.2.1, Q_refl Y, hR.1⟩)
theorem p_taken (i k : Int32) (hn : n = 186 + 6 * kM K) (hi : Inv K X S) : PairV (.int (takA (sT S) i k)) 2 mX11_taken [.ref 16, .int i, .int k, .null, .null, .null] 3 mX12_taken [.ref 141, .int i, .int k, .null] K X n z := askP hn hi (askS (x_taken hi.1.1 hi.2.2.1.2.1) (FQ_refl X)) (fun K' Y _ hR => ⟨Y, c_taken hR.1 hi.2.2.1.2.1, Q_refl Y, hR.1⟩)
theorem p_read (t i : Int32) (hn : n = 186 + 6 * kM K) (hi : Inv K X S) : PairV (.long (rdA (sP S) t i)) 2 mX11_read [.ref 16, .int t, .int i] 3 mX12_read [.ref 141, .int t, .int i] K X n z := askP hn hi (askS (x_read hi.1.2.2.2.2.2.2 hi.2.2.2.2.2.2.2.2) (FQ_refl X)) (fun K' Y _ hR => ⟨Y, c_read hR.2.2.2.2.2.2.2.1 hi.2.2.2.2.2.2.2.2, Q_refl Y, hR.1⟩)
def cntA (S : ST) (what : Int32) : Int32 := if what = 0 then nI (tN (sT S)) else if what = 1 then nI (sW S) else if what = 2 then nI (sR S).1.length else if what = 3 then nI (sR S).2.1.length else if what = 4 then nI (sR S).2.2.1.length else if what = 5 then nI (sR S).2.2.2.length else if what = 6 then nI (sX S).length else if what = 7 then nI (sS S).length else -2
theorem p_count (what : Int32) (hn : n = 186 + 6 * kM K) (hi : Inv K X S) : PairV (.int (cntA S what)) 1 mX11_count [.ref 16, .int what] 1 mX12_count [.ref 141, .int what] K X n z := by
  have e1 := x_count (K := K) (X := X) (n := n) (z := z) (what := what)
  have c1 : X 25 1 = nI (tN (sT S)) := hi.1.1.2.1
  have c2 : X 16 6 = nI (sW S) := hi.1.2.2.2.2.1
  have c3 : X 37 2 = nI (sR S).1.length := hi.1.2.1.1.1
  have c4 : X 40 2 = nI (sR S).2.1.length := hi.1.2.1.2.1.1
  have c5 : X 43 2 = nI (sR S).2.2.1.length := hi.1.2.1.2.2.1.1
  have c6 : X 46 2 = nI (sR S).2.2.2.length := hi.1.2.1.2.2.2.1
  have c7 : X 16 5 = nI (sX S).length := hi.1.2.2.2.1.1.1
  have c8 : X 122 3 = nI (sS S).length := hi.1.2.2.2.2.2.1.1
  rw [c1, c2, c3, c4, c5, c6, c7, c8] at e1
  refine askP hn hi (askS e1 (FQ_refl X)) (fun K' Y _ hR => ⟨Y, ?_, Q_refl Y, hR.1⟩)
  have e2 := c_count (K := K') (X := Y) (n := n) (z := z) (what := what)
  rw [hR.1.2.1, hR.2.2.2.2.2.1, hR.2.2.1.1.1, hR.2.2.1.2.1.1, hR.2.2.1.2.2.1.1, hR.2.2.1.2.2.2.1, hR.2.2.2.2.1.1, hR.2.2.2.2.2.2.1.1] at e2
  exact e2
end
