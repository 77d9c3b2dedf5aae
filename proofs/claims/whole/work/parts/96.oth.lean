/-! The other steps: feed, act, tapes, image, undo, wall. -/
theorem feedL_len {l : List Int32} {s : Int32} (hl : l.length ≤ 100) : (feedL l s).length ≤ 100 := by
  unfold feedL
  split
  · exact hl
  · split
    · exact hl
    · simp; omega
section
variable {K : KT} {X : Nat → Nat → Int32} {n z : Nat} {S : ST}
theorem p_feed (s : Int32) (hn : n = 186 + 6 * kM K) (hi : Inv K X S) : PairV (.int (feedA (sX S) s)) 1 mX11_feed [.ref 16, .int s] 2 mX12_feed [.ref 141, .int s] K X n z := by
  obtain ⟨hC, hR, hP⟩ := hi
  obtain ⟨Y, e, f, g, c, d⟩ := x_feed (K := K) (X := X) (n := n) (z := z) (s := s) hC.2.2.2.1.1 hP.2.2.2.1
  have hR1 : RInv K Y S := R_keep (fun q a b => f q (by omega) (by omega)) rfl hR
  obtain ⟨Z, e2, f2, g2, c2⟩ := c_feed (K := K) (X := Y) (n := n) (z := z) (s := s) hR1.2.2.2.2.1 hP.2.2.2.1
  have hC1 : CInv K Y (sT S, sR S, sI S, feedL (sX S) s, sW S, sS S, sP S) := C_mk hC rfl rfl rfl rfl (fun q a _ b _ _ => f q a (by omega)) g (CRw_fr (fun q a b => f _ (by omega) (by omega)) hC.2.1) ⟨c, d hC.2.2.2.1.2⟩ (BC_fr (f _ (by omega) (by omega)) (f _ (by omega) (by omega)) hC.2.2.2.2.2.1) (CP_fr (f _ (by omega) (by omega)) (f _ (by omega) (by omega)) (fun _ _ => rfl) hC.2.2.2.2.2.2)
  refine mkP (S := (sT S, sR S, sI S, feedL (sX S) s, sW S, sS S, sP S)) hn e e2 rfl rfl ⟨C_keep (fun q a => f2 q (by simp; omega)) (fun _ _ => rfl) rfl hC1, ?_, hP.1, hP.2.1, hP.2.2.1, feedL_len hP.2.2.2.1, hP.2.2.2.2⟩
  refine R_mk hR1 rfl rfl rfl (fun q a b _ _ _ _ _ => f2 q (by simp; omega)) (fun k a _ _ _ _ _ => g2 k (by simp; omega)) (RR_frm (fun q a => f2 q (by simp; omega)) ⟨g2 _ (by decide), g2 _ (by decide), g2 _ (by decide), g2 _ (by decide)⟩ hR1.2.2.1) c2 ?_ ?_
  · unfold BD
    rw [g2 66 (by decide), f2 181 (by decide)]; exact hR1.2.2.2.2.2.2.1
  · unfold RP
    rw [f2 182 (by decide), f2 183 (by decide)]; exact hR1.2.2.2.2.2.2.2.1
theorem p_act (i a x : Int32) (hn : n = 186 + 6 * kM K) (hi : Inv K X S) : PairV (.int (actV (sT S) i a x).1) 9 mX11_act [.ref 16, .int i, .int a, .int x, .null] 9 mX12_act [.ref 141, .int i, .int a, .int x] K X n z := by
  obtain ⟨hC, hR, hP⟩ := hi
  obtain ⟨Y, e, f, c⟩ := x_act (K := K) (X := X) (n := n) (z := z) (i := i) (a := a) (x := x) hC.1 hP.1.2.1
  have hR1 : RInv K Y S := R_keep (fun q a b => f q (by omega) (by omega)) rfl hR
  obtain ⟨Z, e2, f2, g2, c2⟩ := c_act (K := K) (X := Y) (n := n) (z := z) (i := i) (a := a) (x := x) hR1.1 hP.1.2.1
  have hC1 : CInv K Y (sT S, sR S, sI S, sX S, sW S, (actV (sT S) i a x).2, sP S) := by
    refine C_mk hC rfl rfl rfl rfl (fun q a _ b _ _ => f q (by omega) (by omega)) (fun k _ => by rw [f 16 (by omega) (by omega)]) (CRw_fr (fun q a b => f _ (by omega) (by omega)) hC.2.1) ⟨?_, ?_⟩ c (CP_fr (f _ (by omega) (by omega)) (f _ (by omega) (by omega)) (fun _ _ => rfl) hC.2.2.2.2.2.2)
    · rw [f 16 (by omega) (by omega), f 121 (by omega) (by omega)]; exact hC.2.2.2.1.1
    · rw [f 121 (by omega) (by omega)]; exact hC.2.2.2.1.2
  refine mkP (S := (sT S, sR S, sI S, sX S, sW S, (actV (sT S) i a x).2, sP S)) hn e e2 rfl rfl ⟨C_keep (fun q a => f2 q (by simp; omega)) (fun _ _ => rfl) rfl hC1, ?_, hP.1, hP.2.1, hP.2.2.1, hP.2.2.2.1, hP.2.2.2.2.1, Nat.lt_of_le_of_lt (actV_len _ _ _ _) (by decide), hP.2.2.2.2.2.2⟩
  refine R_mk hR1 rfl rfl rfl (fun q a b _ _ d _ _ => f2 q (by simp; omega)) (fun k _ _ _ _ _ a => g2 k (by simp; omega)) (RR_frm (fun q a => f2 q (by simp; omega)) ⟨g2 _ (by decide), g2 _ (by decide), g2 _ (by decide), g2 _ (by decide)⟩ hR1.2.2.1) ?_ c2 ?_
  · rw [g2 10 (by decide), f2 147 (by decide)]; exact hR1.2.2.2.2.1
  · unfold RP
    rw [f2 182 (by decide), f2 183 (by decide)]; exact hR1.2.2.2.2.2.2.2.1
/-- a tape's step -/
theorem tapP0 {v : Value} {r1 : Nat} {m1 : Md} {L1 : List Value} {r2 : Nat} {m2 : Md} {L2 : List Value} {P : TP} (hn : n = 186 + 6 * kM K) (hi : Inv K X S) (hO : TPok P) (e1 : ∃ j f Y, j < 6 ∧ E r1 m1 0 L1 [] (hp K X, n, z) = some (some v, (hp (setJ K (133 + j) f) Y, n, z)) ∧ Fr [139, 140] X Y ∧ CP (setJ K (133 + j) f) Y P) (e2 : ∀ (K' : KT) (Y : Nat → Nat → Int32), RInv K' Y S → ∃ K2 Z, E r2 m2 0 L2 [] (hp K' Y, n, z) = some (some v, (hp K2 Z, n, z)) ∧ Fr [182, 183] Y Z ∧ (∃ f g, K2 = setJ (setJ K' 185 g) 184 f) ∧ RP K2 Z P) : PairV v r1 m1 L1 r2 m2 L2 K X n z := by
  obtain ⟨hC, hR, hP⟩ := hi
  obtain ⟨j, f, Y, hj, e1, F, c⟩ := e1
  have hR1 : RInv (setJ K (133 + j) f) Y S := R_keep (fun q a b => F q (by simp; omega)) (if_neg (by omega)) hR
  obtain ⟨K2, Z, e2, f2, ⟨u, g, rfl⟩, c2⟩ := e2 _ Y hR1
  have hC1 : CInv (setJ K (133 + j) f) Y (sT S, sR S, sI S, sX S, sW S, sS S, P) := by
    refine C_mk hC rfl rfl rfl rfl (fun q _ _ _ a b => F q (by simp; omega)) (fun k _ => by rw [F 16 (by decide)]) (CRw_fr (fun q a b => F _ (by simp; omega)) hC.2.1) ⟨?_, ?_⟩ (BC_fr (F _ (by decide)) (F _ (by decide)) hC.2.2.2.2.2.1) c
    · rw [F 16 (by decide), F 121 (by decide)]; exact hC.2.2.2.1.1
    · rw [F 121 (by decide)]; exact hC.2.2.2.1.2
  refine mkP (S := (sT S, sR S, sI S, sX S, sW S, sS S, P)) hn e1 e2 rfl rfl ⟨C_keep (K := setJ K (133 + j) f) (fun q a => f2 q (by simp; omega)) (fun t ht => ?_) rfl hC1, ?_, hP.1, hP.2.1, hP.2.2.1, hP.2.2.2.1, hP.2.2.2.2.1, hP.2.2.2.2.2.1, hO⟩
  · show (if 133 + t = 184 then u else if 133 + t = 185 then g else kJ (setJ K (133 + j) f) (133 + t)) = _
    rw [if_neg (by omega), if_neg (by omega)]
  · refine R_mk hR1 rfl rfl rfl (fun q _ _ _ _ _ a b => f2 q (by simp; omega)) (fun k _ _ _ _ _ _ => by rw [f2 141 (by decide)]) (RR_frm (fun q a => f2 q (by simp; omega)) (by rw [f2 141 (by decide)]; exact ⟨rfl, rfl, rfl, rfl⟩) hR1.2.2.1) ?_ ?_ c2
    · rw [f2 141 (by decide), f2 147 (by decide)]; exact hR1.2.2.2.2.1
    · unfold BD
      rw [f2 141 (by decide), f2 181 (by decide)]; exact hR1.2.2.2.2.2.2.1
theorem setJ2 (K : KT) (f : Nat → Int64) : setJ K 184 f = setJ (setJ K 185 (kJ K 185)) 184 f := by rw [setJ_self]
theorem p_tape (t s m : Int32) (hn : n = 186 + 6 * kM K) (hi : Inv K X S) : PairV (.int (tapA t s m)) 2 mX11_tape [.ref 16, .int t, .int s, .int m] 3 mX12_tape [.ref 141, .int t, .int s, .int m, .null] K X n z := by
  have hO := hi.2.2.2.2.2.2.2.2
  have hO2 : TPok (tapP (sP S) t s m) := (c_tape (K := K) (n := n) (z := z) (t := t) (s := s) (m := m) hi.2.1.2.2.2.2.2.2.2.1 hO).elim (fun _ h => h.elim (fun _ h => h.2.2.2.2))
  refine tapP0 hn hi hO2 (x_tape hi.1.2.2.2.2.2.2) (fun K' Y hR => ?_)
  obtain ⟨K2, Z, e, f, ⟨u, hu⟩, c, _⟩ := c_tape (K := K') (X := Y) (n := n) (z := z) (t := t) (s := s) (m := m) hR.2.2.2.2.2.2.2.1 hO
  exact ⟨K2, Z, e, f, ⟨u, kJ K' 185, by rw [hu]; exact setJ2 K' u⟩, c⟩
theorem p_item (t i : Int32) (x : Int64) (hn : n = 186 + 6 * kM K) (hi : Inv K X S) : PairV (.int (itA (sP S) t i)) 2 mX11_item [.ref 16, .int t, .int i, .long x, .null] 3 mX12_item [.ref 141, .int t, .int i, .long x, .null] K X n z := by
  have hO := hi.2.2.2.2.2.2.2.2
  obtain ⟨j, f, hj, e, c⟩ := x_item (K := K) (X := X) (n := n) (z := z) (t := t) (i := i) (x := x) hi.1.2.2.2.2.2.2 hO
  refine tapP0 hn hi (itP_ok hO) ⟨j, f, X, hj, e, Fr_refl _ _, c⟩ (fun K' Y hR => ?_)
  obtain ⟨K2, e, ⟨u, hu⟩, c⟩ := c_item (K := K') (X := Y) (n := n) (z := z) (t := t) (i := i) (x := x) hR.2.2.2.2.2.2.2.1 hO
  exact ⟨K2, Y, e, Fr_refl _ _, ⟨u, kJ K' 185, by rw [hu]; exact setJ2 K' u⟩, c⟩
theorem shP_ok {P : TP} {t i o j m : Int32} (h : TPok P) : TPok (shP P t i o j m) := h
theorem p_shift (t i o j m : Int32) (hn : n = 186 + 6 * kM K) (hi : Inv K X S) : PairV (.int (shA (sP S) t i o j m)) 2 mX11_shift [.ref 16, .int t, .int i, .int o, .int j, .int m] 3 mX12_shift [.ref 141, .int t, .int i, .int o, .int j, .int m, .null] K X n z := by
  have hO := hi.2.2.2.2.2.2.2.2
  by_cases hk : shOk (sP S) t i o j m
  · obtain ⟨_, _, _, _, em⟩ := c_shift_ok (K := K) (X := X) (n := n) (z := z) hi.2.1.2.2.2.2.2.2.2.1 hO hk
    rw [em]
    obtain ⟨q, f, hq, e, c⟩ := x_shift_ok (K := K) (X := X) (n := n) (z := z) hi.1.2.2.2.2.2.2 hO hk
    refine tapP0 hn hi (shP_ok hO) ⟨q, f, X, hq, e, Fr_refl _ _, c⟩ (fun K' Y hR => ?_)
    obtain ⟨K2, e, u, c, _⟩ := c_shift_ok (K := K') (X := Y) (n := n) (z := z) hR.2.2.2.2.2.2.2.1 hO hk
    exact ⟨K2, Y, e, Fr_refl _ _, u, c⟩
  · exact askP hn hi (askS (x_shift_no hi.1.2.2.2.2.2.2 hO hk) (FQ_refl X)) (fun K' Y _ hR => ⟨Y, c_shift_no hR.2.2.2.2.2.2.2.1 hO hk, Q_refl Y, hR.1⟩)
end
