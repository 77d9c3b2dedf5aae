/-! Image, undo, wall. -/
theorem hp_141 {K : KT} {Y Z : Nat → Nat → Int32} (h : hp K Y = hp K Z) {k : Nat} (hk : ofr K 141 12 k = none) : Y 141 k = Z 141 k := by
  have e := congrFun h 141
  rw [hc_141, hc_141] at e
  have e2 : ofl K Y 141 12 k = ofl K Z 141 12 k := by
    have : fv (ob 12 (ofl K Y 141 12)) k = fv (ob 12 (ofl K Z 141 12)) k := by rw [e]
    exact this
  unfold ofl at e2
  rw [hk] at e2
  simpa using e2
section
variable {K : KT} {X : Nat → Nat → Int32} {n z : Nat} {S : ST}
theorem p_image (hn : n = 186 + 6 * kM K) (hi : Inv K X S) : PairV (.int (nI (tN (sT S)))) 3 mX11_image [.ref 16] 1 mX12_image [.ref 141, .null] K X n z := by
  obtain ⟨hC, hR, hP⟩ := hi
  obtain ⟨Y, e, f, g, y3, c1, c2⟩ := x_image (K := K) (X := X) (n := n) (z := z) hC.1 hC.2.1 hP.2.1.1
  have hR1 : RInv (setV K 57 (kV K 25)) Y S := R_keep (fun q a b => f q (by omega) (by omega)) rfl hR
  obtain ⟨Z, e2, f2, g2, z45, d1, d2⟩ := c_image (K := setV K 57 (kV K 25)) (X := Y) (n := n) (z := z) hR1.1 hR1.2.2.1 hP.2.1.1
  obtain ⟨Z0, e0, _, _, q0, _⟩ := c_image0 (K := setV K 57 (kV K 25)) (X := Y) (n := n) (z := z)
  have z46 : Z 141 46 = Y 141 9 := by
    rw [e2] at e0
    have : hp (setV K 57 (kV K 25)) Z = hp (setV K 57 (kV K 25)) Z0 := by
      injection e0 with e0; injection e0 with _ e0; injection e0
    rw [hp_141 this rfl, q0.1]
  have fw : ∀ q, 186 ≤ q → ¬ isW q → Y q = X q := fun q a _ => f q (by omega) (by omega)
  have hC1 : CInv (setV K 57 (kV K 25)) Y (sT S, sR S, some (sT S, sR S), S.2.2.2) := by
    have t1 : CT K Y 25 (sT S) := CT_fr fw (fun q a => f _ (by omega) (by omega)) hC.1
    refine ⟨t1, CRw_fr (fun q a b => f _ (by omega) (by omega)) hC.2.1, ⟨y3, c1, c2⟩, ⟨?_, ?_⟩, ?_, BC_fr (f _ (by omega) (by omega)) (f _ (by omega) (by omega)) hC.2.2.2.2.2.1, CP_fr (f _ (by omega) (by omega)) (f _ (by omega) (by omega)) (fun _ _ => rfl) hC.2.2.2.2.2.2⟩
    · rw [g 5 (by decide), f 121 (by omega) (by omega)]; exact hC.2.2.2.1.1
    · rw [f 121 (by omega) (by omega)]; exact hC.2.2.2.1.2
    · rw [g 6 (by decide)]; exact hC.2.2.2.2.1
  refine mkP (S := (sT S, sR S, some (sT S, sR S), S.2.2.2)) hn e e2 rfl rfl ⟨C_keep (fun q a => f2 q (by simp; omega)) (fun _ _ => rfl) rfl hC1, ?_, hP.1, hP.2.1, ?_, hP.2.2.2⟩
  · obtain ⟨h1, h2, h3, h4, h5, h6, h7, h8, h9, h10⟩ := hR1
    refine ⟨RT_frm (fun q a b c => f2 q (by simp; omega)) ⟨g2 _ (by decide), g2 _ (by decide), g2 _ (by decide), g2 _ (by decide)⟩ h1, ?_, RR_frm (fun q a => f2 q (by simp; omega)) ⟨g2 _ (by decide), g2 _ (by decide), g2 _ (by decide), g2 _ (by decide)⟩ h3, ⟨z45, d1, d2, ?_⟩, ?_, ?_, ?_, ?_, ?_, ?_⟩
    · rw [g2 9 (by decide)]; exact RLw_fr (fun q a b => f2 q (by simp; omega)) h2
    · rw [z46]; exact RLw_fr (fun q a b => f2 q (by simp; omega)) h2
    · rw [g2 10 (by decide), f2 147 (by decide)]; exact h5
    · rw [g2 8 (by decide)]; exact h6
    · unfold BD; rw [g2 66 (by decide), f2 181 (by decide)]; exact h7
    · unfold RP; rw [f2 182 (by decide), f2 183 (by decide)]; exact h8
    · rw [g2 27 (by decide)]; exact h9
    · rw [f2 155 (by decide)]; exact h10
  · intro T w hI
    have : (sT S, sR S) = (T, w) := by injection hI
    injection this with a b
    subst a b
    exact ⟨hP.1, hP.2.1⟩
def undA (I : IM) : Int32 := match I with
  | none => -3
  | some p => nI (tN p.1)
theorem p_undo (hn : n = 186 + 6 * kM K) (hi : Inv K X S) : PairV (.int (undA (sI S))) 3 mX11_undo [.ref 16] 1 mX12_undo [.ref 141, .null] K X n z := by
  obtain ⟨T, w, I, S3⟩ := S
  cases I with
  | none => exact askP hn hi (askS (x_undo_no hi.1.2.2.1) (FQ_refl X)) (fun K' Y _ hR => ⟨Y, c_undo_no hR.2.2.2.1, Q_refl Y, hR.1⟩)
  | some p =>
    obtain ⟨T', w'⟩ := p
    obtain ⟨hC, hR, hP⟩ := hi
    obtain ⟨i1, i2, i3⟩ := hC.2.2.1
    obtain ⟨o1, o2⟩ := hP.2.2.1 T' w' rfl
    obtain ⟨Y, e, f, c1, c2⟩ := x_undo (K := K) (X := X) (n := n) (z := z) i1 i2 i3 o2.1
    have hR1 : RInv (setV K 25 (kV K 57)) Y (T, w, some (T', w'), S3) := R_keep (fun q a b => f q (by omega)) rfl hR
    obtain ⟨j1, j2, j3, j4⟩ := hR1.2.2.2.1
    obtain ⟨Z, e2, f2, g2, d1, d2⟩ := c_undo (K := setV K 25 (kV K 57)) (X := Y) (n := n) (z := z) j1 j2 j3 o2.1
    obtain ⟨Z0, e0, _, _, q0, _⟩ := c_undo0 (K := setV K 25 (kV K 57)) (X := Y) (n := n) (z := z) j1
    have z9 : Z 141 9 = Y 141 46 := by
      rw [e2] at e0
      have : hp (setV K 25 (kV K 57)) Z = hp (setV K 25 (kV K 57)) Z0 := by
        injection e0 with e0; injection e0 with _ e0; injection e0
      rw [hp_141 this rfl, q0.1]
    have fw : ∀ q, 186 ≤ q → ¬ isW q → Y q = X q := fun q a _ => f q (by omega)
    have hC1 : CInv (setV K 25 (kV K 57)) Y (T', w', some (T', w'), S3) := by
      have t1 : CT K Y 57 T' := CT_fr fw (fun q a => f _ (by omega)) i2
      refine ⟨c1, c2, ⟨by rw [f 16 (by omega)]; exact i1, t1, CRw_fr (fun q a b => f _ (by omega)) i3⟩, ⟨?_, ?_⟩, ?_, BC_fr (f _ (by omega)) (f _ (by omega)) hC.2.2.2.2.2.1, CP_fr (f _ (by omega)) (f _ (by omega)) (fun _ _ => rfl) hC.2.2.2.2.2.2⟩
      · rw [f 16 (by omega), f 121 (by omega)]; exact hC.2.2.2.1.1
      · rw [f 121 (by omega)]; exact hC.2.2.2.1.2
      · rw [f 16 (by omega)]; exact hC.2.2.2.2.1
    refine mkP (S := (T', w', some (T', w'), S3)) hn e e2 rfl rfl ⟨C_keep (fun q a => f2 q (by simp; omega)) (fun _ _ => rfl) rfl hC1, ?_, o1, o2, hP.2.2⟩
    obtain ⟨h1, h2, h3, h4, h5, h6, h7, h8, h9, h10⟩ := hR1
    refine ⟨d1, ?_, d2, RIm_frm (fun q a => f2 q (by simp; omega)) (fun k a => g2 k (by simp; omega)) h4, ?_, ?_, ?_, ?_, ?_, ?_⟩
    · rw [z9]; exact RLw_fr (fun q a b => f2 q (by simp; omega)) j4
    · rw [g2 10 (by decide), f2 147 (by decide)]; exact h5
    · rw [g2 8 (by decide)]; exact h6
    · unfold BD; rw [g2 66 (by decide), f2 181 (by decide)]; exact h7
    · unfold RP; rw [f2 182 (by decide), f2 183 (by decide)]; exact h8
    · rw [g2 27 (by decide)]; exact h9
    · rw [f2 155 (by decide)]; exact h10
theorem CW_new {Y : Nat → Nat → Int32} {v : Value} {wl : List Cla} {m : Nat} (f : ∀ q, 186 ≤ q → q < 186 + 6 * kM K → Y q = X q) (h : CW K X v wl) : CW (kNew K m) Y v wl := by
  rcases h with h | ⟨i, h1, h2, h3, h4, h5, h6, h7, h8⟩
  · exact Or.inl h
  · have ew : kW (kNew K m) i = kW K i := if_neg (by omega)
    refine Or.inr ⟨i, by show i < kM K + 1; omega, h2, ?_, ?_, by rw [ew]; exact h5, by rw [ew]; exact h6, fun j hj => ?_, h8⟩
    · rw [f _ (by omega) (by omega)]; exact h3
    · rw [f _ (by omega) (by omega)]; exact h4
    · rw [f _ (by omega) (by omega), f _ (by omega) (by omega), f _ (by omega) (by omega)]; exact h7 j hj
theorem CT_new {Y : Nat → Nat → Int32} {t m : Nat} {T : TR} (ht : 25 ≤ t ∧ t + 11 < 186) (f : ∀ q, q < 186 + 6 * kM K → q ≠ 16 → Y q = X q) (h : CT K X t T) : CT (kNew K m) Y t T := by
  obtain ⟨h1, h2, h3, h4, h5, h6, h7⟩ := h
  refine ⟨h1, ?_, ?_, ?_, fun p hp0 => ?_, fun p q hp0 hq => ?_, CW_new (fun q a b => f q b (by omega)) h7⟩
  · rw [f t (by omega) (by omega)]; exact h2
  · rw [f t (by omega) (by omega)]; exact h3
  · rw [f t (by omega) (by omega)]; exact h4
  · rw [f _ (by omega) (by omega), f _ (by omega) (by omega), f _ (by omega) (by omega), f _ (by omega) (by omega)]; exact h5 p hp0
  · rw [f _ (by omega) (by omega)]; exact h6 p q hp0 hq
theorem RIm_w {X Y : Nat → Nat → Int32} {W W' : Nat} {I : IM} (hW : W ≤ W') (h6 : W' ≤ 6) (f : ∀ q, 169 ≤ q ∧ q ≤ 180 → Y q = X q) (g : ∀ k, 45 ≤ k ∧ k ≤ 53 → Y 141 k = X 141 k) (k : ∀ f wl, RLw X W f wl → RLw Y W f wl) (h : RIm X W I) : RIm Y W' I := by
  cases I with
  | none => exact (g 45 (by decide)).trans h
  | some p =>
    obtain ⟨h1, ⟨a1, a2, a3, a4, a5, a6, a7⟩, h3, h4⟩ := h
    have l : RLw Y W' (Y 141 46) (tL p.1) := by rw [g 46 (by decide)]; exact RLw_mono hW (k _ _ h4)
    refine ⟨(g 45 (by decide)).trans h1, ⟨a1, by rw [g 47 (by decide)]; exact a2, by rw [g 48 (by decide)]; exact a3, by rw [g 49 (by decide)]; exact a4, by rw [f 169 (by decide), f 170 (by decide), f 171 (by decide), f 172 (by decide)]; exact a5, by rw [f 173 (by decide)]; exact a6, RLw_RLs h6 l⟩, ?_, l⟩
    unfold RRI at *
    rw [g 50 (by decide), g 51 (by decide), g 52 (by decide), g 53 (by decide), f 174 (by decide), f 175 (by decide), f 176 (by decide), f 177 (by decide), f 178 (by decide), f 179 (by decide), f 180 (by decide)]
    exact h3
def tWl (T : TR) (wl : List Cla) : TR := (T.1, T.2.1, T.2.2.1, tK T, tV T, tH T, tR T, tW T, wl)
theorem p_wall (hn : n = 186 + 6 * kM K) (hi : Inv K X S) : ∃ a : Int32, PairV (.int a) 26 mX11_wall [.ref 16, .null] 8 mX12_wall [.ref 141, .null] K X n z := by
  by_cases h6 : sW S = 6
  · have c6 : X 16 6 = 6 := by rw [hi.1.2.2.2.2.1, h6]; rfl
    exact ⟨-4, askP hn hi (askS (x_wall6 c6) (FQ_refl X)) (fun K' Y _ hR => ⟨Y, c_wall6 (by rw [hR.2.2.2.2.2.1, h6]; rfl), Q_refl Y, hR.1⟩)⟩
  · obtain ⟨hC, hR, hP⟩ := hi
    have hw : sW S < 6 := by have := hP.2.2.2.2.1; omega
    have hl1 := hP.2.2.2.1
    have htx : tOk (sX S) := fun x hx => by
      obtain ⟨j, hj, e⟩ := List.getElem_of_mem hx
      obtain ⟨a, ha, e2⟩ := hC.2.2.2.1.2 j
      exact ⟨a, ha, by rw [← e, ← hC.2.2.2.1.1.2 j hj]; exact e2⟩
    obtain ⟨R, r1, r2, r3⟩ := ptx htx 10 0 0 (by decide) (by decide) (Nat.zero_le _)
    obtain ⟨Y, e, f, g, y5, y6, cw⟩ := x_wall (z := z) hn hC.2.2.2.1.1 hl1 hC.2.2.2.1.2 hC.2.2.2.2.1 hw r1 r3
    have hRY : ∀ K' : KT, kJ K' = kJ K → RInv K' Y S := fun K' hK => R_keep (fun q a b => f q (by omega) (by omega)) (by rw [hK]) hR
    have im : CIm (kNew K (sX S).length) Y (sI S) := by
      have h := hC.2.2.1
      cases hI : sI S with
      | none =>
        rw [hI] at h
        exact (g 3 (by decide) (by decide)).trans h
      | some p =>
        rw [hI] at h
        exact ⟨(g 3 (by decide) (by decide)).trans h.1, CT_new (by decide) f h.2.1, CRw_fr (fun q a b => f _ (by omega) (by omega)) h.2.2⟩
    have tx0 : LR (Y 16 5) (Y 121) [] ∧ ∀ j, ∃ a, a < 128 ∧ Y 121 j = nI a := ⟨⟨y5, fun i h => absurd h (by simp)⟩, by rw [f 121 (by omega) (by decide)]; exact hC.2.2.2.1.2⟩
    have cr := CRw_fr (t := 25) (Y := Y) (fun q a b => f _ (by omega) (by omega)) hC.2.1
    have bc := BC_fr (f 122 (by omega) (by decide)) (f 123 (by omega) (by decide)) hC.2.2.2.2.2.1
    have cp := CP_fr (K' := kNew K (sX S).length) (f 139 (by omega) (by decide)) (f 140 (by omega) (by decide)) (fun _ _ => rfl) hC.2.2.2.2.2.2
    cases hb : R.1 with
    | false =>
      rw [hb, if_neg (by decide), if_neg (by decide)] at e
      rw [hb, if_neg (by decide)] at y6
      have hR1 := hRY (kNew K (sX S).length) rfl
      obtain ⟨Z, e2, f2, g2, z10, z8, z9, zk, _⟩ := c_wall (K := kNew K (sX S).length) (X := Y) (n := n + 6) (z := z + 9 + (sX S).length + 11 + (sX S).length + (sX S).length + (sX S).length) hR1.2.2.2.2.1 hl1 hR1.2.2.2.2.2.1 hw hR1.2.2.2.2.2.2.2.2.2 r2 r3
      rw [hb, if_neg (by decide)] at e2
      rw [hb, if_neg (by decide)] at z8 z9
      have hC1 : CInv (kNew K (sX S).length) Y (sT S, sR S, sI S, [], sW S, sS S, sP S) := ⟨CT_new (by decide) f hC.1, cr, im, tx0, y6, bc, cp⟩
      refine ⟨_, kNew K (sX S).length, Y, kNew K (sX S).length, Z, n + 6, _, e, e2, rfl, rfl, rfl, rfl, by show n + 6 = 186 + 6 * (kM K + 1); omega, Nat.le_refl _, by omega, (sT S, sR S, sI S, [], sW S, sS S, sP S), C_keep (fun q a => f2 q (by simp; omega)) (fun _ _ => rfl) rfl hC1, ?_, hP.1, hP.2.1, hP.2.2.1, Nat.zero_le _, hP.2.2.2.2⟩
      obtain ⟨h1, h2, h3, h4, h5, h6, h7, h8, h9, h10⟩ := hR1
      obtain ⟨a1, a2, a3, a4, a5, a6, a7⟩ := h1
      have l9 : RLw Z (sW S) (Z 141 9) (tL (sT S)) := by rw [z9]; exact zk _ _ h2
      refine ⟨⟨a1, by rw [g2 0 (by decide)]; exact a2, by rw [g2 1 (by decide)]; exact a3, by rw [g2 2 (by decide)]; exact a4, by rw [f2 142 (by decide), f2 143 (by decide), f2 144 (by decide), f2 145 (by decide)]; exact a5, by rw [f2 146 (by decide)]; exact a6, RLw_RLs (by omega) l9⟩, l9, RR_frm (fun q a => f2 q (by simp; omega)) ⟨g2 _ (by decide), g2 _ (by decide), g2 _ (by decide), g2 _ (by decide)⟩ h3, ?_, ⟨z10, fun i h => absurd h (Nat.not_lt_zero _)⟩, z8, ?_, ?_, ?_, ?_⟩
      · exact RIm_w (Nat.le_refl _) (by show sW S ≤ 6; omega) (fun q a => f2 q (by simp; omega)) (fun k a => g2 k (by simp; omega)) zk h4
      · unfold BD; rw [g2 66 (by decide), f2 181 (by decide)]; exact h7
      · unfold RP; rw [f2 182 (by decide), f2 183 (by decide)]; exact h8
      · rw [g2 27 (by decide)]; exact h9
      · rw [f2 155 (by decide)]; exact h10
    | true =>
      rw [hb, if_pos rfl, if_pos rfl] at e
      rw [hb, if_pos rfl] at y6
      have hR1 := hRY (setV (kNew K (sX S).length) 25 (.ref n)) rfl
      obtain ⟨Z, e2, f2, g2, z10, z8, z9, zk, zn⟩ := c_wall (K := setV (kNew K (sX S).length) 25 (.ref n)) (X := Y) (n := n + 6) (z := z + 9 + (sX S).length + 11 + (sX S).length + (sX S).length + (sX S).length) hR1.2.2.2.2.1 hl1 hR1.2.2.2.2.2.1 hw hR1.2.2.2.2.2.2.2.2.2 r2 r3
      rw [hb, if_pos rfl] at e2
      rw [hb, if_pos rfl] at z8 z9
      have im2 : CIm (setV (kNew K (sX S).length) 25 (.ref n)) Y (sI S) := by
        revert im
        cases sI S with
        | none => exact id
        | some p => exact id
      have hC1 : CInv (setV (kNew K (sX S).length) 25 (.ref n)) Y (tWl (sT S) R.2.2, sR S, sI S, [], sW S + 1, sS S, sP S) := by
        obtain ⟨b1, b2, b3, b4, b5, b6, _⟩ := CT_new (t := 25) (m := (sX S).length) (by decide) f hC.1
        exact ⟨⟨b1, b2, b3, b4, b5, b6, cw hb⟩, cr, im2, tx0, y6, bc, cp⟩
      refine ⟨_, setV (kNew K (sX S).length) 25 (.ref n), Y, setV (kNew K (sX S).length) 25 (.ref n), Z, n + 6, _, e, e2, rfl, rfl, rfl, rfl, by show n + 6 = 186 + 6 * (kM K + 1); omega, Nat.le_refl _, by omega, (tWl (sT S) R.2.2, sR S, sI S, [], sW S + 1, sS S, sP S), C_keep (fun q a => f2 q (by simp; omega)) (fun _ _ => rfl) rfl hC1, ?_, hP.1, hP.2.1, hP.2.2.1, Nat.zero_le _, hw, hP.2.2.2.2.2⟩
      obtain ⟨h1, h2, h3, h4, h5, h6, h7, h8, h9, h10⟩ := hR1
      obtain ⟨a1, a2, a3, a4, a5, a6, a7⟩ := h1
      have l9 : RLw Z (sW S + 1) (Z 141 9) R.2.2 := by rw [z9]; exact zn hb
      refine ⟨⟨a1, by rw [g2 0 (by decide)]; exact a2, by rw [g2 1 (by decide)]; exact a3, by rw [g2 2 (by decide)]; exact a4, by rw [f2 142 (by decide), f2 143 (by decide), f2 144 (by decide), f2 145 (by decide)]; exact a5, by rw [f2 146 (by decide)]; exact a6, RLw_RLs (by omega) l9⟩, l9, RR_frm (fun q a => f2 q (by simp; omega)) ⟨g2 _ (by decide), g2 _ (by decide), g2 _ (by decide), g2 _ (by decide)⟩ h3, ?_, ⟨z10, fun i h => absurd h (Nat.not_lt_zero _)⟩, z8, ?_, ?_, ?_, ?_⟩
      · exact RIm_w (Nat.le_succ _) (by show sW S + 1 ≤ 6; omega) (fun q a => f2 q (by simp; omega)) (fun k a => g2 k (by simp; omega)) zk h4
      · unfold BD; rw [g2 66 (by decide), f2 181 (by decide)]; exact h7
      · unfold RP; rw [f2 182 (by decide), f2 183 (by decide)]; exact h8
      · rw [g2 27 (by decide)]; exact h9
      · rw [f2 155 (by decide)]; exact h10
end
