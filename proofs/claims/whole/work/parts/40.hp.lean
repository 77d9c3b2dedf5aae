/-! The heap of the class and of the reference, as rows of numbers: X q is the row of cell q (an array's items, an object's whole numbers). -/
/-- rows of longs, the trees' walls, the walls' lengths, how many cells of walls, the script -/
abbrev KT : Type := (Nat → Nat → Int64) × (Nat → Value) × (Nat → Nat) × Nat × Nat × (Nat → Int32)
abbrev kJ (K : KT) : Nat → Nat → Int64 := K.1
abbrev kV (K : KT) : Nat → Value := K.2.1
abbrev kW (K : KT) : Nat → Nat := K.2.2.1
abbrev kM (K : KT) : Nat := K.2.2.2.1
abbrev kN (K : KT) : Nat := K.2.2.2.2.1
abbrev kS (K : KT) : Nat → Int32 := K.2.2.2.2.2
def setJ (K : KT) (q : Nat) (f : Nat → Int64) : KT := (fun a => if a = q then f else K.1 a, K.2)
def setV (K : KT) (q : Nat) (v : Value) : KT := (K.1, fun a => if a = q then v else K.2.1 a, K.2.2)
def set1 (X : Nat → Nat → Int32) (q : Nat) (f : Nat → Int32) : Nat → Nat → Int32 := fun a => if a = q then f else X a
def shl : List (Nat × Nat × Nat × Nat) := [(4, 11, 0, 0), (3, 7, 7, 18), (4, 5, 0, 0), (4, 2, 0, 0), (4, 4, 0, 0), (4, 0, 0, 0), (4, 9, 0, 0), (4, 3, 0, 0), (4, 7, 0, 0), (4, 8, 0, 0), (1, 0, 6, 0), (1, 0, 6, 0), (1, 0, 6, 0), (1, 0, 6, 0), (3, 5, 6, 31), (1, 0, 4, 0), (1, 0, 4, 0), (1, 0, 4, 0), (1, 0, 4, 0), (1, 0, 4, 0), (1, 0, 4, 0), (4, 6, 0, 0), (1, 0, 6, 0), (1, 0, 6, 0), (4, 6, 0, 0), (1, 0, 5, 0), (1, 0, 5, 0), (4, 6, 0, 0), (1, 0, 10, 0), (1, 0, 10, 0), (4, 6, 0, 0), (1, 0, 8, 0), (1, 0, 8, 0), (3, 5, 6, 50), (1, 0, 12, 0), (1, 0, 12, 0), (1, 0, 12, 0), (1, 0, 12, 0), (1, 0, 12, 0), (1, 0, 12, 0), (1, 0, 6, 0), (4, 8, 0, 0), (1, 0, 6, 0), (1, 0, 6, 0), (1, 0, 6, 0), (1, 0, 6, 0), (3, 5, 6, 63), (1, 0, 4, 0), (1, 0, 4, 0), (1, 0, 4, 0), (1, 0, 4, 0), (1, 0, 4, 0), (1, 0, 4, 0), (4, 6, 0, 0), (1, 0, 6, 0), (1, 0, 6, 0), (4, 6, 0, 0), (1, 0, 5, 0), (1, 0, 5, 0), (4, 6, 0, 0), (1, 0, 10, 0), (1, 0, 10, 0), (4, 6, 0, 0), (1, 0, 8, 0), (1, 0, 8, 0), (3, 5, 6, 82), (1, 0, 12, 0), (1, 0, 12, 0), (1, 0, 12, 0), (1, 0, 12, 0), (1, 0, 12, 0), (1, 0, 12, 0), (1, 0, 6, 0), (4, 8, 0, 0), (1, 0, 6, 0), (1, 0, 6, 0), (1, 0, 6, 0), (1, 0, 6, 0), (3, 5, 6, 95), (1, 0, 4, 0), (1, 0, 4, 0), (1, 0, 4, 0), (1, 0, 4, 0), (1, 0, 4, 0), (1, 0, 4, 0), (4, 6, 0, 0), (1, 0, 6, 0), (1, 0, 6, 0), (4, 6, 0, 0), (1, 0, 5, 0), (1, 0, 5, 0), (4, 6, 0, 0), (1, 0, 10, 0), (1, 0, 10, 0), (4, 6, 0, 0), (1, 0, 8, 0), (1, 0, 8, 0), (3, 5, 6, 114), (1, 0, 12, 0), (1, 0, 12, 0), (1, 0, 12, 0), (1, 0, 12, 0), (1, 0, 12, 0), (1, 0, 12, 0), (1, 0, 6, 0), (1, 1, 100, 0), (4, 1, 0, 0), (1, 0, 20, 0), (3, 5, 7, 125), (1, 0, 64, 0), (1, 0, 64, 0), (1, 0, 64, 0), (1, 0, 64, 0), (1, 0, 64, 0), (1, 0, 64, 0), (1, 0, 64, 0), (3, 6, 6, 133), (2, 60, 0, 0), (2, 60, 0, 0), (2, 60, 0, 0), (2, 60, 0, 0), (2, 60, 0, 0), (2, 60, 0, 0), (1, 0, 6, 0), (1, 0, 6, 0), (4, 12, 0, 0), (1, 0, 6, 0), (1, 0, 6, 0), (1, 0, 6, 0), (1, 0, 6, 0), (1, 0, 24, 0), (1, 0, 100, 0), (1, 0, 6, 0), (1, 0, 60, 0), (1, 0, 60, 0), (1, 0, 60, 0), (1, 0, 60, 0), (1, 0, 600, 0), (1, 0, 101, 0), (1, 0, 12, 0), (1, 3, 100, 0), (1, 0, 6, 0), (1, 0, 6, 0), (1, 0, 6, 0), (1, 0, 6, 0), (1, 0, 6, 0), (1, 0, 6, 0), (1, 0, 5, 0), (1, 0, 5, 0), (1, 0, 10, 0), (1, 0, 10, 0), (1, 0, 8, 0), (1, 0, 8, 0), (1, 0, 6, 0), (1, 0, 6, 0), (1, 0, 6, 0), (1, 0, 6, 0), (1, 0, 24, 0), (1, 0, 6, 0), (1, 0, 5, 0), (1, 0, 5, 0), (1, 0, 10, 0), (1, 0, 10, 0), (1, 0, 8, 0), (1, 0, 8, 0), (1, 0, 20, 0), (1, 0, 6, 0), (1, 0, 6, 0), (2, 360, 0, 0), (2, 60, 0, 0)]
def wsh (K : KT) (d : Nat) : Nat × Nat × Nat × Nat := if d < 6 * kM K then (if d % 6 = 0 then (4, 10, 0, 0) else if d % 6 = 1 then (1, 1, kW K (d / 6), 0) else if d % 6 = 2 then (1, 0, 11, 0) else if d % 6 = 5 then (1, 0, kW K (d / 6), 0) else (1, 2, kW K (d / 6), 0)) else (0, 0, 0, 0)
def shp (K : KT) (q : Nat) : Nat × Nat × Nat × Nat := if q < 16 then (0, 0, 0, 0) else if q < 186 then shl.getD (q - 16) (0, 0, 0, 0) else wsh K (q - 186)
def mref : List Nat := [0, 0, 0, 142, 143, 144, 145, 146, 0, 0, 0, 0, 0, 147, 148, 149, 150, 151, 152, 153, 154, 0, 0, 0, 155, 156, 157, 0, 0, 0, 158, 159, 0, 160, 161, 162, 0, 163, 164, 0, 0, 165, 166, 167, 168, 0, 0, 0, 0, 0, 0, 0, 0, 0, 169, 170, 171, 172, 173, 174, 175, 176, 177, 178, 179, 180, 0, 181, 182, 183, 184, 185]
/-- the fields of an object that are no whole numbers -/
def ofr0 (K : KT) (q ci k : Nat) : Option Value := match ci with
  | 8 => if k = 0 then some (.ref 17) else if k < 4 then none else if k = 4 then some (kV K q) else if k < 10 then some (.ref (q + (k - 4))) else if k < 15 then some (.ref (q + 12 + 3 * (k - 10))) else some (.ref (q + 31))
  | 6 => if k = 0 then some (.ref (q + 1)) else if k = 1 then some (.ref (q + 2)) else none
  | 1 => if k = 2 then some (.ref 123) else none
  | 10 => if k = 0 then some (.ref (q + 1)) else if k = 8 then some (.ref (q + 2)) else if k = 4 then some (.ref (q + 3)) else if k = 5 then some (.ref (q + 4)) else if k = 6 then some (.ref (q + 5)) else none
  | 11 => if k = 0 then some (.ref 25) else if k = 1 then some (.ref 57) else if k = 2 then some (.ref 89) else if k = 4 then some (.ref 121) else if k = 7 then some (.ref 122) else if k = 8 then some (.ref 124) else if k = 9 then some (.ref 132) else if k = 10 then some (.ref 139) else if k = 11 then some (.ref 140) else none
  | 12 => if mref.getD k 0 = 0 then none else some (.ref (mref.getD k 0))
  | _ => none
/-- behind the last field there is what a new object has -/
def ofr (K : KT) (q ci k : Nat) : Option Value := if fnum ci ≤ k then some (defaultValue (fty ci k)) else ofr0 K q ci k
def ofl (K : KT) (X : Nat → Nat → Int32) (q ci k : Nat) : Value := match ofr K q ci k with
  | some v => v
  | none => .int (X q k)
def pc0 (n : Nat) (xs : Nat → Int32) (a : Nat) : Cl :=
  if a = 0 then iA 10 n xs else if a = 1 then iA 10 7 abv else if a < 6 then ob 20 (fun k => if k = 0 then .ref (a + 4) else .int 0) else iA 11 (txl.getD (a - 6) 0) (fun j => (txs.getD (a - 6) []).getD j 0)
def cel (K : KT) (X : Nat → Nat → Int32) (q : Nat) (s : Nat × Nat × Nat × Nat) : Cl :=
  if s.1 = 1 then iA s.2.1 s.2.2.1 (X q) else if s.1 = 2 then jA s.2.1 (kJ K q) else if s.1 = 3 then rA s.2.1 s.2.2.1 (fun i => if i < s.2.2.1 then some (s.2.2.2 + i) else none) else if s.1 = 4 then ob s.2.1 (ofl K X q s.2.1) else if q < 10 then pc0 (kN K) (kS K) q else em
def hp (K : KT) (X : Nat → Nat → Int32) : Nat → Cl := fun q => cel K X q (shp K q)
theorem hp_congr {K : KT} {X Y : Nat → Nat → Int32} {q : Nat} (h : X q = Y q) : hp K X q = hp K Y q := by
  have hf : ∀ ci, ofl K X q ci = ofl K Y q ci := fun ci => by funext k; unfold ofl; rw [h]
  unfold hp cel
  rw [h, hf]
theorem hp_i {K : KT} {X : Nat → Nat → Int32} {q t n b : Nat} (h : shp K q = (1, t, n, b)) : hp K X q = iA t n (X q) := by
  unfold hp cel; rw [h]; rfl
theorem hp_j {K : KT} {X : Nat → Nat → Int32} {q n b d : Nat} (h : shp K q = (2, n, b, d)) : hp K X q = jA n (kJ K q) := by
  unfold hp cel; rw [h]; rfl
theorem hp_r {K : KT} {X : Nat → Nat → Int32} {q t n b : Nat} (h : shp K q = (3, t, n, b)) : hp K X q = rA t n (fun i => if i < n then some (b + i) else none) := by
  unfold hp cel; rw [h]; rfl
theorem hp_o {K : KT} {X : Nat → Nat → Int32} {q ci a b : Nat} (h : shp K q = (4, ci, a, b)) : hp K X q = ob ci (ofl K X q ci) := by
  unfold hp cel; rw [h]; rfl
theorem hw_i {K : KT} {X : Nat → Nat → Int32} {q t n b : Nat} {f : Nat → Int32} (h : shp K q = (1, t, n, b)) : uph (hp K X) q (iA t n f) = hp K (set1 X q f) := by
  funext a
  unfold uph
  by_cases e : a = q
  · subst e
    rw [if_pos rfl, hp_i h]
    unfold set1
    rw [if_pos rfl]
  · rw [if_neg e]
    exact hp_congr (by unfold set1; rw [if_neg e])
theorem hw_o {K : KT} {X : Nat → Nat → Int32} {q ci k a b : Nat} {x : Int32} (h : shp K q = (4, ci, a, b)) (hk : ofr K q ci k = none) : uph (hp K X) q (stf (ob ci (ofl K X q ci)) k (.int x)) = hp K (set1 X q (upd (X q) k x)) := by
  funext c
  unfold uph
  by_cases e : c = q
  · subst e
    rw [if_pos rfl, hp_o h]
    show Sum.inr (ci, updV (ofl K X c ci) k (.int x)) = Sum.inr (ci, _)
    congr 2
    funext j
    unfold updV ofl set1
    rw [if_pos rfl]
    by_cases ej : j = k
    · subst ej
      rw [if_pos rfl, hk]
      simp [upd]
    · rw [if_neg ej]
      cases ofr K c ci j with
      | some v => rfl
      | none => simp [upd, ej]
  · rw [if_neg e]
    exact hp_congr (by unfold set1; rw [if_neg e])
theorem shp_setJ (K : KT) (a : Nat) (f : Nat → Int64) (q : Nat) : shp (setJ K a f) q = shp K q := rfl
theorem shp_setV (K : KT) (a : Nat) (v : Value) (q : Nat) : shp (setV K a v) q = shp K q := rfl
theorem hw_j {K : KT} {X : Nat → Nat → Int32} {q n b d : Nat} {f : Nat → Int64} (h : shp K q = (2, n, b, d)) : uph (hp K X) q (jA n f) = hp (setJ K q f) X := by
  funext a
  unfold uph
  by_cases e : a = q
  · subst e
    rw [if_pos rfl, hp_j (K := setJ K a f) h]
    show jA n f = jA n (if a = a then f else kJ K a)
    rw [if_pos rfl]
  · rw [if_neg e]
    have hf : ∀ ci, ofl K X a ci = ofl (setJ K q f) X a ci := fun ci => rfl
    unfold hp cel
    rw [shp_setJ, hf]
    show _ = (if _ then _ else if _ then jA _ (if a = q then f else kJ K a) else _)
    rw [if_neg e]
    rfl
theorem hw_v {K : KT} {X : Nat → Nat → Int32} {q a b : Nat} {v : Value} (h : shp K q = (4, 8, a, b)) : uph (hp K X) q (stf (ob 8 (ofl K X q 8)) 4 v) = hp (setV K q v) X := by
  funext c
  unfold uph
  by_cases e : c = q
  · subst e
    rw [if_pos rfl, hp_o (K := setV K c v) h]
    show Sum.inr (8, updV (ofl K X c 8) 4 v) = Sum.inr (8, _)
    congr 2
    funext j
    unfold updV
    by_cases ej : j = 4
    · subst ej
      rw [if_pos rfl]
      show v = (if c = c then v else kV K c)
      rw [if_pos rfl]
    · rw [if_neg ej]
      unfold ofl
      have : ofr (setV K c v) c 8 j = ofr K c 8 j := by
        unfold ofr
        congr 1
        show (if j = 0 then _ else if j < 4 then _ else if j = 4 then _ else _) = (if j = 0 then _ else if j < 4 then _ else if j = 4 then _ else _)
        rw [if_neg ej, if_neg ej]
      rw [this]
  · rw [if_neg e]
    have hf : ∀ ci, ofl K X c ci = ofl (setV K q v) X c ci := fun ci => by
      funext k
      unfold ofl
      have : ofr (setV K q v) c ci k = ofr K c ci k := by
        unfold ofr
        congr 1
        unfold ofr0
        split
        · show (if k = 0 then _ else if k < 4 then _ else if k = 4 then some (if c = q then v else kV K c) else _) = _
          rw [if_neg e]
        all_goals rfl
      rw [this]
    unfold hp cel
    rw [shp_setV, hf]
    rfl
theorem set1_same (X : Nat → Nat → Int32) (q : Nat) (f : Nat → Int32) : set1 X q f q = f := if_pos rfl
theorem set1_ne (X : Nat → Nat → Int32) {q a : Nat} (f : Nat → Int32) (h : a ≠ q) : set1 X q f a = X a := if_neg h
theorem set1_twice (X : Nat → Nat → Int32) (q : Nat) (f g : Nat → Int32) : set1 (set1 X q f) q g = set1 X q g := by
  funext a
  unfold set1
  split <;> rfl
theorem kd_i0 (n : Nat) (f : Nat → Int32) : kd (iA 0 n f) = 0 := rfl
theorem kd_i1 (n : Nat) (f : Nat → Int32) : kd (iA 1 n f) = 1 := rfl
theorem kd_i2 (n : Nat) (f : Nat → Int32) : kd (iA 2 n f) = 2 := rfl
theorem kd_i3 (n : Nat) (f : Nat → Int32) : kd (iA 3 n f) = 3 := rfl
theorem kd_i10 (n : Nat) (f : Nat → Int32) : kd (iA 10 n f) = 10 := rfl
theorem kd_i11 (n : Nat) (f : Nat → Int32) : kd (iA 11 n f) = 11 := rfl
theorem kd_jA (n : Nat) (f : Nat → Int64) : kd (jA n f) = 4 := rfl
theorem kd_r5 (n : Nat) (f : Nat → Option Nat) : kd (rA 5 n f) = 5 := rfl
theorem kd_r6 (n : Nat) (f : Nat → Option Nat) : kd (rA 6 n f) = 6 := rfl
theorem kd_r7 (n : Nat) (f : Nat → Option Nat) : kd (rA 7 n f) = 7 := rfl
theorem al_i (t n : Nat) (f : Nat → Int32) : al (iA t n f) = n := rfl
theorem al_j (n : Nat) (f : Nat → Int64) : al (jA n f) = n := rfl
theorem al_r (t n : Nat) (f : Nat → Option Nat) : al (rA t n f) = n := rfl
theorem ai_i (t n j : Nat) (f : Nat → Int32) : ai (iA t n f) j = f j := rfl
theorem aj_j (n j : Nat) (f : Nat → Int64) : aj (jA n f) j = f j := rfl
theorem aq_r (t n j : Nat) (f : Nat → Option Nat) : aq (rA t n f) j = va_rf (f j) := rfl
theorem cls_o (c : Nat) (f : Nat → Value) : cls (ob c f) = c := rfl
theorem fv_o (c k : Nat) (f : Nat → Value) : fv (ob c f) k = f k := rfl
theorem sti_i (t n j : Nat) (f : Nat → Int32) (x : Int32) : sti (iA t n f) j x = iA t n (upd f j x) := rfl
theorem stj_j (n j : Nat) (f : Nat → Int64) (x : Int64) : stj (jA n f) j x = jA n (vp_updL f j x) := rfl
theorem st2_s (x : Value) (st : List Value) : st2 (some x) st = x :: st := rfl
theorem st2_n (st : List Value) : st2 none st = st := rfl
theorem ix_nI {p n : Nat} (h : p < n) (hn : n < 2147483648) : ix (nI p) n = true := decide_eq_true (nI_in h hn)
theorem cx_nI {p : Nat} (h : p < 2147483648) : cx (nI p) = p := nI_clamp h
theorem hc_16 (K : KT) (X : Nat → Nat → Int32) : hp K X 16 = ob 11 (ofl K X 16 11) := hp_o rfl
theorem of_16_0 (K : KT) (X : Nat → Nat → Int32) : ofl K X 16 11 0 = .ref 25 := rfl
theorem of_16_1 (K : KT) (X : Nat → Nat → Int32) : ofl K X 16 11 1 = .ref 57 := rfl
theorem of_16_2 (K : KT) (X : Nat → Nat → Int32) : ofl K X 16 11 2 = .ref 89 := rfl
theorem of_16_3 (K : KT) (X : Nat → Nat → Int32) : ofl K X 16 11 3 = .int (X 16 3) := rfl
theorem ow_16_3 (K : KT) (X : Nat → Nat → Int32) (x : Int32) : uph (hp K X) 16 (stf (ob 11 (ofl K X 16 11)) 3 (.int x)) = hp K (set1 X 16 (upd (X 16) 3 x)) := hw_o rfl rfl
theorem of_16_4 (K : KT) (X : Nat → Nat → Int32) : ofl K X 16 11 4 = .ref 121 := rfl
theorem of_16_5 (K : KT) (X : Nat → Nat → Int32) : ofl K X 16 11 5 = .int (X 16 5) := rfl
theorem ow_16_5 (K : KT) (X : Nat → Nat → Int32) (x : Int32) : uph (hp K X) 16 (stf (ob 11 (ofl K X 16 11)) 5 (.int x)) = hp K (set1 X 16 (upd (X 16) 5 x)) := hw_o rfl rfl
theorem of_16_6 (K : KT) (X : Nat → Nat → Int32) : ofl K X 16 11 6 = .int (X 16 6) := rfl
theorem ow_16_6 (K : KT) (X : Nat → Nat → Int32) (x : Int32) : uph (hp K X) 16 (stf (ob 11 (ofl K X 16 11)) 6 (.int x)) = hp K (set1 X 16 (upd (X 16) 6 x)) := hw_o rfl rfl
theorem of_16_7 (K : KT) (X : Nat → Nat → Int32) : ofl K X 16 11 7 = .ref 122 := rfl
theorem of_16_8 (K : KT) (X : Nat → Nat → Int32) : ofl K X 16 11 8 = .ref 124 := rfl
theorem of_16_9 (K : KT) (X : Nat → Nat → Int32) : ofl K X 16 11 9 = .ref 132 := rfl
theorem of_16_10 (K : KT) (X : Nat → Nat → Int32) : ofl K X 16 11 10 = .ref 139 := rfl
theorem of_16_11 (K : KT) (X : Nat → Nat → Int32) : ofl K X 16 11 11 = .ref 140 := rfl
theorem hc_17 (K : KT) (X : Nat → Nat → Int32) : hp K X 17 = rA 7 7 (fun i => if i < 7 then some (18 + i) else none) := hp_r rfl
theorem hc_18 (K : KT) (X : Nat → Nat → Int32) : hp K X 18 = ob 5 (ofl K X 18 5) := hp_o rfl
theorem hc_19 (K : KT) (X : Nat → Nat → Int32) : hp K X 19 = ob 2 (ofl K X 19 2) := hp_o rfl
theorem hc_20 (K : KT) (X : Nat → Nat → Int32) : hp K X 20 = ob 4 (ofl K X 20 4) := hp_o rfl
theorem hc_21 (K : KT) (X : Nat → Nat → Int32) : hp K X 21 = ob 0 (ofl K X 21 0) := hp_o rfl
theorem hc_22 (K : KT) (X : Nat → Nat → Int32) : hp K X 22 = ob 9 (ofl K X 22 9) := hp_o rfl
theorem hc_23 (K : KT) (X : Nat → Nat → Int32) : hp K X 23 = ob 3 (ofl K X 23 3) := hp_o rfl
theorem hc_24 (K : KT) (X : Nat → Nat → Int32) : hp K X 24 = ob 7 (ofl K X 24 7) := hp_o rfl
theorem hc_25 (K : KT) (X : Nat → Nat → Int32) : hp K X 25 = ob 8 (ofl K X 25 8) := hp_o rfl
theorem of_25_0 (K : KT) (X : Nat → Nat → Int32) : ofl K X 25 8 0 = .ref 17 := rfl
theorem of_25_1 (K : KT) (X : Nat → Nat → Int32) : ofl K X 25 8 1 = .int (X 25 1) := rfl
theorem ow_25_1 (K : KT) (X : Nat → Nat → Int32) (x : Int32) : uph (hp K X) 25 (stf (ob 8 (ofl K X 25 8)) 1 (.int x)) = hp K (set1 X 25 (upd (X 25) 1 x)) := hw_o rfl rfl
theorem of_25_2 (K : KT) (X : Nat → Nat → Int32) : ofl K X 25 8 2 = .int (X 25 2) := rfl
theorem ow_25_2 (K : KT) (X : Nat → Nat → Int32) (x : Int32) : uph (hp K X) 25 (stf (ob 8 (ofl K X 25 8)) 2 (.int x)) = hp K (set1 X 25 (upd (X 25) 2 x)) := hw_o rfl rfl
theorem of_25_3 (K : KT) (X : Nat → Nat → Int32) : ofl K X 25 8 3 = .int (X 25 3) := rfl
theorem ow_25_3 (K : KT) (X : Nat → Nat → Int32) (x : Int32) : uph (hp K X) 25 (stf (ob 8 (ofl K X 25 8)) 3 (.int x)) = hp K (set1 X 25 (upd (X 25) 3 x)) := hw_o rfl rfl
theorem of_25_4 (K : KT) (X : Nat → Nat → Int32) : ofl K X 25 8 4 = kV K 25 := rfl
theorem ow_25_4 (K : KT) (X : Nat → Nat → Int32) (v : Value) : uph (hp K X) 25 (stf (ob 8 (ofl K X 25 8)) 4 v) = hp (setV K 25 v) X := hw_v rfl
theorem of_25_5 (K : KT) (X : Nat → Nat → Int32) : ofl K X 25 8 5 = .ref 26 := rfl
theorem of_25_6 (K : KT) (X : Nat → Nat → Int32) : ofl K X 25 8 6 = .ref 27 := rfl
theorem of_25_7 (K : KT) (X : Nat → Nat → Int32) : ofl K X 25 8 7 = .ref 28 := rfl
theorem of_25_8 (K : KT) (X : Nat → Nat → Int32) : ofl K X 25 8 8 = .ref 29 := rfl
theorem of_25_9 (K : KT) (X : Nat → Nat → Int32) : ofl K X 25 8 9 = .ref 30 := rfl
theorem of_25_10 (K : KT) (X : Nat → Nat → Int32) : ofl K X 25 8 10 = .ref 37 := rfl
theorem of_25_11 (K : KT) (X : Nat → Nat → Int32) : ofl K X 25 8 11 = .ref 40 := rfl
theorem of_25_12 (K : KT) (X : Nat → Nat → Int32) : ofl K X 25 8 12 = .ref 43 := rfl
theorem of_25_13 (K : KT) (X : Nat → Nat → Int32) : ofl K X 25 8 13 = .ref 46 := rfl
theorem of_25_14 (K : KT) (X : Nat → Nat → Int32) : ofl K X 25 8 14 = .ref 49 := rfl
theorem of_25_15 (K : KT) (X : Nat → Nat → Int32) : ofl K X 25 8 15 = .ref 56 := rfl
theorem hc_26 (K : KT) (X : Nat → Nat → Int32) : hp K X 26 = iA 0 6 (X 26) := hp_i rfl
theorem hw_26 (K : KT) (X : Nat → Nat → Int32) (f : Nat → Int32) : uph (hp K X) 26 (iA 0 6 f) = hp K (set1 X 26 f) := hw_i rfl
theorem hc_27 (K : KT) (X : Nat → Nat → Int32) : hp K X 27 = iA 0 6 (X 27) := hp_i rfl
theorem hw_27 (K : KT) (X : Nat → Nat → Int32) (f : Nat → Int32) : uph (hp K X) 27 (iA 0 6 f) = hp K (set1 X 27 f) := hw_i rfl
theorem hc_28 (K : KT) (X : Nat → Nat → Int32) : hp K X 28 = iA 0 6 (X 28) := hp_i rfl
theorem hw_28 (K : KT) (X : Nat → Nat → Int32) (f : Nat → Int32) : uph (hp K X) 28 (iA 0 6 f) = hp K (set1 X 28 f) := hw_i rfl
theorem hc_29 (K : KT) (X : Nat → Nat → Int32) : hp K X 29 = iA 0 6 (X 29) := hp_i rfl
theorem hw_29 (K : KT) (X : Nat → Nat → Int32) (f : Nat → Int32) : uph (hp K X) 29 (iA 0 6 f) = hp K (set1 X 29 f) := hw_i rfl
theorem hc_30 (K : KT) (X : Nat → Nat → Int32) : hp K X 30 = rA 5 6 (fun i => if i < 6 then some (31 + i) else none) := hp_r rfl
theorem hc_31 (K : KT) (X : Nat → Nat → Int32) : hp K X 31 = iA 0 4 (X 31) := hp_i rfl
theorem hw_31 (K : KT) (X : Nat → Nat → Int32) (f : Nat → Int32) : uph (hp K X) 31 (iA 0 4 f) = hp K (set1 X 31 f) := hw_i rfl
theorem hc_32 (K : KT) (X : Nat → Nat → Int32) : hp K X 32 = iA 0 4 (X 32) := hp_i rfl
theorem hw_32 (K : KT) (X : Nat → Nat → Int32) (f : Nat → Int32) : uph (hp K X) 32 (iA 0 4 f) = hp K (set1 X 32 f) := hw_i rfl
theorem hc_33 (K : KT) (X : Nat → Nat → Int32) : hp K X 33 = iA 0 4 (X 33) := hp_i rfl
theorem hw_33 (K : KT) (X : Nat → Nat → Int32) (f : Nat → Int32) : uph (hp K X) 33 (iA 0 4 f) = hp K (set1 X 33 f) := hw_i rfl
theorem hc_34 (K : KT) (X : Nat → Nat → Int32) : hp K X 34 = iA 0 4 (X 34) := hp_i rfl
theorem hw_34 (K : KT) (X : Nat → Nat → Int32) (f : Nat → Int32) : uph (hp K X) 34 (iA 0 4 f) = hp K (set1 X 34 f) := hw_i rfl
theorem hc_35 (K : KT) (X : Nat → Nat → Int32) : hp K X 35 = iA 0 4 (X 35) := hp_i rfl
theorem hw_35 (K : KT) (X : Nat → Nat → Int32) (f : Nat → Int32) : uph (hp K X) 35 (iA 0 4 f) = hp K (set1 X 35 f) := hw_i rfl
theorem hc_36 (K : KT) (X : Nat → Nat → Int32) : hp K X 36 = iA 0 4 (X 36) := hp_i rfl
theorem hw_36 (K : KT) (X : Nat → Nat → Int32) (f : Nat → Int32) : uph (hp K X) 36 (iA 0 4 f) = hp K (set1 X 36 f) := hw_i rfl
theorem hc_37 (K : KT) (X : Nat → Nat → Int32) : hp K X 37 = ob 6 (ofl K X 37 6) := hp_o rfl
theorem of_37_0 (K : KT) (X : Nat → Nat → Int32) : ofl K X 37 6 0 = .ref 38 := rfl
theorem of_37_1 (K : KT) (X : Nat → Nat → Int32) : ofl K X 37 6 1 = .ref 39 := rfl
theorem of_37_2 (K : KT) (X : Nat → Nat → Int32) : ofl K X 37 6 2 = .int (X 37 2) := rfl
theorem ow_37_2 (K : KT) (X : Nat → Nat → Int32) (x : Int32) : uph (hp K X) 37 (stf (ob 6 (ofl K X 37 6)) 2 (.int x)) = hp K (set1 X 37 (upd (X 37) 2 x)) := hw_o rfl rfl
theorem hc_38 (K : KT) (X : Nat → Nat → Int32) : hp K X 38 = iA 0 6 (X 38) := hp_i rfl
theorem hw_38 (K : KT) (X : Nat → Nat → Int32) (f : Nat → Int32) : uph (hp K X) 38 (iA 0 6 f) = hp K (set1 X 38 f) := hw_i rfl
theorem hc_39 (K : KT) (X : Nat → Nat → Int32) : hp K X 39 = iA 0 6 (X 39) := hp_i rfl
theorem hw_39 (K : KT) (X : Nat → Nat → Int32) (f : Nat → Int32) : uph (hp K X) 39 (iA 0 6 f) = hp K (set1 X 39 f) := hw_i rfl
theorem hc_40 (K : KT) (X : Nat → Nat → Int32) : hp K X 40 = ob 6 (ofl K X 40 6) := hp_o rfl
theorem of_40_0 (K : KT) (X : Nat → Nat → Int32) : ofl K X 40 6 0 = .ref 41 := rfl
theorem of_40_1 (K : KT) (X : Nat → Nat → Int32) : ofl K X 40 6 1 = .ref 42 := rfl
theorem of_40_2 (K : KT) (X : Nat → Nat → Int32) : ofl K X 40 6 2 = .int (X 40 2) := rfl
theorem ow_40_2 (K : KT) (X : Nat → Nat → Int32) (x : Int32) : uph (hp K X) 40 (stf (ob 6 (ofl K X 40 6)) 2 (.int x)) = hp K (set1 X 40 (upd (X 40) 2 x)) := hw_o rfl rfl
theorem hc_41 (K : KT) (X : Nat → Nat → Int32) : hp K X 41 = iA 0 5 (X 41) := hp_i rfl
theorem hw_41 (K : KT) (X : Nat → Nat → Int32) (f : Nat → Int32) : uph (hp K X) 41 (iA 0 5 f) = hp K (set1 X 41 f) := hw_i rfl
theorem hc_42 (K : KT) (X : Nat → Nat → Int32) : hp K X 42 = iA 0 5 (X 42) := hp_i rfl
theorem hw_42 (K : KT) (X : Nat → Nat → Int32) (f : Nat → Int32) : uph (hp K X) 42 (iA 0 5 f) = hp K (set1 X 42 f) := hw_i rfl
theorem hc_43 (K : KT) (X : Nat → Nat → Int32) : hp K X 43 = ob 6 (ofl K X 43 6) := hp_o rfl
theorem of_43_0 (K : KT) (X : Nat → Nat → Int32) : ofl K X 43 6 0 = .ref 44 := rfl
theorem of_43_1 (K : KT) (X : Nat → Nat → Int32) : ofl K X 43 6 1 = .ref 45 := rfl
theorem of_43_2 (K : KT) (X : Nat → Nat → Int32) : ofl K X 43 6 2 = .int (X 43 2) := rfl
theorem ow_43_2 (K : KT) (X : Nat → Nat → Int32) (x : Int32) : uph (hp K X) 43 (stf (ob 6 (ofl K X 43 6)) 2 (.int x)) = hp K (set1 X 43 (upd (X 43) 2 x)) := hw_o rfl rfl
theorem hc_44 (K : KT) (X : Nat → Nat → Int32) : hp K X 44 = iA 0 10 (X 44) := hp_i rfl
theorem hw_44 (K : KT) (X : Nat → Nat → Int32) (f : Nat → Int32) : uph (hp K X) 44 (iA 0 10 f) = hp K (set1 X 44 f) := hw_i rfl
theorem hc_45 (K : KT) (X : Nat → Nat → Int32) : hp K X 45 = iA 0 10 (X 45) := hp_i rfl
theorem hw_45 (K : KT) (X : Nat → Nat → Int32) (f : Nat → Int32) : uph (hp K X) 45 (iA 0 10 f) = hp K (set1 X 45 f) := hw_i rfl
theorem hc_46 (K : KT) (X : Nat → Nat → Int32) : hp K X 46 = ob 6 (ofl K X 46 6) := hp_o rfl
theorem of_46_0 (K : KT) (X : Nat → Nat → Int32) : ofl K X 46 6 0 = .ref 47 := rfl
theorem of_46_1 (K : KT) (X : Nat → Nat → Int32) : ofl K X 46 6 1 = .ref 48 := rfl
theorem of_46_2 (K : KT) (X : Nat → Nat → Int32) : ofl K X 46 6 2 = .int (X 46 2) := rfl
theorem ow_46_2 (K : KT) (X : Nat → Nat → Int32) (x : Int32) : uph (hp K X) 46 (stf (ob 6 (ofl K X 46 6)) 2 (.int x)) = hp K (set1 X 46 (upd (X 46) 2 x)) := hw_o rfl rfl
theorem hc_47 (K : KT) (X : Nat → Nat → Int32) : hp K X 47 = iA 0 8 (X 47) := hp_i rfl
theorem hw_47 (K : KT) (X : Nat → Nat → Int32) (f : Nat → Int32) : uph (hp K X) 47 (iA 0 8 f) = hp K (set1 X 47 f) := hw_i rfl
theorem hc_48 (K : KT) (X : Nat → Nat → Int32) : hp K X 48 = iA 0 8 (X 48) := hp_i rfl
theorem hw_48 (K : KT) (X : Nat → Nat → Int32) (f : Nat → Int32) : uph (hp K X) 48 (iA 0 8 f) = hp K (set1 X 48 f) := hw_i rfl
theorem hc_49 (K : KT) (X : Nat → Nat → Int32) : hp K X 49 = rA 5 6 (fun i => if i < 6 then some (50 + i) else none) := hp_r rfl
theorem hc_50 (K : KT) (X : Nat → Nat → Int32) : hp K X 50 = iA 0 12 (X 50) := hp_i rfl
theorem hw_50 (K : KT) (X : Nat → Nat → Int32) (f : Nat → Int32) : uph (hp K X) 50 (iA 0 12 f) = hp K (set1 X 50 f) := hw_i rfl
theorem hc_51 (K : KT) (X : Nat → Nat → Int32) : hp K X 51 = iA 0 12 (X 51) := hp_i rfl
theorem hw_51 (K : KT) (X : Nat → Nat → Int32) (f : Nat → Int32) : uph (hp K X) 51 (iA 0 12 f) = hp K (set1 X 51 f) := hw_i rfl
theorem hc_52 (K : KT) (X : Nat → Nat → Int32) : hp K X 52 = iA 0 12 (X 52) := hp_i rfl
theorem hw_52 (K : KT) (X : Nat → Nat → Int32) (f : Nat → Int32) : uph (hp K X) 52 (iA 0 12 f) = hp K (set1 X 52 f) := hw_i rfl
theorem hc_53 (K : KT) (X : Nat → Nat → Int32) : hp K X 53 = iA 0 12 (X 53) := hp_i rfl
theorem hw_53 (K : KT) (X : Nat → Nat → Int32) (f : Nat → Int32) : uph (hp K X) 53 (iA 0 12 f) = hp K (set1 X 53 f) := hw_i rfl
theorem hc_54 (K : KT) (X : Nat → Nat → Int32) : hp K X 54 = iA 0 12 (X 54) := hp_i rfl
theorem hw_54 (K : KT) (X : Nat → Nat → Int32) (f : Nat → Int32) : uph (hp K X) 54 (iA 0 12 f) = hp K (set1 X 54 f) := hw_i rfl
theorem hc_55 (K : KT) (X : Nat → Nat → Int32) : hp K X 55 = iA 0 12 (X 55) := hp_i rfl
theorem hw_55 (K : KT) (X : Nat → Nat → Int32) (f : Nat → Int32) : uph (hp K X) 55 (iA 0 12 f) = hp K (set1 X 55 f) := hw_i rfl
theorem hc_56 (K : KT) (X : Nat → Nat → Int32) : hp K X 56 = iA 0 6 (X 56) := hp_i rfl
theorem hw_56 (K : KT) (X : Nat → Nat → Int32) (f : Nat → Int32) : uph (hp K X) 56 (iA 0 6 f) = hp K (set1 X 56 f) := hw_i rfl
theorem hc_57 (K : KT) (X : Nat → Nat → Int32) : hp K X 57 = ob 8 (ofl K X 57 8) := hp_o rfl
theorem of_57_0 (K : KT) (X : Nat → Nat → Int32) : ofl K X 57 8 0 = .ref 17 := rfl
theorem of_57_1 (K : KT) (X : Nat → Nat → Int32) : ofl K X 57 8 1 = .int (X 57 1) := rfl
theorem ow_57_1 (K : KT) (X : Nat → Nat → Int32) (x : Int32) : uph (hp K X) 57 (stf (ob 8 (ofl K X 57 8)) 1 (.int x)) = hp K (set1 X 57 (upd (X 57) 1 x)) := hw_o rfl rfl
theorem of_57_2 (K : KT) (X : Nat → Nat → Int32) : ofl K X 57 8 2 = .int (X 57 2) := rfl
theorem ow_57_2 (K : KT) (X : Nat → Nat → Int32) (x : Int32) : uph (hp K X) 57 (stf (ob 8 (ofl K X 57 8)) 2 (.int x)) = hp K (set1 X 57 (upd (X 57) 2 x)) := hw_o rfl rfl
theorem of_57_3 (K : KT) (X : Nat → Nat → Int32) : ofl K X 57 8 3 = .int (X 57 3) := rfl
theorem ow_57_3 (K : KT) (X : Nat → Nat → Int32) (x : Int32) : uph (hp K X) 57 (stf (ob 8 (ofl K X 57 8)) 3 (.int x)) = hp K (set1 X 57 (upd (X 57) 3 x)) := hw_o rfl rfl
theorem of_57_4 (K : KT) (X : Nat → Nat → Int32) : ofl K X 57 8 4 = kV K 57 := rfl
theorem ow_57_4 (K : KT) (X : Nat → Nat → Int32) (v : Value) : uph (hp K X) 57 (stf (ob 8 (ofl K X 57 8)) 4 v) = hp (setV K 57 v) X := hw_v rfl
theorem of_57_5 (K : KT) (X : Nat → Nat → Int32) : ofl K X 57 8 5 = .ref 58 := rfl
theorem of_57_6 (K : KT) (X : Nat → Nat → Int32) : ofl K X 57 8 6 = .ref 59 := rfl
theorem of_57_7 (K : KT) (X : Nat → Nat → Int32) : ofl K X 57 8 7 = .ref 60 := rfl
theorem of_57_8 (K : KT) (X : Nat → Nat → Int32) : ofl K X 57 8 8 = .ref 61 := rfl
theorem of_57_9 (K : KT) (X : Nat → Nat → Int32) : ofl K X 57 8 9 = .ref 62 := rfl
theorem of_57_10 (K : KT) (X : Nat → Nat → Int32) : ofl K X 57 8 10 = .ref 69 := rfl
theorem of_57_11 (K : KT) (X : Nat → Nat → Int32) : ofl K X 57 8 11 = .ref 72 := rfl
theorem of_57_12 (K : KT) (X : Nat → Nat → Int32) : ofl K X 57 8 12 = .ref 75 := rfl
theorem of_57_13 (K : KT) (X : Nat → Nat → Int32) : ofl K X 57 8 13 = .ref 78 := rfl
theorem of_57_14 (K : KT) (X : Nat → Nat → Int32) : ofl K X 57 8 14 = .ref 81 := rfl
theorem of_57_15 (K : KT) (X : Nat → Nat → Int32) : ofl K X 57 8 15 = .ref 88 := rfl
theorem hc_58 (K : KT) (X : Nat → Nat → Int32) : hp K X 58 = iA 0 6 (X 58) := hp_i rfl
theorem hw_58 (K : KT) (X : Nat → Nat → Int32) (f : Nat → Int32) : uph (hp K X) 58 (iA 0 6 f) = hp K (set1 X 58 f) := hw_i rfl
theorem hc_59 (K : KT) (X : Nat → Nat → Int32) : hp K X 59 = iA 0 6 (X 59) := hp_i rfl
theorem hw_59 (K : KT) (X : Nat → Nat → Int32) (f : Nat → Int32) : uph (hp K X) 59 (iA 0 6 f) = hp K (set1 X 59 f) := hw_i rfl
theorem hc_60 (K : KT) (X : Nat → Nat → Int32) : hp K X 60 = iA 0 6 (X 60) := hp_i rfl
theorem hw_60 (K : KT) (X : Nat → Nat → Int32) (f : Nat → Int32) : uph (hp K X) 60 (iA 0 6 f) = hp K (set1 X 60 f) := hw_i rfl
theorem hc_61 (K : KT) (X : Nat → Nat → Int32) : hp K X 61 = iA 0 6 (X 61) := hp_i rfl
theorem hw_61 (K : KT) (X : Nat → Nat → Int32) (f : Nat → Int32) : uph (hp K X) 61 (iA 0 6 f) = hp K (set1 X 61 f) := hw_i rfl
theorem hc_62 (K : KT) (X : Nat → Nat → Int32) : hp K X 62 = rA 5 6 (fun i => if i < 6 then some (63 + i) else none) := hp_r rfl
theorem hc_63 (K : KT) (X : Nat → Nat → Int32) : hp K X 63 = iA 0 4 (X 63) := hp_i rfl
theorem hw_63 (K : KT) (X : Nat → Nat → Int32) (f : Nat → Int32) : uph (hp K X) 63 (iA 0 4 f) = hp K (set1 X 63 f) := hw_i rfl
theorem hc_64 (K : KT) (X : Nat → Nat → Int32) : hp K X 64 = iA 0 4 (X 64) := hp_i rfl
theorem hw_64 (K : KT) (X : Nat → Nat → Int32) (f : Nat → Int32) : uph (hp K X) 64 (iA 0 4 f) = hp K (set1 X 64 f) := hw_i rfl
theorem hc_65 (K : KT) (X : Nat → Nat → Int32) : hp K X 65 = iA 0 4 (X 65) := hp_i rfl
theorem hw_65 (K : KT) (X : Nat → Nat → Int32) (f : Nat → Int32) : uph (hp K X) 65 (iA 0 4 f) = hp K (set1 X 65 f) := hw_i rfl
theorem hc_66 (K : KT) (X : Nat → Nat → Int32) : hp K X 66 = iA 0 4 (X 66) := hp_i rfl
theorem hw_66 (K : KT) (X : Nat → Nat → Int32) (f : Nat → Int32) : uph (hp K X) 66 (iA 0 4 f) = hp K (set1 X 66 f) := hw_i rfl
theorem hc_67 (K : KT) (X : Nat → Nat → Int32) : hp K X 67 = iA 0 4 (X 67) := hp_i rfl
theorem hw_67 (K : KT) (X : Nat → Nat → Int32) (f : Nat → Int32) : uph (hp K X) 67 (iA 0 4 f) = hp K (set1 X 67 f) := hw_i rfl
theorem hc_68 (K : KT) (X : Nat → Nat → Int32) : hp K X 68 = iA 0 4 (X 68) := hp_i rfl
theorem hw_68 (K : KT) (X : Nat → Nat → Int32) (f : Nat → Int32) : uph (hp K X) 68 (iA 0 4 f) = hp K (set1 X 68 f) := hw_i rfl
theorem hc_69 (K : KT) (X : Nat → Nat → Int32) : hp K X 69 = ob 6 (ofl K X 69 6) := hp_o rfl
theorem of_69_0 (K : KT) (X : Nat → Nat → Int32) : ofl K X 69 6 0 = .ref 70 := rfl
theorem of_69_1 (K : KT) (X : Nat → Nat → Int32) : ofl K X 69 6 1 = .ref 71 := rfl
theorem of_69_2 (K : KT) (X : Nat → Nat → Int32) : ofl K X 69 6 2 = .int (X 69 2) := rfl
theorem ow_69_2 (K : KT) (X : Nat → Nat → Int32) (x : Int32) : uph (hp K X) 69 (stf (ob 6 (ofl K X 69 6)) 2 (.int x)) = hp K (set1 X 69 (upd (X 69) 2 x)) := hw_o rfl rfl
theorem hc_70 (K : KT) (X : Nat → Nat → Int32) : hp K X 70 = iA 0 6 (X 70) := hp_i rfl
theorem hw_70 (K : KT) (X : Nat → Nat → Int32) (f : Nat → Int32) : uph (hp K X) 70 (iA 0 6 f) = hp K (set1 X 70 f) := hw_i rfl
theorem hc_71 (K : KT) (X : Nat → Nat → Int32) : hp K X 71 = iA 0 6 (X 71) := hp_i rfl
theorem hw_71 (K : KT) (X : Nat → Nat → Int32) (f : Nat → Int32) : uph (hp K X) 71 (iA 0 6 f) = hp K (set1 X 71 f) := hw_i rfl
theorem hc_72 (K : KT) (X : Nat → Nat → Int32) : hp K X 72 = ob 6 (ofl K X 72 6) := hp_o rfl
theorem of_72_0 (K : KT) (X : Nat → Nat → Int32) : ofl K X 72 6 0 = .ref 73 := rfl
theorem of_72_1 (K : KT) (X : Nat → Nat → Int32) : ofl K X 72 6 1 = .ref 74 := rfl
theorem of_72_2 (K : KT) (X : Nat → Nat → Int32) : ofl K X 72 6 2 = .int (X 72 2) := rfl
theorem ow_72_2 (K : KT) (X : Nat → Nat → Int32) (x : Int32) : uph (hp K X) 72 (stf (ob 6 (ofl K X 72 6)) 2 (.int x)) = hp K (set1 X 72 (upd (X 72) 2 x)) := hw_o rfl rfl
theorem hc_73 (K : KT) (X : Nat → Nat → Int32) : hp K X 73 = iA 0 5 (X 73) := hp_i rfl
theorem hw_73 (K : KT) (X : Nat → Nat → Int32) (f : Nat → Int32) : uph (hp K X) 73 (iA 0 5 f) = hp K (set1 X 73 f) := hw_i rfl
theorem hc_74 (K : KT) (X : Nat → Nat → Int32) : hp K X 74 = iA 0 5 (X 74) := hp_i rfl
theorem hw_74 (K : KT) (X : Nat → Nat → Int32) (f : Nat → Int32) : uph (hp K X) 74 (iA 0 5 f) = hp K (set1 X 74 f) := hw_i rfl
theorem hc_75 (K : KT) (X : Nat → Nat → Int32) : hp K X 75 = ob 6 (ofl K X 75 6) := hp_o rfl
theorem of_75_0 (K : KT) (X : Nat → Nat → Int32) : ofl K X 75 6 0 = .ref 76 := rfl
theorem of_75_1 (K : KT) (X : Nat → Nat → Int32) : ofl K X 75 6 1 = .ref 77 := rfl
theorem of_75_2 (K : KT) (X : Nat → Nat → Int32) : ofl K X 75 6 2 = .int (X 75 2) := rfl
theorem ow_75_2 (K : KT) (X : Nat → Nat → Int32) (x : Int32) : uph (hp K X) 75 (stf (ob 6 (ofl K X 75 6)) 2 (.int x)) = hp K (set1 X 75 (upd (X 75) 2 x)) := hw_o rfl rfl
theorem hc_76 (K : KT) (X : Nat → Nat → Int32) : hp K X 76 = iA 0 10 (X 76) := hp_i rfl
theorem hw_76 (K : KT) (X : Nat → Nat → Int32) (f : Nat → Int32) : uph (hp K X) 76 (iA 0 10 f) = hp K (set1 X 76 f) := hw_i rfl
theorem hc_77 (K : KT) (X : Nat → Nat → Int32) : hp K X 77 = iA 0 10 (X 77) := hp_i rfl
theorem hw_77 (K : KT) (X : Nat → Nat → Int32) (f : Nat → Int32) : uph (hp K X) 77 (iA 0 10 f) = hp K (set1 X 77 f) := hw_i rfl
theorem hc_78 (K : KT) (X : Nat → Nat → Int32) : hp K X 78 = ob 6 (ofl K X 78 6) := hp_o rfl
theorem of_78_0 (K : KT) (X : Nat → Nat → Int32) : ofl K X 78 6 0 = .ref 79 := rfl
theorem of_78_1 (K : KT) (X : Nat → Nat → Int32) : ofl K X 78 6 1 = .ref 80 := rfl
theorem of_78_2 (K : KT) (X : Nat → Nat → Int32) : ofl K X 78 6 2 = .int (X 78 2) := rfl
theorem ow_78_2 (K : KT) (X : Nat → Nat → Int32) (x : Int32) : uph (hp K X) 78 (stf (ob 6 (ofl K X 78 6)) 2 (.int x)) = hp K (set1 X 78 (upd (X 78) 2 x)) := hw_o rfl rfl
theorem hc_79 (K : KT) (X : Nat → Nat → Int32) : hp K X 79 = iA 0 8 (X 79) := hp_i rfl
theorem hw_79 (K : KT) (X : Nat → Nat → Int32) (f : Nat → Int32) : uph (hp K X) 79 (iA 0 8 f) = hp K (set1 X 79 f) := hw_i rfl
theorem hc_80 (K : KT) (X : Nat → Nat → Int32) : hp K X 80 = iA 0 8 (X 80) := hp_i rfl
theorem hw_80 (K : KT) (X : Nat → Nat → Int32) (f : Nat → Int32) : uph (hp K X) 80 (iA 0 8 f) = hp K (set1 X 80 f) := hw_i rfl
theorem hc_81 (K : KT) (X : Nat → Nat → Int32) : hp K X 81 = rA 5 6 (fun i => if i < 6 then some (82 + i) else none) := hp_r rfl
theorem hc_82 (K : KT) (X : Nat → Nat → Int32) : hp K X 82 = iA 0 12 (X 82) := hp_i rfl
theorem hw_82 (K : KT) (X : Nat → Nat → Int32) (f : Nat → Int32) : uph (hp K X) 82 (iA 0 12 f) = hp K (set1 X 82 f) := hw_i rfl
theorem hc_83 (K : KT) (X : Nat → Nat → Int32) : hp K X 83 = iA 0 12 (X 83) := hp_i rfl
theorem hw_83 (K : KT) (X : Nat → Nat → Int32) (f : Nat → Int32) : uph (hp K X) 83 (iA 0 12 f) = hp K (set1 X 83 f) := hw_i rfl
theorem hc_84 (K : KT) (X : Nat → Nat → Int32) : hp K X 84 = iA 0 12 (X 84) := hp_i rfl
theorem hw_84 (K : KT) (X : Nat → Nat → Int32) (f : Nat → Int32) : uph (hp K X) 84 (iA 0 12 f) = hp K (set1 X 84 f) := hw_i rfl
theorem hc_85 (K : KT) (X : Nat → Nat → Int32) : hp K X 85 = iA 0 12 (X 85) := hp_i rfl
theorem hw_85 (K : KT) (X : Nat → Nat → Int32) (f : Nat → Int32) : uph (hp K X) 85 (iA 0 12 f) = hp K (set1 X 85 f) := hw_i rfl
theorem hc_86 (K : KT) (X : Nat → Nat → Int32) : hp K X 86 = iA 0 12 (X 86) := hp_i rfl
theorem hw_86 (K : KT) (X : Nat → Nat → Int32) (f : Nat → Int32) : uph (hp K X) 86 (iA 0 12 f) = hp K (set1 X 86 f) := hw_i rfl
theorem hc_87 (K : KT) (X : Nat → Nat → Int32) : hp K X 87 = iA 0 12 (X 87) := hp_i rfl
theorem hw_87 (K : KT) (X : Nat → Nat → Int32) (f : Nat → Int32) : uph (hp K X) 87 (iA 0 12 f) = hp K (set1 X 87 f) := hw_i rfl
theorem hc_88 (K : KT) (X : Nat → Nat → Int32) : hp K X 88 = iA 0 6 (X 88) := hp_i rfl
theorem hw_88 (K : KT) (X : Nat → Nat → Int32) (f : Nat → Int32) : uph (hp K X) 88 (iA 0 6 f) = hp K (set1 X 88 f) := hw_i rfl
theorem hc_89 (K : KT) (X : Nat → Nat → Int32) : hp K X 89 = ob 8 (ofl K X 89 8) := hp_o rfl
theorem of_89_0 (K : KT) (X : Nat → Nat → Int32) : ofl K X 89 8 0 = .ref 17 := rfl
theorem of_89_1 (K : KT) (X : Nat → Nat → Int32) : ofl K X 89 8 1 = .int (X 89 1) := rfl
theorem ow_89_1 (K : KT) (X : Nat → Nat → Int32) (x : Int32) : uph (hp K X) 89 (stf (ob 8 (ofl K X 89 8)) 1 (.int x)) = hp K (set1 X 89 (upd (X 89) 1 x)) := hw_o rfl rfl
theorem of_89_2 (K : KT) (X : Nat → Nat → Int32) : ofl K X 89 8 2 = .int (X 89 2) := rfl
theorem ow_89_2 (K : KT) (X : Nat → Nat → Int32) (x : Int32) : uph (hp K X) 89 (stf (ob 8 (ofl K X 89 8)) 2 (.int x)) = hp K (set1 X 89 (upd (X 89) 2 x)) := hw_o rfl rfl
theorem of_89_3 (K : KT) (X : Nat → Nat → Int32) : ofl K X 89 8 3 = .int (X 89 3) := rfl
theorem ow_89_3 (K : KT) (X : Nat → Nat → Int32) (x : Int32) : uph (hp K X) 89 (stf (ob 8 (ofl K X 89 8)) 3 (.int x)) = hp K (set1 X 89 (upd (X 89) 3 x)) := hw_o rfl rfl
theorem of_89_4 (K : KT) (X : Nat → Nat → Int32) : ofl K X 89 8 4 = kV K 89 := rfl
theorem ow_89_4 (K : KT) (X : Nat → Nat → Int32) (v : Value) : uph (hp K X) 89 (stf (ob 8 (ofl K X 89 8)) 4 v) = hp (setV K 89 v) X := hw_v rfl
theorem of_89_5 (K : KT) (X : Nat → Nat → Int32) : ofl K X 89 8 5 = .ref 90 := rfl
theorem of_89_6 (K : KT) (X : Nat → Nat → Int32) : ofl K X 89 8 6 = .ref 91 := rfl
theorem of_89_7 (K : KT) (X : Nat → Nat → Int32) : ofl K X 89 8 7 = .ref 92 := rfl
theorem of_89_8 (K : KT) (X : Nat → Nat → Int32) : ofl K X 89 8 8 = .ref 93 := rfl
theorem of_89_9 (K : KT) (X : Nat → Nat → Int32) : ofl K X 89 8 9 = .ref 94 := rfl
theorem of_89_10 (K : KT) (X : Nat → Nat → Int32) : ofl K X 89 8 10 = .ref 101 := rfl
theorem of_89_11 (K : KT) (X : Nat → Nat → Int32) : ofl K X 89 8 11 = .ref 104 := rfl
theorem of_89_12 (K : KT) (X : Nat → Nat → Int32) : ofl K X 89 8 12 = .ref 107 := rfl
theorem of_89_13 (K : KT) (X : Nat → Nat → Int32) : ofl K X 89 8 13 = .ref 110 := rfl
theorem of_89_14 (K : KT) (X : Nat → Nat → Int32) : ofl K X 89 8 14 = .ref 113 := rfl
theorem of_89_15 (K : KT) (X : Nat → Nat → Int32) : ofl K X 89 8 15 = .ref 120 := rfl
theorem hc_90 (K : KT) (X : Nat → Nat → Int32) : hp K X 90 = iA 0 6 (X 90) := hp_i rfl
theorem hw_90 (K : KT) (X : Nat → Nat → Int32) (f : Nat → Int32) : uph (hp K X) 90 (iA 0 6 f) = hp K (set1 X 90 f) := hw_i rfl
theorem hc_91 (K : KT) (X : Nat → Nat → Int32) : hp K X 91 = iA 0 6 (X 91) := hp_i rfl
theorem hw_91 (K : KT) (X : Nat → Nat → Int32) (f : Nat → Int32) : uph (hp K X) 91 (iA 0 6 f) = hp K (set1 X 91 f) := hw_i rfl
theorem hc_92 (K : KT) (X : Nat → Nat → Int32) : hp K X 92 = iA 0 6 (X 92) := hp_i rfl
theorem hw_92 (K : KT) (X : Nat → Nat → Int32) (f : Nat → Int32) : uph (hp K X) 92 (iA 0 6 f) = hp K (set1 X 92 f) := hw_i rfl
theorem hc_93 (K : KT) (X : Nat → Nat → Int32) : hp K X 93 = iA 0 6 (X 93) := hp_i rfl
theorem hw_93 (K : KT) (X : Nat → Nat → Int32) (f : Nat → Int32) : uph (hp K X) 93 (iA 0 6 f) = hp K (set1 X 93 f) := hw_i rfl
theorem hc_94 (K : KT) (X : Nat → Nat → Int32) : hp K X 94 = rA 5 6 (fun i => if i < 6 then some (95 + i) else none) := hp_r rfl
theorem hc_95 (K : KT) (X : Nat → Nat → Int32) : hp K X 95 = iA 0 4 (X 95) := hp_i rfl
theorem hw_95 (K : KT) (X : Nat → Nat → Int32) (f : Nat → Int32) : uph (hp K X) 95 (iA 0 4 f) = hp K (set1 X 95 f) := hw_i rfl
theorem hc_96 (K : KT) (X : Nat → Nat → Int32) : hp K X 96 = iA 0 4 (X 96) := hp_i rfl
theorem hw_96 (K : KT) (X : Nat → Nat → Int32) (f : Nat → Int32) : uph (hp K X) 96 (iA 0 4 f) = hp K (set1 X 96 f) := hw_i rfl
theorem hc_97 (K : KT) (X : Nat → Nat → Int32) : hp K X 97 = iA 0 4 (X 97) := hp_i rfl
theorem hw_97 (K : KT) (X : Nat → Nat → Int32) (f : Nat → Int32) : uph (hp K X) 97 (iA 0 4 f) = hp K (set1 X 97 f) := hw_i rfl
theorem hc_98 (K : KT) (X : Nat → Nat → Int32) : hp K X 98 = iA 0 4 (X 98) := hp_i rfl
theorem hw_98 (K : KT) (X : Nat → Nat → Int32) (f : Nat → Int32) : uph (hp K X) 98 (iA 0 4 f) = hp K (set1 X 98 f) := hw_i rfl
theorem hc_99 (K : KT) (X : Nat → Nat → Int32) : hp K X 99 = iA 0 4 (X 99) := hp_i rfl
theorem hw_99 (K : KT) (X : Nat → Nat → Int32) (f : Nat → Int32) : uph (hp K X) 99 (iA 0 4 f) = hp K (set1 X 99 f) := hw_i rfl
theorem hc_100 (K : KT) (X : Nat → Nat → Int32) : hp K X 100 = iA 0 4 (X 100) := hp_i rfl
theorem hw_100 (K : KT) (X : Nat → Nat → Int32) (f : Nat → Int32) : uph (hp K X) 100 (iA 0 4 f) = hp K (set1 X 100 f) := hw_i rfl
theorem hc_101 (K : KT) (X : Nat → Nat → Int32) : hp K X 101 = ob 6 (ofl K X 101 6) := hp_o rfl
theorem of_101_0 (K : KT) (X : Nat → Nat → Int32) : ofl K X 101 6 0 = .ref 102 := rfl
theorem of_101_1 (K : KT) (X : Nat → Nat → Int32) : ofl K X 101 6 1 = .ref 103 := rfl
theorem of_101_2 (K : KT) (X : Nat → Nat → Int32) : ofl K X 101 6 2 = .int (X 101 2) := rfl
theorem ow_101_2 (K : KT) (X : Nat → Nat → Int32) (x : Int32) : uph (hp K X) 101 (stf (ob 6 (ofl K X 101 6)) 2 (.int x)) = hp K (set1 X 101 (upd (X 101) 2 x)) := hw_o rfl rfl
theorem hc_102 (K : KT) (X : Nat → Nat → Int32) : hp K X 102 = iA 0 6 (X 102) := hp_i rfl
theorem hw_102 (K : KT) (X : Nat → Nat → Int32) (f : Nat → Int32) : uph (hp K X) 102 (iA 0 6 f) = hp K (set1 X 102 f) := hw_i rfl
theorem hc_103 (K : KT) (X : Nat → Nat → Int32) : hp K X 103 = iA 0 6 (X 103) := hp_i rfl
theorem hw_103 (K : KT) (X : Nat → Nat → Int32) (f : Nat → Int32) : uph (hp K X) 103 (iA 0 6 f) = hp K (set1 X 103 f) := hw_i rfl
theorem hc_104 (K : KT) (X : Nat → Nat → Int32) : hp K X 104 = ob 6 (ofl K X 104 6) := hp_o rfl
theorem of_104_0 (K : KT) (X : Nat → Nat → Int32) : ofl K X 104 6 0 = .ref 105 := rfl
theorem of_104_1 (K : KT) (X : Nat → Nat → Int32) : ofl K X 104 6 1 = .ref 106 := rfl
theorem of_104_2 (K : KT) (X : Nat → Nat → Int32) : ofl K X 104 6 2 = .int (X 104 2) := rfl
theorem ow_104_2 (K : KT) (X : Nat → Nat → Int32) (x : Int32) : uph (hp K X) 104 (stf (ob 6 (ofl K X 104 6)) 2 (.int x)) = hp K (set1 X 104 (upd (X 104) 2 x)) := hw_o rfl rfl
theorem hc_105 (K : KT) (X : Nat → Nat → Int32) : hp K X 105 = iA 0 5 (X 105) := hp_i rfl
theorem hw_105 (K : KT) (X : Nat → Nat → Int32) (f : Nat → Int32) : uph (hp K X) 105 (iA 0 5 f) = hp K (set1 X 105 f) := hw_i rfl
theorem hc_106 (K : KT) (X : Nat → Nat → Int32) : hp K X 106 = iA 0 5 (X 106) := hp_i rfl
theorem hw_106 (K : KT) (X : Nat → Nat → Int32) (f : Nat → Int32) : uph (hp K X) 106 (iA 0 5 f) = hp K (set1 X 106 f) := hw_i rfl
theorem hc_107 (K : KT) (X : Nat → Nat → Int32) : hp K X 107 = ob 6 (ofl K X 107 6) := hp_o rfl
theorem of_107_0 (K : KT) (X : Nat → Nat → Int32) : ofl K X 107 6 0 = .ref 108 := rfl
theorem of_107_1 (K : KT) (X : Nat → Nat → Int32) : ofl K X 107 6 1 = .ref 109 := rfl
theorem of_107_2 (K : KT) (X : Nat → Nat → Int32) : ofl K X 107 6 2 = .int (X 107 2) := rfl
theorem ow_107_2 (K : KT) (X : Nat → Nat → Int32) (x : Int32) : uph (hp K X) 107 (stf (ob 6 (ofl K X 107 6)) 2 (.int x)) = hp K (set1 X 107 (upd (X 107) 2 x)) := hw_o rfl rfl
theorem hc_108 (K : KT) (X : Nat → Nat → Int32) : hp K X 108 = iA 0 10 (X 108) := hp_i rfl
theorem hw_108 (K : KT) (X : Nat → Nat → Int32) (f : Nat → Int32) : uph (hp K X) 108 (iA 0 10 f) = hp K (set1 X 108 f) := hw_i rfl
theorem hc_109 (K : KT) (X : Nat → Nat → Int32) : hp K X 109 = iA 0 10 (X 109) := hp_i rfl
theorem hw_109 (K : KT) (X : Nat → Nat → Int32) (f : Nat → Int32) : uph (hp K X) 109 (iA 0 10 f) = hp K (set1 X 109 f) := hw_i rfl
theorem hc_110 (K : KT) (X : Nat → Nat → Int32) : hp K X 110 = ob 6 (ofl K X 110 6) := hp_o rfl
theorem of_110_0 (K : KT) (X : Nat → Nat → Int32) : ofl K X 110 6 0 = .ref 111 := rfl
theorem of_110_1 (K : KT) (X : Nat → Nat → Int32) : ofl K X 110 6 1 = .ref 112 := rfl
theorem of_110_2 (K : KT) (X : Nat → Nat → Int32) : ofl K X 110 6 2 = .int (X 110 2) := rfl
theorem ow_110_2 (K : KT) (X : Nat → Nat → Int32) (x : Int32) : uph (hp K X) 110 (stf (ob 6 (ofl K X 110 6)) 2 (.int x)) = hp K (set1 X 110 (upd (X 110) 2 x)) := hw_o rfl rfl
theorem hc_111 (K : KT) (X : Nat → Nat → Int32) : hp K X 111 = iA 0 8 (X 111) := hp_i rfl
theorem hw_111 (K : KT) (X : Nat → Nat → Int32) (f : Nat → Int32) : uph (hp K X) 111 (iA 0 8 f) = hp K (set1 X 111 f) := hw_i rfl
theorem hc_112 (K : KT) (X : Nat → Nat → Int32) : hp K X 112 = iA 0 8 (X 112) := hp_i rfl
theorem hw_112 (K : KT) (X : Nat → Nat → Int32) (f : Nat → Int32) : uph (hp K X) 112 (iA 0 8 f) = hp K (set1 X 112 f) := hw_i rfl
theorem hc_113 (K : KT) (X : Nat → Nat → Int32) : hp K X 113 = rA 5 6 (fun i => if i < 6 then some (114 + i) else none) := hp_r rfl
theorem hc_114 (K : KT) (X : Nat → Nat → Int32) : hp K X 114 = iA 0 12 (X 114) := hp_i rfl
theorem hw_114 (K : KT) (X : Nat → Nat → Int32) (f : Nat → Int32) : uph (hp K X) 114 (iA 0 12 f) = hp K (set1 X 114 f) := hw_i rfl
theorem hc_115 (K : KT) (X : Nat → Nat → Int32) : hp K X 115 = iA 0 12 (X 115) := hp_i rfl
theorem hw_115 (K : KT) (X : Nat → Nat → Int32) (f : Nat → Int32) : uph (hp K X) 115 (iA 0 12 f) = hp K (set1 X 115 f) := hw_i rfl
theorem hc_116 (K : KT) (X : Nat → Nat → Int32) : hp K X 116 = iA 0 12 (X 116) := hp_i rfl
theorem hw_116 (K : KT) (X : Nat → Nat → Int32) (f : Nat → Int32) : uph (hp K X) 116 (iA 0 12 f) = hp K (set1 X 116 f) := hw_i rfl
theorem hc_117 (K : KT) (X : Nat → Nat → Int32) : hp K X 117 = iA 0 12 (X 117) := hp_i rfl
theorem hw_117 (K : KT) (X : Nat → Nat → Int32) (f : Nat → Int32) : uph (hp K X) 117 (iA 0 12 f) = hp K (set1 X 117 f) := hw_i rfl
theorem hc_118 (K : KT) (X : Nat → Nat → Int32) : hp K X 118 = iA 0 12 (X 118) := hp_i rfl
theorem hw_118 (K : KT) (X : Nat → Nat → Int32) (f : Nat → Int32) : uph (hp K X) 118 (iA 0 12 f) = hp K (set1 X 118 f) := hw_i rfl
theorem hc_119 (K : KT) (X : Nat → Nat → Int32) : hp K X 119 = iA 0 12 (X 119) := hp_i rfl
theorem hw_119 (K : KT) (X : Nat → Nat → Int32) (f : Nat → Int32) : uph (hp K X) 119 (iA 0 12 f) = hp K (set1 X 119 f) := hw_i rfl
theorem hc_120 (K : KT) (X : Nat → Nat → Int32) : hp K X 120 = iA 0 6 (X 120) := hp_i rfl
theorem hw_120 (K : KT) (X : Nat → Nat → Int32) (f : Nat → Int32) : uph (hp K X) 120 (iA 0 6 f) = hp K (set1 X 120 f) := hw_i rfl
theorem hc_121 (K : KT) (X : Nat → Nat → Int32) : hp K X 121 = iA 1 100 (X 121) := hp_i rfl
theorem hw_121 (K : KT) (X : Nat → Nat → Int32) (f : Nat → Int32) : uph (hp K X) 121 (iA 1 100 f) = hp K (set1 X 121 f) := hw_i rfl
theorem hc_122 (K : KT) (X : Nat → Nat → Int32) : hp K X 122 = ob 1 (ofl K X 122 1) := hp_o rfl
theorem of_122_0 (K : KT) (X : Nat → Nat → Int32) : ofl K X 122 1 0 = .int (X 122 0) := rfl
theorem ow_122_0 (K : KT) (X : Nat → Nat → Int32) (x : Int32) : uph (hp K X) 122 (stf (ob 1 (ofl K X 122 1)) 0 (.int x)) = hp K (set1 X 122 (upd (X 122) 0 x)) := hw_o rfl rfl
theorem of_122_1 (K : KT) (X : Nat → Nat → Int32) : ofl K X 122 1 1 = .int (X 122 1) := rfl
theorem ow_122_1 (K : KT) (X : Nat → Nat → Int32) (x : Int32) : uph (hp K X) 122 (stf (ob 1 (ofl K X 122 1)) 1 (.int x)) = hp K (set1 X 122 (upd (X 122) 1 x)) := hw_o rfl rfl
theorem of_122_2 (K : KT) (X : Nat → Nat → Int32) : ofl K X 122 1 2 = .ref 123 := rfl
theorem of_122_3 (K : KT) (X : Nat → Nat → Int32) : ofl K X 122 1 3 = .int (X 122 3) := rfl
theorem ow_122_3 (K : KT) (X : Nat → Nat → Int32) (x : Int32) : uph (hp K X) 122 (stf (ob 1 (ofl K X 122 1)) 3 (.int x)) = hp K (set1 X 122 (upd (X 122) 3 x)) := hw_o rfl rfl
theorem hc_123 (K : KT) (X : Nat → Nat → Int32) : hp K X 123 = iA 0 20 (X 123) := hp_i rfl
theorem hw_123 (K : KT) (X : Nat → Nat → Int32) (f : Nat → Int32) : uph (hp K X) 123 (iA 0 20 f) = hp K (set1 X 123 f) := hw_i rfl
theorem hc_124 (K : KT) (X : Nat → Nat → Int32) : hp K X 124 = rA 5 7 (fun i => if i < 7 then some (125 + i) else none) := hp_r rfl
theorem hc_125 (K : KT) (X : Nat → Nat → Int32) : hp K X 125 = iA 0 64 (X 125) := hp_i rfl
theorem hw_125 (K : KT) (X : Nat → Nat → Int32) (f : Nat → Int32) : uph (hp K X) 125 (iA 0 64 f) = hp K (set1 X 125 f) := hw_i rfl
theorem hc_126 (K : KT) (X : Nat → Nat → Int32) : hp K X 126 = iA 0 64 (X 126) := hp_i rfl
theorem hw_126 (K : KT) (X : Nat → Nat → Int32) (f : Nat → Int32) : uph (hp K X) 126 (iA 0 64 f) = hp K (set1 X 126 f) := hw_i rfl
theorem hc_127 (K : KT) (X : Nat → Nat → Int32) : hp K X 127 = iA 0 64 (X 127) := hp_i rfl
theorem hw_127 (K : KT) (X : Nat → Nat → Int32) (f : Nat → Int32) : uph (hp K X) 127 (iA 0 64 f) = hp K (set1 X 127 f) := hw_i rfl
theorem hc_128 (K : KT) (X : Nat → Nat → Int32) : hp K X 128 = iA 0 64 (X 128) := hp_i rfl
theorem hw_128 (K : KT) (X : Nat → Nat → Int32) (f : Nat → Int32) : uph (hp K X) 128 (iA 0 64 f) = hp K (set1 X 128 f) := hw_i rfl
theorem hc_129 (K : KT) (X : Nat → Nat → Int32) : hp K X 129 = iA 0 64 (X 129) := hp_i rfl
theorem hw_129 (K : KT) (X : Nat → Nat → Int32) (f : Nat → Int32) : uph (hp K X) 129 (iA 0 64 f) = hp K (set1 X 129 f) := hw_i rfl
theorem hc_130 (K : KT) (X : Nat → Nat → Int32) : hp K X 130 = iA 0 64 (X 130) := hp_i rfl
theorem hw_130 (K : KT) (X : Nat → Nat → Int32) (f : Nat → Int32) : uph (hp K X) 130 (iA 0 64 f) = hp K (set1 X 130 f) := hw_i rfl
theorem hc_131 (K : KT) (X : Nat → Nat → Int32) : hp K X 131 = iA 0 64 (X 131) := hp_i rfl
theorem hw_131 (K : KT) (X : Nat → Nat → Int32) (f : Nat → Int32) : uph (hp K X) 131 (iA 0 64 f) = hp K (set1 X 131 f) := hw_i rfl
theorem hc_132 (K : KT) (X : Nat → Nat → Int32) : hp K X 132 = rA 6 6 (fun i => if i < 6 then some (133 + i) else none) := hp_r rfl
theorem hc_133 (K : KT) (X : Nat → Nat → Int32) : hp K X 133 = jA 60 (kJ K 133) := hp_j rfl
theorem hw_133 (K : KT) (X : Nat → Nat → Int32) (f : Nat → Int64) : uph (hp K X) 133 (jA 60 f) = hp (setJ K 133 f) X := hw_j rfl
theorem hc_134 (K : KT) (X : Nat → Nat → Int32) : hp K X 134 = jA 60 (kJ K 134) := hp_j rfl
theorem hw_134 (K : KT) (X : Nat → Nat → Int32) (f : Nat → Int64) : uph (hp K X) 134 (jA 60 f) = hp (setJ K 134 f) X := hw_j rfl
theorem hc_135 (K : KT) (X : Nat → Nat → Int32) : hp K X 135 = jA 60 (kJ K 135) := hp_j rfl
theorem hw_135 (K : KT) (X : Nat → Nat → Int32) (f : Nat → Int64) : uph (hp K X) 135 (jA 60 f) = hp (setJ K 135 f) X := hw_j rfl
theorem hc_136 (K : KT) (X : Nat → Nat → Int32) : hp K X 136 = jA 60 (kJ K 136) := hp_j rfl
theorem hw_136 (K : KT) (X : Nat → Nat → Int32) (f : Nat → Int64) : uph (hp K X) 136 (jA 60 f) = hp (setJ K 136 f) X := hw_j rfl
theorem hc_137 (K : KT) (X : Nat → Nat → Int32) : hp K X 137 = jA 60 (kJ K 137) := hp_j rfl
theorem hw_137 (K : KT) (X : Nat → Nat → Int32) (f : Nat → Int64) : uph (hp K X) 137 (jA 60 f) = hp (setJ K 137 f) X := hw_j rfl
theorem hc_138 (K : KT) (X : Nat → Nat → Int32) : hp K X 138 = jA 60 (kJ K 138) := hp_j rfl
theorem hw_138 (K : KT) (X : Nat → Nat → Int32) (f : Nat → Int64) : uph (hp K X) 138 (jA 60 f) = hp (setJ K 138 f) X := hw_j rfl
theorem hc_139 (K : KT) (X : Nat → Nat → Int32) : hp K X 139 = iA 0 6 (X 139) := hp_i rfl
theorem hw_139 (K : KT) (X : Nat → Nat → Int32) (f : Nat → Int32) : uph (hp K X) 139 (iA 0 6 f) = hp K (set1 X 139 f) := hw_i rfl
theorem hc_140 (K : KT) (X : Nat → Nat → Int32) : hp K X 140 = iA 0 6 (X 140) := hp_i rfl
theorem hw_140 (K : KT) (X : Nat → Nat → Int32) (f : Nat → Int32) : uph (hp K X) 140 (iA 0 6 f) = hp K (set1 X 140 f) := hw_i rfl
theorem hc_141 (K : KT) (X : Nat → Nat → Int32) : hp K X 141 = ob 12 (ofl K X 141 12) := hp_o rfl
theorem of_141_0 (K : KT) (X : Nat → Nat → Int32) : ofl K X 141 12 0 = .int (X 141 0) := rfl
theorem ow_141_0 (K : KT) (X : Nat → Nat → Int32) (x : Int32) : uph (hp K X) 141 (stf (ob 12 (ofl K X 141 12)) 0 (.int x)) = hp K (set1 X 141 (upd (X 141) 0 x)) := hw_o rfl rfl
theorem of_141_1 (K : KT) (X : Nat → Nat → Int32) : ofl K X 141 12 1 = .int (X 141 1) := rfl
theorem ow_141_1 (K : KT) (X : Nat → Nat → Int32) (x : Int32) : uph (hp K X) 141 (stf (ob 12 (ofl K X 141 12)) 1 (.int x)) = hp K (set1 X 141 (upd (X 141) 1 x)) := hw_o rfl rfl
theorem of_141_2 (K : KT) (X : Nat → Nat → Int32) : ofl K X 141 12 2 = .int (X 141 2) := rfl
theorem ow_141_2 (K : KT) (X : Nat → Nat → Int32) (x : Int32) : uph (hp K X) 141 (stf (ob 12 (ofl K X 141 12)) 2 (.int x)) = hp K (set1 X 141 (upd (X 141) 2 x)) := hw_o rfl rfl
theorem of_141_3 (K : KT) (X : Nat → Nat → Int32) : ofl K X 141 12 3 = .ref 142 := rfl
theorem of_141_4 (K : KT) (X : Nat → Nat → Int32) : ofl K X 141 12 4 = .ref 143 := rfl
theorem of_141_5 (K : KT) (X : Nat → Nat → Int32) : ofl K X 141 12 5 = .ref 144 := rfl
theorem of_141_6 (K : KT) (X : Nat → Nat → Int32) : ofl K X 141 12 6 = .ref 145 := rfl
theorem of_141_7 (K : KT) (X : Nat → Nat → Int32) : ofl K X 141 12 7 = .ref 146 := rfl
theorem of_141_8 (K : KT) (X : Nat → Nat → Int32) : ofl K X 141 12 8 = .int (X 141 8) := rfl
theorem ow_141_8 (K : KT) (X : Nat → Nat → Int32) (x : Int32) : uph (hp K X) 141 (stf (ob 12 (ofl K X 141 12)) 8 (.int x)) = hp K (set1 X 141 (upd (X 141) 8 x)) := hw_o rfl rfl
theorem of_141_9 (K : KT) (X : Nat → Nat → Int32) : ofl K X 141 12 9 = .int (X 141 9) := rfl
theorem ow_141_9 (K : KT) (X : Nat → Nat → Int32) (x : Int32) : uph (hp K X) 141 (stf (ob 12 (ofl K X 141 12)) 9 (.int x)) = hp K (set1 X 141 (upd (X 141) 9 x)) := hw_o rfl rfl
theorem of_141_10 (K : KT) (X : Nat → Nat → Int32) : ofl K X 141 12 10 = .int (X 141 10) := rfl
theorem ow_141_10 (K : KT) (X : Nat → Nat → Int32) (x : Int32) : uph (hp K X) 141 (stf (ob 12 (ofl K X 141 12)) 10 (.int x)) = hp K (set1 X 141 (upd (X 141) 10 x)) := hw_o rfl rfl
theorem of_141_11 (K : KT) (X : Nat → Nat → Int32) : ofl K X 141 12 11 = .int (X 141 11) := rfl
theorem ow_141_11 (K : KT) (X : Nat → Nat → Int32) (x : Int32) : uph (hp K X) 141 (stf (ob 12 (ofl K X 141 12)) 11 (.int x)) = hp K (set1 X 141 (upd (X 141) 11 x)) := hw_o rfl rfl
theorem of_141_12 (K : KT) (X : Nat → Nat → Int32) : ofl K X 141 12 12 = .int (X 141 12) := rfl
theorem ow_141_12 (K : KT) (X : Nat → Nat → Int32) (x : Int32) : uph (hp K X) 141 (stf (ob 12 (ofl K X 141 12)) 12 (.int x)) = hp K (set1 X 141 (upd (X 141) 12 x)) := hw_o rfl rfl
theorem of_141_13 (K : KT) (X : Nat → Nat → Int32) : ofl K X 141 12 13 = .ref 147 := rfl
theorem of_141_14 (K : KT) (X : Nat → Nat → Int32) : ofl K X 141 12 14 = .ref 148 := rfl
theorem of_141_15 (K : KT) (X : Nat → Nat → Int32) : ofl K X 141 12 15 = .ref 149 := rfl
theorem of_141_16 (K : KT) (X : Nat → Nat → Int32) : ofl K X 141 12 16 = .ref 150 := rfl
theorem of_141_17 (K : KT) (X : Nat → Nat → Int32) : ofl K X 141 12 17 = .ref 151 := rfl
theorem of_141_18 (K : KT) (X : Nat → Nat → Int32) : ofl K X 141 12 18 = .ref 152 := rfl
theorem of_141_19 (K : KT) (X : Nat → Nat → Int32) : ofl K X 141 12 19 = .ref 153 := rfl
theorem of_141_20 (K : KT) (X : Nat → Nat → Int32) : ofl K X 141 12 20 = .ref 154 := rfl
theorem of_141_21 (K : KT) (X : Nat → Nat → Int32) : ofl K X 141 12 21 = .int (X 141 21) := rfl
theorem ow_141_21 (K : KT) (X : Nat → Nat → Int32) (x : Int32) : uph (hp K X) 141 (stf (ob 12 (ofl K X 141 12)) 21 (.int x)) = hp K (set1 X 141 (upd (X 141) 21 x)) := hw_o rfl rfl
theorem of_141_22 (K : KT) (X : Nat → Nat → Int32) : ofl K X 141 12 22 = .int (X 141 22) := rfl
theorem ow_141_22 (K : KT) (X : Nat → Nat → Int32) (x : Int32) : uph (hp K X) 141 (stf (ob 12 (ofl K X 141 12)) 22 (.int x)) = hp K (set1 X 141 (upd (X 141) 22 x)) := hw_o rfl rfl
theorem of_141_23 (K : KT) (X : Nat → Nat → Int32) : ofl K X 141 12 23 = .int (X 141 23) := rfl
theorem ow_141_23 (K : KT) (X : Nat → Nat → Int32) (x : Int32) : uph (hp K X) 141 (stf (ob 12 (ofl K X 141 12)) 23 (.int x)) = hp K (set1 X 141 (upd (X 141) 23 x)) := hw_o rfl rfl
theorem of_141_24 (K : KT) (X : Nat → Nat → Int32) : ofl K X 141 12 24 = .ref 155 := rfl
theorem of_141_25 (K : KT) (X : Nat → Nat → Int32) : ofl K X 141 12 25 = .ref 156 := rfl
theorem of_141_26 (K : KT) (X : Nat → Nat → Int32) : ofl K X 141 12 26 = .ref 157 := rfl
theorem of_141_27 (K : KT) (X : Nat → Nat → Int32) : ofl K X 141 12 27 = .int (X 141 27) := rfl
theorem ow_141_27 (K : KT) (X : Nat → Nat → Int32) (x : Int32) : uph (hp K X) 141 (stf (ob 12 (ofl K X 141 12)) 27 (.int x)) = hp K (set1 X 141 (upd (X 141) 27 x)) := hw_o rfl rfl
theorem of_141_28 (K : KT) (X : Nat → Nat → Int32) : ofl K X 141 12 28 = .int (X 141 28) := rfl
theorem ow_141_28 (K : KT) (X : Nat → Nat → Int32) (x : Int32) : uph (hp K X) 141 (stf (ob 12 (ofl K X 141 12)) 28 (.int x)) = hp K (set1 X 141 (upd (X 141) 28 x)) := hw_o rfl rfl
theorem of_141_29 (K : KT) (X : Nat → Nat → Int32) : ofl K X 141 12 29 = .int (X 141 29) := rfl
theorem ow_141_29 (K : KT) (X : Nat → Nat → Int32) (x : Int32) : uph (hp K X) 141 (stf (ob 12 (ofl K X 141 12)) 29 (.int x)) = hp K (set1 X 141 (upd (X 141) 29 x)) := hw_o rfl rfl
theorem of_141_30 (K : KT) (X : Nat → Nat → Int32) : ofl K X 141 12 30 = .ref 158 := rfl
theorem of_141_31 (K : KT) (X : Nat → Nat → Int32) : ofl K X 141 12 31 = .ref 159 := rfl
theorem of_141_32 (K : KT) (X : Nat → Nat → Int32) : ofl K X 141 12 32 = .int (X 141 32) := rfl
theorem ow_141_32 (K : KT) (X : Nat → Nat → Int32) (x : Int32) : uph (hp K X) 141 (stf (ob 12 (ofl K X 141 12)) 32 (.int x)) = hp K (set1 X 141 (upd (X 141) 32 x)) := hw_o rfl rfl
theorem of_141_33 (K : KT) (X : Nat → Nat → Int32) : ofl K X 141 12 33 = .ref 160 := rfl
theorem of_141_34 (K : KT) (X : Nat → Nat → Int32) : ofl K X 141 12 34 = .ref 161 := rfl
theorem of_141_35 (K : KT) (X : Nat → Nat → Int32) : ofl K X 141 12 35 = .ref 162 := rfl
theorem of_141_36 (K : KT) (X : Nat → Nat → Int32) : ofl K X 141 12 36 = .int (X 141 36) := rfl
theorem ow_141_36 (K : KT) (X : Nat → Nat → Int32) (x : Int32) : uph (hp K X) 141 (stf (ob 12 (ofl K X 141 12)) 36 (.int x)) = hp K (set1 X 141 (upd (X 141) 36 x)) := hw_o rfl rfl
theorem of_141_37 (K : KT) (X : Nat → Nat → Int32) : ofl K X 141 12 37 = .ref 163 := rfl
theorem of_141_38 (K : KT) (X : Nat → Nat → Int32) : ofl K X 141 12 38 = .ref 164 := rfl
theorem of_141_39 (K : KT) (X : Nat → Nat → Int32) : ofl K X 141 12 39 = .int (X 141 39) := rfl
theorem ow_141_39 (K : KT) (X : Nat → Nat → Int32) (x : Int32) : uph (hp K X) 141 (stf (ob 12 (ofl K X 141 12)) 39 (.int x)) = hp K (set1 X 141 (upd (X 141) 39 x)) := hw_o rfl rfl
theorem of_141_40 (K : KT) (X : Nat → Nat → Int32) : ofl K X 141 12 40 = .int (X 141 40) := rfl
theorem ow_141_40 (K : KT) (X : Nat → Nat → Int32) (x : Int32) : uph (hp K X) 141 (stf (ob 12 (ofl K X 141 12)) 40 (.int x)) = hp K (set1 X 141 (upd (X 141) 40 x)) := hw_o rfl rfl
theorem of_141_41 (K : KT) (X : Nat → Nat → Int32) : ofl K X 141 12 41 = .ref 165 := rfl
theorem of_141_42 (K : KT) (X : Nat → Nat → Int32) : ofl K X 141 12 42 = .ref 166 := rfl
theorem of_141_43 (K : KT) (X : Nat → Nat → Int32) : ofl K X 141 12 43 = .ref 167 := rfl
theorem of_141_44 (K : KT) (X : Nat → Nat → Int32) : ofl K X 141 12 44 = .ref 168 := rfl
theorem of_141_45 (K : KT) (X : Nat → Nat → Int32) : ofl K X 141 12 45 = .int (X 141 45) := rfl
theorem ow_141_45 (K : KT) (X : Nat → Nat → Int32) (x : Int32) : uph (hp K X) 141 (stf (ob 12 (ofl K X 141 12)) 45 (.int x)) = hp K (set1 X 141 (upd (X 141) 45 x)) := hw_o rfl rfl
theorem of_141_46 (K : KT) (X : Nat → Nat → Int32) : ofl K X 141 12 46 = .int (X 141 46) := rfl
theorem ow_141_46 (K : KT) (X : Nat → Nat → Int32) (x : Int32) : uph (hp K X) 141 (stf (ob 12 (ofl K X 141 12)) 46 (.int x)) = hp K (set1 X 141 (upd (X 141) 46 x)) := hw_o rfl rfl
theorem of_141_47 (K : KT) (X : Nat → Nat → Int32) : ofl K X 141 12 47 = .int (X 141 47) := rfl
theorem ow_141_47 (K : KT) (X : Nat → Nat → Int32) (x : Int32) : uph (hp K X) 141 (stf (ob 12 (ofl K X 141 12)) 47 (.int x)) = hp K (set1 X 141 (upd (X 141) 47 x)) := hw_o rfl rfl
theorem of_141_48 (K : KT) (X : Nat → Nat → Int32) : ofl K X 141 12 48 = .int (X 141 48) := rfl
theorem ow_141_48 (K : KT) (X : Nat → Nat → Int32) (x : Int32) : uph (hp K X) 141 (stf (ob 12 (ofl K X 141 12)) 48 (.int x)) = hp K (set1 X 141 (upd (X 141) 48 x)) := hw_o rfl rfl
theorem of_141_49 (K : KT) (X : Nat → Nat → Int32) : ofl K X 141 12 49 = .int (X 141 49) := rfl
theorem ow_141_49 (K : KT) (X : Nat → Nat → Int32) (x : Int32) : uph (hp K X) 141 (stf (ob 12 (ofl K X 141 12)) 49 (.int x)) = hp K (set1 X 141 (upd (X 141) 49 x)) := hw_o rfl rfl
theorem of_141_50 (K : KT) (X : Nat → Nat → Int32) : ofl K X 141 12 50 = .int (X 141 50) := rfl
theorem ow_141_50 (K : KT) (X : Nat → Nat → Int32) (x : Int32) : uph (hp K X) 141 (stf (ob 12 (ofl K X 141 12)) 50 (.int x)) = hp K (set1 X 141 (upd (X 141) 50 x)) := hw_o rfl rfl
theorem of_141_51 (K : KT) (X : Nat → Nat → Int32) : ofl K X 141 12 51 = .int (X 141 51) := rfl
theorem ow_141_51 (K : KT) (X : Nat → Nat → Int32) (x : Int32) : uph (hp K X) 141 (stf (ob 12 (ofl K X 141 12)) 51 (.int x)) = hp K (set1 X 141 (upd (X 141) 51 x)) := hw_o rfl rfl
theorem of_141_52 (K : KT) (X : Nat → Nat → Int32) : ofl K X 141 12 52 = .int (X 141 52) := rfl
theorem ow_141_52 (K : KT) (X : Nat → Nat → Int32) (x : Int32) : uph (hp K X) 141 (stf (ob 12 (ofl K X 141 12)) 52 (.int x)) = hp K (set1 X 141 (upd (X 141) 52 x)) := hw_o rfl rfl
theorem of_141_53 (K : KT) (X : Nat → Nat → Int32) : ofl K X 141 12 53 = .int (X 141 53) := rfl
theorem ow_141_53 (K : KT) (X : Nat → Nat → Int32) (x : Int32) : uph (hp K X) 141 (stf (ob 12 (ofl K X 141 12)) 53 (.int x)) = hp K (set1 X 141 (upd (X 141) 53 x)) := hw_o rfl rfl
theorem of_141_54 (K : KT) (X : Nat → Nat → Int32) : ofl K X 141 12 54 = .ref 169 := rfl
theorem of_141_55 (K : KT) (X : Nat → Nat → Int32) : ofl K X 141 12 55 = .ref 170 := rfl
theorem of_141_56 (K : KT) (X : Nat → Nat → Int32) : ofl K X 141 12 56 = .ref 171 := rfl
theorem of_141_57 (K : KT) (X : Nat → Nat → Int32) : ofl K X 141 12 57 = .ref 172 := rfl
theorem of_141_58 (K : KT) (X : Nat → Nat → Int32) : ofl K X 141 12 58 = .ref 173 := rfl
theorem of_141_59 (K : KT) (X : Nat → Nat → Int32) : ofl K X 141 12 59 = .ref 174 := rfl
theorem of_141_60 (K : KT) (X : Nat → Nat → Int32) : ofl K X 141 12 60 = .ref 175 := rfl
theorem of_141_61 (K : KT) (X : Nat → Nat → Int32) : ofl K X 141 12 61 = .ref 176 := rfl
theorem of_141_62 (K : KT) (X : Nat → Nat → Int32) : ofl K X 141 12 62 = .ref 177 := rfl
theorem of_141_63 (K : KT) (X : Nat → Nat → Int32) : ofl K X 141 12 63 = .ref 178 := rfl
theorem of_141_64 (K : KT) (X : Nat → Nat → Int32) : ofl K X 141 12 64 = .ref 179 := rfl
theorem of_141_65 (K : KT) (X : Nat → Nat → Int32) : ofl K X 141 12 65 = .ref 180 := rfl
theorem of_141_66 (K : KT) (X : Nat → Nat → Int32) : ofl K X 141 12 66 = .int (X 141 66) := rfl
theorem ow_141_66 (K : KT) (X : Nat → Nat → Int32) (x : Int32) : uph (hp K X) 141 (stf (ob 12 (ofl K X 141 12)) 66 (.int x)) = hp K (set1 X 141 (upd (X 141) 66 x)) := hw_o rfl rfl
theorem of_141_67 (K : KT) (X : Nat → Nat → Int32) : ofl K X 141 12 67 = .ref 181 := rfl
theorem of_141_68 (K : KT) (X : Nat → Nat → Int32) : ofl K X 141 12 68 = .ref 182 := rfl
theorem of_141_69 (K : KT) (X : Nat → Nat → Int32) : ofl K X 141 12 69 = .ref 183 := rfl
theorem of_141_70 (K : KT) (X : Nat → Nat → Int32) : ofl K X 141 12 70 = .ref 184 := rfl
theorem of_141_71 (K : KT) (X : Nat → Nat → Int32) : ofl K X 141 12 71 = .ref 185 := rfl
theorem hc_142 (K : KT) (X : Nat → Nat → Int32) : hp K X 142 = iA 0 6 (X 142) := hp_i rfl
theorem hw_142 (K : KT) (X : Nat → Nat → Int32) (f : Nat → Int32) : uph (hp K X) 142 (iA 0 6 f) = hp K (set1 X 142 f) := hw_i rfl
theorem hc_143 (K : KT) (X : Nat → Nat → Int32) : hp K X 143 = iA 0 6 (X 143) := hp_i rfl
theorem hw_143 (K : KT) (X : Nat → Nat → Int32) (f : Nat → Int32) : uph (hp K X) 143 (iA 0 6 f) = hp K (set1 X 143 f) := hw_i rfl
theorem hc_144 (K : KT) (X : Nat → Nat → Int32) : hp K X 144 = iA 0 6 (X 144) := hp_i rfl
theorem hw_144 (K : KT) (X : Nat → Nat → Int32) (f : Nat → Int32) : uph (hp K X) 144 (iA 0 6 f) = hp K (set1 X 144 f) := hw_i rfl
theorem hc_145 (K : KT) (X : Nat → Nat → Int32) : hp K X 145 = iA 0 6 (X 145) := hp_i rfl
theorem hw_145 (K : KT) (X : Nat → Nat → Int32) (f : Nat → Int32) : uph (hp K X) 145 (iA 0 6 f) = hp K (set1 X 145 f) := hw_i rfl
theorem hc_146 (K : KT) (X : Nat → Nat → Int32) : hp K X 146 = iA 0 24 (X 146) := hp_i rfl
theorem hw_146 (K : KT) (X : Nat → Nat → Int32) (f : Nat → Int32) : uph (hp K X) 146 (iA 0 24 f) = hp K (set1 X 146 f) := hw_i rfl
theorem hc_147 (K : KT) (X : Nat → Nat → Int32) : hp K X 147 = iA 0 100 (X 147) := hp_i rfl
theorem hw_147 (K : KT) (X : Nat → Nat → Int32) (f : Nat → Int32) : uph (hp K X) 147 (iA 0 100 f) = hp K (set1 X 147 f) := hw_i rfl
theorem hc_148 (K : KT) (X : Nat → Nat → Int32) : hp K X 148 = iA 0 6 (X 148) := hp_i rfl
theorem hw_148 (K : KT) (X : Nat → Nat → Int32) (f : Nat → Int32) : uph (hp K X) 148 (iA 0 6 f) = hp K (set1 X 148 f) := hw_i rfl
theorem hc_149 (K : KT) (X : Nat → Nat → Int32) : hp K X 149 = iA 0 60 (X 149) := hp_i rfl
theorem hw_149 (K : KT) (X : Nat → Nat → Int32) (f : Nat → Int32) : uph (hp K X) 149 (iA 0 60 f) = hp K (set1 X 149 f) := hw_i rfl
theorem hc_150 (K : KT) (X : Nat → Nat → Int32) : hp K X 150 = iA 0 60 (X 150) := hp_i rfl
theorem hw_150 (K : KT) (X : Nat → Nat → Int32) (f : Nat → Int32) : uph (hp K X) 150 (iA 0 60 f) = hp K (set1 X 150 f) := hw_i rfl
theorem hc_151 (K : KT) (X : Nat → Nat → Int32) : hp K X 151 = iA 0 60 (X 151) := hp_i rfl
theorem hw_151 (K : KT) (X : Nat → Nat → Int32) (f : Nat → Int32) : uph (hp K X) 151 (iA 0 60 f) = hp K (set1 X 151 f) := hw_i rfl
theorem hc_152 (K : KT) (X : Nat → Nat → Int32) : hp K X 152 = iA 0 60 (X 152) := hp_i rfl
theorem hw_152 (K : KT) (X : Nat → Nat → Int32) (f : Nat → Int32) : uph (hp K X) 152 (iA 0 60 f) = hp K (set1 X 152 f) := hw_i rfl
theorem hc_153 (K : KT) (X : Nat → Nat → Int32) : hp K X 153 = iA 0 600 (X 153) := hp_i rfl
theorem hw_153 (K : KT) (X : Nat → Nat → Int32) (f : Nat → Int32) : uph (hp K X) 153 (iA 0 600 f) = hp K (set1 X 153 f) := hw_i rfl
theorem hc_154 (K : KT) (X : Nat → Nat → Int32) : hp K X 154 = iA 0 101 (X 154) := hp_i rfl
theorem hw_154 (K : KT) (X : Nat → Nat → Int32) (f : Nat → Int32) : uph (hp K X) 154 (iA 0 101 f) = hp K (set1 X 154 f) := hw_i rfl
theorem hc_155 (K : KT) (X : Nat → Nat → Int32) : hp K X 155 = iA 0 12 (X 155) := hp_i rfl
theorem hw_155 (K : KT) (X : Nat → Nat → Int32) (f : Nat → Int32) : uph (hp K X) 155 (iA 0 12 f) = hp K (set1 X 155 f) := hw_i rfl
theorem hc_156 (K : KT) (X : Nat → Nat → Int32) : hp K X 156 = iA 3 100 (X 156) := hp_i rfl
theorem hw_156 (K : KT) (X : Nat → Nat → Int32) (f : Nat → Int32) : uph (hp K X) 156 (iA 3 100 f) = hp K (set1 X 156 f) := hw_i rfl
theorem hc_157 (K : KT) (X : Nat → Nat → Int32) : hp K X 157 = iA 0 6 (X 157) := hp_i rfl
theorem hw_157 (K : KT) (X : Nat → Nat → Int32) (f : Nat → Int32) : uph (hp K X) 157 (iA 0 6 f) = hp K (set1 X 157 f) := hw_i rfl
theorem hc_158 (K : KT) (X : Nat → Nat → Int32) : hp K X 158 = iA 0 6 (X 158) := hp_i rfl
theorem hw_158 (K : KT) (X : Nat → Nat → Int32) (f : Nat → Int32) : uph (hp K X) 158 (iA 0 6 f) = hp K (set1 X 158 f) := hw_i rfl
theorem hc_159 (K : KT) (X : Nat → Nat → Int32) : hp K X 159 = iA 0 6 (X 159) := hp_i rfl
theorem hw_159 (K : KT) (X : Nat → Nat → Int32) (f : Nat → Int32) : uph (hp K X) 159 (iA 0 6 f) = hp K (set1 X 159 f) := hw_i rfl
theorem hc_160 (K : KT) (X : Nat → Nat → Int32) : hp K X 160 = iA 0 6 (X 160) := hp_i rfl
theorem hw_160 (K : KT) (X : Nat → Nat → Int32) (f : Nat → Int32) : uph (hp K X) 160 (iA 0 6 f) = hp K (set1 X 160 f) := hw_i rfl
theorem hc_161 (K : KT) (X : Nat → Nat → Int32) : hp K X 161 = iA 0 6 (X 161) := hp_i rfl
theorem hw_161 (K : KT) (X : Nat → Nat → Int32) (f : Nat → Int32) : uph (hp K X) 161 (iA 0 6 f) = hp K (set1 X 161 f) := hw_i rfl
theorem hc_162 (K : KT) (X : Nat → Nat → Int32) : hp K X 162 = iA 0 6 (X 162) := hp_i rfl
theorem hw_162 (K : KT) (X : Nat → Nat → Int32) (f : Nat → Int32) : uph (hp K X) 162 (iA 0 6 f) = hp K (set1 X 162 f) := hw_i rfl
theorem hc_163 (K : KT) (X : Nat → Nat → Int32) : hp K X 163 = iA 0 5 (X 163) := hp_i rfl
theorem hw_163 (K : KT) (X : Nat → Nat → Int32) (f : Nat → Int32) : uph (hp K X) 163 (iA 0 5 f) = hp K (set1 X 163 f) := hw_i rfl
theorem hc_164 (K : KT) (X : Nat → Nat → Int32) : hp K X 164 = iA 0 5 (X 164) := hp_i rfl
theorem hw_164 (K : KT) (X : Nat → Nat → Int32) (f : Nat → Int32) : uph (hp K X) 164 (iA 0 5 f) = hp K (set1 X 164 f) := hw_i rfl
theorem hc_165 (K : KT) (X : Nat → Nat → Int32) : hp K X 165 = iA 0 10 (X 165) := hp_i rfl
theorem hw_165 (K : KT) (X : Nat → Nat → Int32) (f : Nat → Int32) : uph (hp K X) 165 (iA 0 10 f) = hp K (set1 X 165 f) := hw_i rfl
theorem hc_166 (K : KT) (X : Nat → Nat → Int32) : hp K X 166 = iA 0 10 (X 166) := hp_i rfl
theorem hw_166 (K : KT) (X : Nat → Nat → Int32) (f : Nat → Int32) : uph (hp K X) 166 (iA 0 10 f) = hp K (set1 X 166 f) := hw_i rfl
theorem hc_167 (K : KT) (X : Nat → Nat → Int32) : hp K X 167 = iA 0 8 (X 167) := hp_i rfl
theorem hw_167 (K : KT) (X : Nat → Nat → Int32) (f : Nat → Int32) : uph (hp K X) 167 (iA 0 8 f) = hp K (set1 X 167 f) := hw_i rfl
theorem hc_168 (K : KT) (X : Nat → Nat → Int32) : hp K X 168 = iA 0 8 (X 168) := hp_i rfl
theorem hw_168 (K : KT) (X : Nat → Nat → Int32) (f : Nat → Int32) : uph (hp K X) 168 (iA 0 8 f) = hp K (set1 X 168 f) := hw_i rfl
theorem hc_169 (K : KT) (X : Nat → Nat → Int32) : hp K X 169 = iA 0 6 (X 169) := hp_i rfl
theorem hw_169 (K : KT) (X : Nat → Nat → Int32) (f : Nat → Int32) : uph (hp K X) 169 (iA 0 6 f) = hp K (set1 X 169 f) := hw_i rfl
theorem hc_170 (K : KT) (X : Nat → Nat → Int32) : hp K X 170 = iA 0 6 (X 170) := hp_i rfl
theorem hw_170 (K : KT) (X : Nat → Nat → Int32) (f : Nat → Int32) : uph (hp K X) 170 (iA 0 6 f) = hp K (set1 X 170 f) := hw_i rfl
theorem hc_171 (K : KT) (X : Nat → Nat → Int32) : hp K X 171 = iA 0 6 (X 171) := hp_i rfl
theorem hw_171 (K : KT) (X : Nat → Nat → Int32) (f : Nat → Int32) : uph (hp K X) 171 (iA 0 6 f) = hp K (set1 X 171 f) := hw_i rfl
theorem hc_172 (K : KT) (X : Nat → Nat → Int32) : hp K X 172 = iA 0 6 (X 172) := hp_i rfl
theorem hw_172 (K : KT) (X : Nat → Nat → Int32) (f : Nat → Int32) : uph (hp K X) 172 (iA 0 6 f) = hp K (set1 X 172 f) := hw_i rfl
theorem hc_173 (K : KT) (X : Nat → Nat → Int32) : hp K X 173 = iA 0 24 (X 173) := hp_i rfl
theorem hw_173 (K : KT) (X : Nat → Nat → Int32) (f : Nat → Int32) : uph (hp K X) 173 (iA 0 24 f) = hp K (set1 X 173 f) := hw_i rfl
theorem hc_174 (K : KT) (X : Nat → Nat → Int32) : hp K X 174 = iA 0 6 (X 174) := hp_i rfl
theorem hw_174 (K : KT) (X : Nat → Nat → Int32) (f : Nat → Int32) : uph (hp K X) 174 (iA 0 6 f) = hp K (set1 X 174 f) := hw_i rfl
theorem hc_175 (K : KT) (X : Nat → Nat → Int32) : hp K X 175 = iA 0 5 (X 175) := hp_i rfl
theorem hw_175 (K : KT) (X : Nat → Nat → Int32) (f : Nat → Int32) : uph (hp K X) 175 (iA 0 5 f) = hp K (set1 X 175 f) := hw_i rfl
theorem hc_176 (K : KT) (X : Nat → Nat → Int32) : hp K X 176 = iA 0 5 (X 176) := hp_i rfl
theorem hw_176 (K : KT) (X : Nat → Nat → Int32) (f : Nat → Int32) : uph (hp K X) 176 (iA 0 5 f) = hp K (set1 X 176 f) := hw_i rfl
theorem hc_177 (K : KT) (X : Nat → Nat → Int32) : hp K X 177 = iA 0 10 (X 177) := hp_i rfl
theorem hw_177 (K : KT) (X : Nat → Nat → Int32) (f : Nat → Int32) : uph (hp K X) 177 (iA 0 10 f) = hp K (set1 X 177 f) := hw_i rfl
theorem hc_178 (K : KT) (X : Nat → Nat → Int32) : hp K X 178 = iA 0 10 (X 178) := hp_i rfl
theorem hw_178 (K : KT) (X : Nat → Nat → Int32) (f : Nat → Int32) : uph (hp K X) 178 (iA 0 10 f) = hp K (set1 X 178 f) := hw_i rfl
theorem hc_179 (K : KT) (X : Nat → Nat → Int32) : hp K X 179 = iA 0 8 (X 179) := hp_i rfl
theorem hw_179 (K : KT) (X : Nat → Nat → Int32) (f : Nat → Int32) : uph (hp K X) 179 (iA 0 8 f) = hp K (set1 X 179 f) := hw_i rfl
theorem hc_180 (K : KT) (X : Nat → Nat → Int32) : hp K X 180 = iA 0 8 (X 180) := hp_i rfl
theorem hw_180 (K : KT) (X : Nat → Nat → Int32) (f : Nat → Int32) : uph (hp K X) 180 (iA 0 8 f) = hp K (set1 X 180 f) := hw_i rfl
theorem hc_181 (K : KT) (X : Nat → Nat → Int32) : hp K X 181 = iA 0 20 (X 181) := hp_i rfl
theorem hw_181 (K : KT) (X : Nat → Nat → Int32) (f : Nat → Int32) : uph (hp K X) 181 (iA 0 20 f) = hp K (set1 X 181 f) := hw_i rfl
theorem hc_182 (K : KT) (X : Nat → Nat → Int32) : hp K X 182 = iA 0 6 (X 182) := hp_i rfl
theorem hw_182 (K : KT) (X : Nat → Nat → Int32) (f : Nat → Int32) : uph (hp K X) 182 (iA 0 6 f) = hp K (set1 X 182 f) := hw_i rfl
theorem hc_183 (K : KT) (X : Nat → Nat → Int32) : hp K X 183 = iA 0 6 (X 183) := hp_i rfl
theorem hw_183 (K : KT) (X : Nat → Nat → Int32) (f : Nat → Int32) : uph (hp K X) 183 (iA 0 6 f) = hp K (set1 X 183 f) := hw_i rfl
theorem hc_184 (K : KT) (X : Nat → Nat → Int32) : hp K X 184 = jA 360 (kJ K 184) := hp_j rfl
theorem hw_184 (K : KT) (X : Nat → Nat → Int32) (f : Nat → Int64) : uph (hp K X) 184 (jA 360 f) = hp (setJ K 184 f) X := hw_j rfl
theorem hc_185 (K : KT) (X : Nat → Nat → Int32) : hp K X 185 = jA 60 (kJ K 185) := hp_j rfl
theorem hw_185 (K : KT) (X : Nat → Nat → Int32) (f : Nat → Int64) : uph (hp K X) 185 (jA 60 f) = hp (setJ K 185 f) X := hw_j rfl
