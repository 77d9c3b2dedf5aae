/-! The class: the cells of a tree, by where it begins. -/
def isT (t : Nat) : Prop := t = 25 ∨ t = 57 ∨ t = 89
theorem isT_25 : isT 25 := Or.inl rfl
theorem isT_57 : isT 57 := Or.inr (Or.inl rfl)
theorem isT_89 : isT 89 := Or.inr (Or.inr rfl)
theorem isT_le {t : Nat} (h : isT t) : t ≤ 89 ∧ 25 ≤ t := by rcases h with h | h | h <;> omega
theorem va_rfs (a : Nat) : va_rf (some a) = .ref a := rfl
theorem aq_rr {k n b p : Nat} (h : p < n) : aq (rA k n (fun i => if i < n then some (b + i) else none)) p = .ref (b + p) := by
  show va_rf (if p < n then some (b + p) else none) = _
  rw [if_pos h]
  rfl
theorem shp_lt {K : KT} {q : Nat} (h16 : ¬ q < 16) (h : q < 186) : shp K q = shl.getD (q - 16) (0, 0, 0, 0) := by
  unfold shp
  rw [if_neg h16, if_pos h]
theorem ts_0 {K : KT} {t : Nat} (h : isT t) : shp K t = (4, 8, 0, 0) := by rcases h with rfl | rfl | rfl <;> rfl
theorem tc_0 {K : KT} {X : Nat → Nat → Int32} {t : Nat} (h : isT t) : hp K X t = ob 8 (ofl K X t 8) := hp_o (ts_0 h)
theorem ts_1 {K : KT} {t : Nat} (h : isT t) : shp K (t + 1) = (1, 0, 6, 0) := by rcases h with rfl | rfl | rfl <;> rfl
theorem tc_1 {K : KT} {X : Nat → Nat → Int32} {t : Nat} (h : isT t) : hp K X (t + 1) = iA 0 6 (X (t + 1)) := hp_i (ts_1 h)
theorem tw_1 {K : KT} {X : Nat → Nat → Int32} {t : Nat} {f : Nat → Int32} (h : isT t) : uph (hp K X) (t + 1) (iA 0 6 f) = hp K (set1 X (t + 1) f) := hw_i (ts_1 h)
theorem ts_2 {K : KT} {t : Nat} (h : isT t) : shp K (t + 2) = (1, 0, 6, 0) := by rcases h with rfl | rfl | rfl <;> rfl
theorem tc_2 {K : KT} {X : Nat → Nat → Int32} {t : Nat} (h : isT t) : hp K X (t + 2) = iA 0 6 (X (t + 2)) := hp_i (ts_2 h)
theorem tw_2 {K : KT} {X : Nat → Nat → Int32} {t : Nat} {f : Nat → Int32} (h : isT t) : uph (hp K X) (t + 2) (iA 0 6 f) = hp K (set1 X (t + 2) f) := hw_i (ts_2 h)
theorem ts_3 {K : KT} {t : Nat} (h : isT t) : shp K (t + 3) = (1, 0, 6, 0) := by rcases h with rfl | rfl | rfl <;> rfl
theorem tc_3 {K : KT} {X : Nat → Nat → Int32} {t : Nat} (h : isT t) : hp K X (t + 3) = iA 0 6 (X (t + 3)) := hp_i (ts_3 h)
theorem tw_3 {K : KT} {X : Nat → Nat → Int32} {t : Nat} {f : Nat → Int32} (h : isT t) : uph (hp K X) (t + 3) (iA 0 6 f) = hp K (set1 X (t + 3) f) := hw_i (ts_3 h)
theorem ts_4 {K : KT} {t : Nat} (h : isT t) : shp K (t + 4) = (1, 0, 6, 0) := by rcases h with rfl | rfl | rfl <;> rfl
theorem tc_4 {K : KT} {X : Nat → Nat → Int32} {t : Nat} (h : isT t) : hp K X (t + 4) = iA 0 6 (X (t + 4)) := hp_i (ts_4 h)
theorem tw_4 {K : KT} {X : Nat → Nat → Int32} {t : Nat} {f : Nat → Int32} (h : isT t) : uph (hp K X) (t + 4) (iA 0 6 f) = hp K (set1 X (t + 4) f) := hw_i (ts_4 h)
theorem ts_5 {K : KT} {t : Nat} (h : isT t) : shp K (t + 5) = (3, 5, 6, t + 6) := by rcases h with rfl | rfl | rfl <;> rfl
theorem tc_5 {K : KT} {X : Nat → Nat → Int32} {t : Nat} (h : isT t) : hp K X (t + 5) = rA 5 6 (fun i => if i < 6 then some (t + 6 + i) else none) := hp_r (ts_5 h)
theorem ts_12 {K : KT} {t : Nat} (h : isT t) : shp K (t + 12) = (4, 6, 0, 0) := by rcases h with rfl | rfl | rfl <;> rfl
theorem tc_12 {K : KT} {X : Nat → Nat → Int32} {t : Nat} (h : isT t) : hp K X (t + 12) = ob 6 (ofl K X (t + 12) 6) := hp_o (ts_12 h)
theorem ts_13 {K : KT} {t : Nat} (h : isT t) : shp K (t + 13) = (1, 0, 6, 0) := by rcases h with rfl | rfl | rfl <;> rfl
theorem tc_13 {K : KT} {X : Nat → Nat → Int32} {t : Nat} (h : isT t) : hp K X (t + 13) = iA 0 6 (X (t + 13)) := hp_i (ts_13 h)
theorem tw_13 {K : KT} {X : Nat → Nat → Int32} {t : Nat} {f : Nat → Int32} (h : isT t) : uph (hp K X) (t + 13) (iA 0 6 f) = hp K (set1 X (t + 13) f) := hw_i (ts_13 h)
theorem ts_14 {K : KT} {t : Nat} (h : isT t) : shp K (t + 14) = (1, 0, 6, 0) := by rcases h with rfl | rfl | rfl <;> rfl
theorem tc_14 {K : KT} {X : Nat → Nat → Int32} {t : Nat} (h : isT t) : hp K X (t + 14) = iA 0 6 (X (t + 14)) := hp_i (ts_14 h)
theorem tw_14 {K : KT} {X : Nat → Nat → Int32} {t : Nat} {f : Nat → Int32} (h : isT t) : uph (hp K X) (t + 14) (iA 0 6 f) = hp K (set1 X (t + 14) f) := hw_i (ts_14 h)
theorem ts_15 {K : KT} {t : Nat} (h : isT t) : shp K (t + 15) = (4, 6, 0, 0) := by rcases h with rfl | rfl | rfl <;> rfl
theorem tc_15 {K : KT} {X : Nat → Nat → Int32} {t : Nat} (h : isT t) : hp K X (t + 15) = ob 6 (ofl K X (t + 15) 6) := hp_o (ts_15 h)
theorem ts_16 {K : KT} {t : Nat} (h : isT t) : shp K (t + 16) = (1, 0, 5, 0) := by rcases h with rfl | rfl | rfl <;> rfl
theorem tc_16 {K : KT} {X : Nat → Nat → Int32} {t : Nat} (h : isT t) : hp K X (t + 16) = iA 0 5 (X (t + 16)) := hp_i (ts_16 h)
theorem tw_16 {K : KT} {X : Nat → Nat → Int32} {t : Nat} {f : Nat → Int32} (h : isT t) : uph (hp K X) (t + 16) (iA 0 5 f) = hp K (set1 X (t + 16) f) := hw_i (ts_16 h)
theorem ts_17 {K : KT} {t : Nat} (h : isT t) : shp K (t + 17) = (1, 0, 5, 0) := by rcases h with rfl | rfl | rfl <;> rfl
theorem tc_17 {K : KT} {X : Nat → Nat → Int32} {t : Nat} (h : isT t) : hp K X (t + 17) = iA 0 5 (X (t + 17)) := hp_i (ts_17 h)
theorem tw_17 {K : KT} {X : Nat → Nat → Int32} {t : Nat} {f : Nat → Int32} (h : isT t) : uph (hp K X) (t + 17) (iA 0 5 f) = hp K (set1 X (t + 17) f) := hw_i (ts_17 h)
theorem ts_18 {K : KT} {t : Nat} (h : isT t) : shp K (t + 18) = (4, 6, 0, 0) := by rcases h with rfl | rfl | rfl <;> rfl
theorem tc_18 {K : KT} {X : Nat → Nat → Int32} {t : Nat} (h : isT t) : hp K X (t + 18) = ob 6 (ofl K X (t + 18) 6) := hp_o (ts_18 h)
theorem ts_19 {K : KT} {t : Nat} (h : isT t) : shp K (t + 19) = (1, 0, 10, 0) := by rcases h with rfl | rfl | rfl <;> rfl
theorem tc_19 {K : KT} {X : Nat → Nat → Int32} {t : Nat} (h : isT t) : hp K X (t + 19) = iA 0 10 (X (t + 19)) := hp_i (ts_19 h)
theorem tw_19 {K : KT} {X : Nat → Nat → Int32} {t : Nat} {f : Nat → Int32} (h : isT t) : uph (hp K X) (t + 19) (iA 0 10 f) = hp K (set1 X (t + 19) f) := hw_i (ts_19 h)
theorem ts_20 {K : KT} {t : Nat} (h : isT t) : shp K (t + 20) = (1, 0, 10, 0) := by rcases h with rfl | rfl | rfl <;> rfl
theorem tc_20 {K : KT} {X : Nat → Nat → Int32} {t : Nat} (h : isT t) : hp K X (t + 20) = iA 0 10 (X (t + 20)) := hp_i (ts_20 h)
theorem tw_20 {K : KT} {X : Nat → Nat → Int32} {t : Nat} {f : Nat → Int32} (h : isT t) : uph (hp K X) (t + 20) (iA 0 10 f) = hp K (set1 X (t + 20) f) := hw_i (ts_20 h)
theorem ts_21 {K : KT} {t : Nat} (h : isT t) : shp K (t + 21) = (4, 6, 0, 0) := by rcases h with rfl | rfl | rfl <;> rfl
theorem tc_21 {K : KT} {X : Nat → Nat → Int32} {t : Nat} (h : isT t) : hp K X (t + 21) = ob 6 (ofl K X (t + 21) 6) := hp_o (ts_21 h)
theorem ts_22 {K : KT} {t : Nat} (h : isT t) : shp K (t + 22) = (1, 0, 8, 0) := by rcases h with rfl | rfl | rfl <;> rfl
theorem tc_22 {K : KT} {X : Nat → Nat → Int32} {t : Nat} (h : isT t) : hp K X (t + 22) = iA 0 8 (X (t + 22)) := hp_i (ts_22 h)
theorem tw_22 {K : KT} {X : Nat → Nat → Int32} {t : Nat} {f : Nat → Int32} (h : isT t) : uph (hp K X) (t + 22) (iA 0 8 f) = hp K (set1 X (t + 22) f) := hw_i (ts_22 h)
theorem ts_23 {K : KT} {t : Nat} (h : isT t) : shp K (t + 23) = (1, 0, 8, 0) := by rcases h with rfl | rfl | rfl <;> rfl
theorem tc_23 {K : KT} {X : Nat → Nat → Int32} {t : Nat} (h : isT t) : hp K X (t + 23) = iA 0 8 (X (t + 23)) := hp_i (ts_23 h)
theorem tw_23 {K : KT} {X : Nat → Nat → Int32} {t : Nat} {f : Nat → Int32} (h : isT t) : uph (hp K X) (t + 23) (iA 0 8 f) = hp K (set1 X (t + 23) f) := hw_i (ts_23 h)
theorem ts_24 {K : KT} {t : Nat} (h : isT t) : shp K (t + 24) = (3, 5, 6, t + 25) := by rcases h with rfl | rfl | rfl <;> rfl
theorem tc_24 {K : KT} {X : Nat → Nat → Int32} {t : Nat} (h : isT t) : hp K X (t + 24) = rA 5 6 (fun i => if i < 6 then some (t + 25 + i) else none) := hp_r (ts_24 h)
theorem ts_31 {K : KT} {t : Nat} (h : isT t) : shp K (t + 31) = (1, 0, 6, 0) := by rcases h with rfl | rfl | rfl <;> rfl
theorem tc_31 {K : KT} {X : Nat → Nat → Int32} {t : Nat} (h : isT t) : hp K X (t + 31) = iA 0 6 (X (t + 31)) := hp_i (ts_31 h)
theorem tw_31 {K : KT} {X : Nat → Nat → Int32} {t : Nat} {f : Nat → Int32} (h : isT t) : uph (hp K X) (t + 31) (iA 0 6 f) = hp K (set1 X (t + 31) f) := hw_i (ts_31 h)
theorem ts_r {K : KT} {t p : Nat} (h : isT t) (hp : p < 6) : shp K (t + 6 + p) = (1, 0, 4, 0) := by
  match p, hp with
  | 0, _ => rcases h with rfl | rfl | rfl <;> rfl
  | 1, _ => rcases h with rfl | rfl | rfl <;> rfl
  | 2, _ => rcases h with rfl | rfl | rfl <;> rfl
  | 3, _ => rcases h with rfl | rfl | rfl <;> rfl
  | 4, _ => rcases h with rfl | rfl | rfl <;> rfl
  | 5, _ => rcases h with rfl | rfl | rfl <;> rfl
theorem tc_r {K : KT} {X : Nat → Nat → Int32} {t p : Nat} (h : isT t) (hp6 : p < 6) : hp K X (t + 6 + p) = iA 0 4 (X (t + 6 + p)) := hp_i (ts_r h hp6)
theorem tw_r {K : KT} {X : Nat → Nat → Int32} {t p : Nat} {f : Nat → Int32} (h : isT t) (hp6 : p < 6) : uph (hp K X) (t + 6 + p) (iA 0 4 f) = hp K (set1 X (t + 6 + p) f) := hw_i (ts_r h hp6)
theorem ts_s {K : KT} {t p : Nat} (h : isT t) (hp : p < 6) : shp K (t + 25 + p) = (1, 0, 12, 0) := by
  match p, hp with
  | 0, _ => rcases h with rfl | rfl | rfl <;> rfl
  | 1, _ => rcases h with rfl | rfl | rfl <;> rfl
  | 2, _ => rcases h with rfl | rfl | rfl <;> rfl
  | 3, _ => rcases h with rfl | rfl | rfl <;> rfl
  | 4, _ => rcases h with rfl | rfl | rfl <;> rfl
  | 5, _ => rcases h with rfl | rfl | rfl <;> rfl
theorem tc_s {K : KT} {X : Nat → Nat → Int32} {t p : Nat} (h : isT t) (hp6 : p < 6) : hp K X (t + 25 + p) = iA 0 12 (X (t + 25 + p)) := hp_i (ts_s h hp6)
theorem tw_s {K : KT} {X : Nat → Nat → Int32} {t p : Nat} {f : Nat → Int32} (h : isT t) (hp6 : p < 6) : uph (hp K X) (t + 25 + p) (iA 0 12 f) = hp K (set1 X (t + 25 + p) f) := hw_i (ts_s h hp6)
theorem to_0 {K : KT} {X : Nat → Nat → Int32} {t : Nat} : ofl K X t 8 0 = .ref 17 := rfl
theorem to_1 {K : KT} {X : Nat → Nat → Int32} {t : Nat} : ofl K X t 8 1 = .int (X t 1) := rfl
theorem to_2 {K : KT} {X : Nat → Nat → Int32} {t : Nat} : ofl K X t 8 2 = .int (X t 2) := rfl
theorem to_3 {K : KT} {X : Nat → Nat → Int32} {t : Nat} : ofl K X t 8 3 = .int (X t 3) := rfl
theorem to_4 {K : KT} {X : Nat → Nat → Int32} {t : Nat} : ofl K X t 8 4 = kV K t := rfl
theorem to_5 {K : KT} {X : Nat → Nat → Int32} {t : Nat} : ofl K X t 8 5 = .ref (t + 1) := rfl
theorem to_6 {K : KT} {X : Nat → Nat → Int32} {t : Nat} : ofl K X t 8 6 = .ref (t + 2) := rfl
theorem to_7 {K : KT} {X : Nat → Nat → Int32} {t : Nat} : ofl K X t 8 7 = .ref (t + 3) := rfl
theorem to_8 {K : KT} {X : Nat → Nat → Int32} {t : Nat} : ofl K X t 8 8 = .ref (t + 4) := rfl
theorem to_9 {K : KT} {X : Nat → Nat → Int32} {t : Nat} : ofl K X t 8 9 = .ref (t + 5) := rfl
theorem to_10 {K : KT} {X : Nat → Nat → Int32} {t : Nat} : ofl K X t 8 10 = .ref (t + 12) := rfl
theorem to_11 {K : KT} {X : Nat → Nat → Int32} {t : Nat} : ofl K X t 8 11 = .ref (t + 15) := rfl
theorem to_12 {K : KT} {X : Nat → Nat → Int32} {t : Nat} : ofl K X t 8 12 = .ref (t + 18) := rfl
theorem to_13 {K : KT} {X : Nat → Nat → Int32} {t : Nat} : ofl K X t 8 13 = .ref (t + 21) := rfl
theorem to_14 {K : KT} {X : Nat → Nat → Int32} {t : Nat} : ofl K X t 8 14 = .ref (t + 24) := rfl
theorem to_15 {K : KT} {X : Nat → Nat → Int32} {t : Nat} : ofl K X t 8 15 = .ref (t + 31) := rfl
theorem tow_1 {K : KT} {X : Nat → Nat → Int32} {t : Nat} {x : Int32} (h : isT t) : uph (hp K X) t (stf (ob 8 (ofl K X t 8)) 1 (.int x)) = hp K (set1 X t (upd (X t) 1 x)) := hw_o (ts_0 h) rfl
theorem tow_2 {K : KT} {X : Nat → Nat → Int32} {t : Nat} {x : Int32} (h : isT t) : uph (hp K X) t (stf (ob 8 (ofl K X t 8)) 2 (.int x)) = hp K (set1 X t (upd (X t) 2 x)) := hw_o (ts_0 h) rfl
theorem tow_3 {K : KT} {X : Nat → Nat → Int32} {t : Nat} {x : Int32} (h : isT t) : uph (hp K X) t (stf (ob 8 (ofl K X t 8)) 3 (.int x)) = hp K (set1 X t (upd (X t) 3 x)) := hw_o (ts_0 h) rfl
theorem tow_4 {K : KT} {X : Nat → Nat → Int32} {t : Nat} {v : Value} (h : isT t) : uph (hp K X) t (stf (ob 8 (ofl K X t 8)) 4 v) = hp (setV K t v) X := hw_v (ts_0 h)
theorem ro_12_0 {K : KT} {X : Nat → Nat → Int32} {t : Nat} : ofl K X (t + 12) 6 0 = .ref (t + 13) := rfl
theorem ro_12_1 {K : KT} {X : Nat → Nat → Int32} {t : Nat} : ofl K X (t + 12) 6 1 = .ref (t + 14) := rfl
theorem ro_12_2 {K : KT} {X : Nat → Nat → Int32} {t : Nat} : ofl K X (t + 12) 6 2 = .int (X (t + 12) 2) := rfl
theorem row_12 {K : KT} {X : Nat → Nat → Int32} {t : Nat} {x : Int32} (h : isT t) : uph (hp K X) (t + 12) (stf (ob 6 (ofl K X (t + 12) 6)) 2 (.int x)) = hp K (set1 X (t + 12) (upd (X (t + 12)) 2 x)) := hw_o (ts_12 h) rfl
theorem ro_15_0 {K : KT} {X : Nat → Nat → Int32} {t : Nat} : ofl K X (t + 15) 6 0 = .ref (t + 16) := rfl
theorem ro_15_1 {K : KT} {X : Nat → Nat → Int32} {t : Nat} : ofl K X (t + 15) 6 1 = .ref (t + 17) := rfl
theorem ro_15_2 {K : KT} {X : Nat → Nat → Int32} {t : Nat} : ofl K X (t + 15) 6 2 = .int (X (t + 15) 2) := rfl
theorem row_15 {K : KT} {X : Nat → Nat → Int32} {t : Nat} {x : Int32} (h : isT t) : uph (hp K X) (t + 15) (stf (ob 6 (ofl K X (t + 15) 6)) 2 (.int x)) = hp K (set1 X (t + 15) (upd (X (t + 15)) 2 x)) := hw_o (ts_15 h) rfl
theorem ro_18_0 {K : KT} {X : Nat → Nat → Int32} {t : Nat} : ofl K X (t + 18) 6 0 = .ref (t + 19) := rfl
theorem ro_18_1 {K : KT} {X : Nat → Nat → Int32} {t : Nat} : ofl K X (t + 18) 6 1 = .ref (t + 20) := rfl
theorem ro_18_2 {K : KT} {X : Nat → Nat → Int32} {t : Nat} : ofl K X (t + 18) 6 2 = .int (X (t + 18) 2) := rfl
theorem row_18 {K : KT} {X : Nat → Nat → Int32} {t : Nat} {x : Int32} (h : isT t) : uph (hp K X) (t + 18) (stf (ob 6 (ofl K X (t + 18) 6)) 2 (.int x)) = hp K (set1 X (t + 18) (upd (X (t + 18)) 2 x)) := hw_o (ts_18 h) rfl
theorem ro_21_0 {K : KT} {X : Nat → Nat → Int32} {t : Nat} : ofl K X (t + 21) 6 0 = .ref (t + 22) := rfl
theorem ro_21_1 {K : KT} {X : Nat → Nat → Int32} {t : Nat} : ofl K X (t + 21) 6 1 = .ref (t + 23) := rfl
theorem ro_21_2 {K : KT} {X : Nat → Nat → Int32} {t : Nat} : ofl K X (t + 21) 6 2 = .int (X (t + 21) 2) := rfl
theorem row_21 {K : KT} {X : Nat → Nat → Int32} {t : Nat} {x : Int32} (h : isT t) : uph (hp K X) (t + 21) (stf (ob 6 (ofl K X (t + 21) 6)) 2 (.int x)) = hp K (set1 X (t + 21) (upd (X (t + 21)) 2 x)) := hw_o (ts_21 h) rfl
theorem kV_setJ (K : KT) (q : Nat) (f : Nat → Int64) (a : Nat) : kV (setJ K q f) a = kV K a := rfl
theorem kV_same (K : KT) (q : Nat) (v : Value) : kV (setV K q v) q = v := if_pos rfl
theorem kV_ne (K : KT) {q a : Nat} (v : Value) (h : a ≠ q) : kV (setV K q v) a = kV K a := if_neg h
