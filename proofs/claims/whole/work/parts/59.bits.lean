/-! Int32 by its bits (the rows bt .. b_sshr are the kit's, pasted), what 'hasb' asks; sets of hours and of fruit as numbers. -/
def bt (x : Int32) (i : Nat) : Bool := x.toBitVec.getLsbD i
theorem b_ext {x y : Int32} (h : ∀ i, i < 32 → bt x i = bt y i) : x = y := Int32.toBitVec_inj.mp (BitVec.eq_of_getLsbD_eq (fun i hi => h i hi))
theorem b_or (x y : Int32) (i : Nat) : bt (x ||| y) i = (bt x i || bt y i) := by unfold bt; rw [Int32.toBitVec_or, BitVec.getLsbD_or]
theorem b_and (x y : Int32) (i : Nat) : bt (x &&& y) i = (bt x i && bt y i) := by unfold bt; rw [Int32.toBitVec_and, BitVec.getLsbD_and]
theorem b_xor (x y : Int32) (i : Nat) : bt (x ^^^ y) i = (bt x i ^^ bt y i) := by unfold bt; rw [Int32.toBitVec_xor, BitVec.getLsbD_xor]
theorem b_big {x : Int32} {i : Nat} (h : 32 ≤ i) : bt x i = false := BitVec.getLsbD_of_ge _ _ h
theorem b_m1 : ∀ i, i < 32 → bt (-1) i = true := by decide +kernel
theorem b_0 (i : Nat) : bt 0 i = false := BitVec.getLsbD_zero
theorem s_l : ∀ n, n < 32 → ((nI n &&& 31).toBitVec.smod 32).toNat = n := by decide +kernel
theorem b_shl (n : Nat) (hn : n < 32) (x : Int32) {i : Nat} (hi : i < 32) : bt (x <<< (nI n &&& 31)) i = (decide (n ≤ i) && bt x (i - n)) := by
  unfold bt
  rw [Int32.toBitVec_shiftLeft]
  show (x.toBitVec <<< ((nI n &&& 31).toBitVec.smod 32).toNat).getLsbD i = _
  rw [s_l n hn, BitVec.getLsbD_shiftLeft]
  rcases Nat.lt_or_ge i n with h | h
  · simp [h, Nat.not_le.mpr h]
  · simp [hi, h, Nat.not_lt.mpr h]
theorem b_sshr (n : Nat) (hn : n < 32) (x : Int32) {i : Nat} (hi : i < 32) : bt (x >>> (nI n &&& 31)) i = if n + i < 32 then bt x (n + i) else bt x 31 := by
  unfold bt
  rw [Int32.toBitVec_shiftRight]
  show (x.toBitVec.sshiftRight ((nI n &&& 31).toBitVec.smod 32).toNat).getLsbD i = _
  rw [s_l n hn, BitVec.getLsbD_sshiftRight, BitVec.msb_eq_getLsbD_last]
  simp [hi]
theorem b_nI {m i : Nat} (hi : i < 32) : bt (nI m) i = m.testBit i := by
  show (BitVec.ofNat 32 m).getLsbD i = _
  rw [BitVec.getLsbD_ofNat, decide_eq_true hi, Bool.true_and]
theorem b_1 {i : Nat} (hi : i < 32) : bt 1 i = decide (i = 0) := (by decide +kernel : ∀ i, i < 32 → bt 1 i = decide (i = 0)) i hi
theorem b_one {k i : Nat} (hk : k < 32) (hi : i < 32) : bt ((1 : Int32) <<< (nI k &&& 31)) i = decide (i = k) := by
  rw [b_shl k hk 1 hi]
  by_cases q : k ≤ i
  · rw [decide_eq_true q, Bool.true_and, b_1 (by omega)]
    by_cases e : i = k
    · rw [decide_eq_true e, decide_eq_true (by omega)]
    · rw [decide_eq_false e, decide_eq_false (by omega)]
  · rw [decide_eq_false q, Bool.false_and, decide_eq_false (by omega)]
theorem hasb_bt (m : Int32) {h : Nat} (hh : h < 32) : hasb m (nI h) = bt m h := by
  have e0 : bt (m >>> (nI h &&& 31)) 0 = bt m h := by
    rw [b_sshr h hh m (by decide), if_pos (by omega)]
    rfl
  obtain ⟨j, hj, e⟩ := pk_andE (m >>> (nI h &&& 31)) 1 (m := 1) (by decide)
  have e1 : bt ((m >>> (nI h &&& 31)) &&& 1) 0 = bt m h := by
    rw [b_and, e0, b_1 (by decide), decide_eq_true rfl, Bool.and_true]
  unfold hasb
  rw [e] at e1 ⊢
  have : j = 0 ∨ j = 1 := by omega
  rcases this with rfl | rfl
  · rw [← e1]; decide
  · rw [← e1]; decide
theorem hasb_and {a b : Int32} {h : Nat} (hh : h < 32) : hasb (a &&& b) (nI h) = (hasb a (nI h) && hasb b (nI h)) := by
  rw [hasb_bt _ hh, hasb_bt _ hh, hasb_bt _ hh, b_and]
theorem hasb_or {a b : Int32} {h : Nat} (hh : h < 32) : hasb (a ||| b) (nI h) = (hasb a (nI h) || hasb b (nI h)) := by
  rw [hasb_bt _ hh, hasb_bt _ hh, hasb_bt _ hh, b_or]
theorem hasb_xor {a b : Int32} {h : Nat} (hh : h < 32) : hasb (a ^^^ b) (nI h) = (hasb a (nI h) ^^ hasb b (nI h)) := by
  rw [hasb_bt _ hh, hasb_bt _ hh, hasb_bt _ hh, b_xor]
theorem hasb_cpl {a : Int32} {h : Nat} (hh : h < 32) : hasb (a ^^^ -1) (nI h) = !(hasb a (nI h)) := by
  rw [hasb_xor hh, hasb_bt (-1) hh, b_m1 h hh, Bool.xor_true]
theorem hasb_one {k h : Nat} (hk : k < 32) (hh : h < 32) : hasb ((1 : Int32) <<< (nI k &&& 31)) (nI h) = decide (h = k) := by
  rw [hasb_bt _ hh, b_one hk hh]
theorem hasb_nI {m h : Nat} (hh : h < 32) : hasb (nI m) (nI h) = m.testBit h := by
  rw [hasb_bt _ hh, b_nI hh]
theorem nI_or (a b : Nat) : nI a ||| nI b = nI (a ||| b) := by
  apply b_ext
  intro i hi
  rw [b_or, b_nI hi, b_nI hi, b_nI hi, Nat.testBit_or]
theorem nI_and (a b : Nat) : nI a &&& nI b = nI (a &&& b) := by
  apply b_ext
  intro i hi
  rw [b_and, b_nI hi, b_nI hi, b_nI hi, Nat.testBit_and]
theorem one_nI {k : Nat} (hk : k < 31) : (1 : Int32) <<< (nI k &&& 31) = nI (2 ^ k) := by
  apply b_ext
  intro i hi
  rw [b_one (by omega) hi, b_nI hi, Nat.testBit_two_pow]
  by_cases e : i = k
  · rw [decide_eq_true e, decide_eq_true e.symm]
  · rw [decide_eq_false e, decide_eq_false (fun q => e q.symm)]
theorem z_bits {x : Int32} (h : ∀ i, i < 32 → bt x i = false) : x = 0 := b_ext (fun i hi => by rw [h i hi, b_0])
theorem bits_z {x : Int32} (h : x = 0) (i : Nat) : bt x i = false := by rw [h, b_0]
/-- a set of hours is a number below 4096 -/
theorem lay_rng (T : TR) (p : Nat) : ∀ k, k ≤ 12 → ∃ m, m < 2 ^ k ∧ layT T p k = nI m := by
  intro k
  induction k with
  | zero => intro _; exact ⟨0, by decide, rfl⟩
  | succ k ih =>
    intro hk
    obtain ⟨m, hm, e⟩ := ih (by omega)
    have hp : 2 ^ (k + 1) = 2 ^ k + 2 ^ k := by rw [Nat.pow_succ]; omega
    show ∃ m, m < 2 ^ (k + 1) ∧ (if ownerT T k = nI p then layT T p k ||| (1 <<< (nI k &&& 31)) else layT T p k) = nI m
    by_cases q : ownerT T k = nI p
    · rw [if_pos q, e, one_nI (by omega), nI_or]
      refine ⟨m ||| 2 ^ k, ?_, rfl⟩
      exact Nat.or_lt_two_pow (by omega) (by omega)
    · rw [if_neg q, e]
      exact ⟨m, by omega, rfl⟩
theorem hr_rng (T : TR) (p : Nat) : ∃ m, m < 4096 ∧ hrT T p = nI m := lay_rng T p 12 (Nat.le_refl _)
theorem lay_bit (T : TR) (p : Nat) : ∀ k, k ≤ 12 → ∀ h, h < 32 → hasb (layT T p k) (nI h) = (decide (h < k) && decide (ownerT T h = nI p)) := by
  intro k
  induction k with
  | zero =>
    intro _ h hh
    rw [show layT T p 0 = 0 from rfl, hasb_bt _ hh, b_0]
    simp
  | succ k ih =>
    intro hk h hh
    show hasb (if ownerT T k = nI p then layT T p k ||| (1 <<< (nI k &&& 31)) else layT T p k) (nI h) = _
    by_cases q : ownerT T k = nI p
    · rw [if_pos q, hasb_or hh, ih (by omega) h hh, hasb_one (by omega) hh]
      by_cases e : h = k
      · subst e; simp [q]
      · have e2 : decide (h < k + 1) = decide (h < k) := by simp; omega
        rw [e2, decide_eq_false e, Bool.or_false]
    · rw [if_neg q, ih (by omega) h hh]
      by_cases e : h = k
      · subst e; simp [q]
      · have e2 : decide (h < k + 1) = decide (h < k) := by simp; omega
        rw [e2]
theorem hr_bit (T : TR) (p : Nat) {h : Nat} (hh : h < 12) : hasb (hrT T p) (nI h) = decide (ownerT T h = nI p) := by
  unfold hrT
  rw [lay_bit T p 12 (Nat.le_refl _) h (by omega), decide_eq_true hh, Bool.true_and]
/-- T and S differ in what is cut alone, and there only beyond the fruit -/
def sameB (T S : TR) : Prop := tN S = tN T ∧ tD S = tD T ∧ tK S = tK T ∧ tV S = tV T ∧ tH S = tH T ∧ tR S = tR T ∧ tW S = tW T ∧ tL S = tL T
theorem ev_cut (T : TR) (c : Int32) (p h : Nat) : ∀ (l : List Int32) (s : List Bool), ev (tSC T c) p h l s = ev T p h l s := by
  intro l
  induction l with
  | nil => intro s; rfl
  | cons t l ih =>
    intro s
    show ev (tSC T c) p h l (tk (tSC T c) p h t s) = ev T p h l (tk T p h t s)
    rw [ih]
    rfl
theorem sum_cut (T : TR) (c : Int32) (p h : Nat) : sumT (tSC T c) p h = sumT T p h := by
  have e : clv (tSC T c) p h = clv T p h := by
    funext n x
    unfold clv hdv
    rw [ev_cut]
  unfold sumT
  rw [e]
  rfl
theorem pull_cut {T : TR} {c d : Int32} {p h : Nat} (hpn : p ≤ 6) (e : ∀ q, q < p → hasb c (nI q) = hasb d (nI q)) : pullT (tSC T c) p h = pullT (tSC T d) p h := by
  have e1 : (0 < p ∧ hasb c (nI (p - 1)) = false) = (0 < p ∧ hasb d (nI (p - 1)) = false) := by
    by_cases p0 : 0 < p
    · rw [e (p - 1) (by omega)]
    · simp [p0]
  unfold pullT
  rw [sum_cut, sum_cut]
  show (if tK T p = 1 then _ else if tK T p = 2 then _ else if tK T p = 3 then _ else if tK T p = 4 then (if 0 < p ∧ hasb c (nI (p - 1)) = false then erT (sumT T p h) h - 1 else erT (sumT T p h) h) else _) = (if tK T p = 1 then _ else if tK T p = 2 then _ else if tK T p = 3 then _ else if tK T p = 4 then (if 0 < p ∧ hasb d (nI (p - 1)) = false then erT (sumT T p h) h - 1 else erT (sumT T p h) h) else _)
  simp only [e1]
  rfl
theorem own_cut {T : TR} {c d : Int32} {h : Nat} : ∀ k, k ≤ 6 → (∀ q, q < k → hasb c (nI q) = hasb d (nI q)) → ownT (tSC T c) h k = ownT (tSC T d) h k := by
  intro k
  induction k with
  | zero => intro _ _; rfl
  | succ k ih =>
    intro hk e
    have i1 := ih (by omega) (fun q hq => e q (by omega))
    have i2 := pull_cut (T := T) (c := c) (d := d) (p := k) (h := h) (by omega) (fun q hq => e q (by omega))
    show (if hasb c (nI k) = true then _ else if pullT (tSC T c) k h ≤ _ then _ else _) = (if hasb d (nI k) = true then _ else if pullT (tSC T d) k h ≤ _ then _ else _)
    rw [e k (by omega), i1, i2]
theorem hr_cut {T : TR} {c d : Int32} {p : Nat} (h6 : tN T ≤ 6) (e : ∀ q, q < tN T → hasb c (nI q) = hasb d (nI q)) : hrT (tSC T c) p = hrT (tSC T d) p := by
  have ho : ∀ h, ownerT (tSC T c) h = ownerT (tSC T d) h := fun h => by
    unfold ownerT
    rw [show tN (tSC T c) = tN T from rfl, show tN (tSC T d) = tN T from rfl, own_cut (tN T) h6 e]
  have : ∀ k, layT (tSC T c) p k = layT (tSC T d) p k := by
    intro k
    induction k with
    | zero => rfl
    | succ k ih =>
      show (if ownerT (tSC T c) k = nI p then layT (tSC T c) p k ||| _ else _) = (if ownerT (tSC T d) k = nI p then layT (tSC T d) p k ||| _ else _)
      rw [ho, ih]
  exact this 12
theorem tSC_self (T : TR) : tSC T (tC T) = T := rfl
