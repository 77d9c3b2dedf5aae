/-! The reference: what a test asks, what a clause's row of signs holds. -/
theorem ite_Ei {r : Nat} {md : Md} {pc : Nat} {L st : List Value} {w : Wd} {c : Prop} [Decidable c] {a b : Int32} : (if c then E r md pc L (.int a :: st) w else E r md pc L (.int b :: st) w) = E r md pc L (.int (if c then a else b) :: st) w := by
  split <;> rfl
theorem ite_Ri {w : Wd} {c : Prop} [Decidable c] {a b : Int32} : (if c then (some (some (.int a), w) : Option Ot) else some (some (.int b), w)) = some (some (.int (if c then a else b)), w) := by
  split <;> rfl
def factM (X : Nat → Nat → Int32) (p h : Nat) (f : Int32) : Int32 :=
  if f = 0 then nI p else if f = 1 then X 142 p else if f = 2 then X 143 p else if f = 3 then nI h else if f = 4 then X 145 p / 10 else X 141 2 - X 141 2 / 10 * 10
theorem c_factOf {K : KT} {X : Nat → Nat → Int32} {n z p h : Nat} {f : Int32} (hp6 : p < 6) :
    E 1 mX12_factOf 0 [.ref 141, .int f, .int (nI p), .int (nI h)] [] (hp K X, n, z) = some (some (.int (factM X p h f)), (hp K X, n, z)) := by
  have i6 : ix (nI p) 6 = true := ix_nI hp6 (by decide)
  have cp : cx (nI p) = p := cx_nI (by omega)
  have h10 : ¬ (10 : Int32) = 0 := by decide
  simp only [pX12_factOf_0, pX12_factOf_1, pX12_factOf_36, pX12_factOf_37, pX12_factOf_38, pX12_factOf_39, pX12_factOf_42, pX12_factOf_43, pX12_factOf_44, pX12_factOf_45, pX12_factOf_46, pX12_factOf_49, pX12_factOf_50, pX12_factOf_51, pX12_factOf_52, pX12_factOf_53, pX12_factOf_54, pX12_factOf_55, pX12_factOf_58, pX12_factOf_59, pX12_factOf_60, pX12_factOf_62, pX12_factOf_63, pX12_factOf_64, pX12_factOf_65, pX12_factOf_68, pX12_factOf_70, pX12_factOf_71, kd_i0, kd_i1, kd_i2, kd_i3, kd_jA, kd_r5, kd_r6, kd_r7, al_i, al_j, al_r, ai_i, aj_j, aq_r, cls_o, fv_o, sti_i, stj_j, st2_s, st2_n, bnd_some, set1_same, set1_twice, hc_141, of_141_3, of_141_4, of_141_6, of_141_2, hc_142, hc_143, hc_145, i6, cp, h10, not_false_eq_true, ite_Ri]
  rfl
def tstM (X : Nat → Nat → Int32) (p h : Nat) (t : Int32) : Bool :=
  if t / 100 - t / 100 / 10 * 10 = 0 then decide (factM X p h (t / 1000) < t - t / 100 * 100)
  else if t / 100 - t / 100 / 10 * 10 = 1 then decide (factM X p h (t / 1000) = t - t / 100 * 100)
  else decide (t - t / 100 * 100 < factM X p h (t / 1000))
/-- a sign of a clause, on a pile of answers -/
def tkM (X : Nat → Nat → Int32) (p h : Nat) (t : Int32) (s : List Bool) : List Bool :=
  if t = -33 then (match s with
    | b :: r => (!b) :: r
    | [] => [])
  else if t < 0 then (match s with
    | b :: a :: r => (if t = -38 then a && b else a || b) :: r
    | r => r)
  else tstM X p h t :: s
def evM (X : Nat → Nat → Int32) (p h : Nat) (S : Nat → Int32) : Nat → Nat → List Bool → List Bool
  | _, 0, s => s
  | a, k + 1, s => evM X p h S (a + 1) k (tkM X p h (S a) s)
/-- k signs from a on are an E, d answers lying on the pile -/
def wft (S : Nat → Int32) : Nat → Nat → Nat → Prop
  | _, 0, d => d = 1
  | a, k + 1, d => (S a = -33 ∧ 1 ≤ d ∧ wft S (a + 1) k d) ∨ (S a < 0 ∧ S a ≠ -33 ∧ 2 ≤ d ∧ wft S (a + 1) k (d - 1)) ∨ (¬ S a < 0 ∧ d < 100 ∧ wft S (a + 1) k (d + 1))
/-- the pile of booleans holds the answers, the newest last -/
def plO (f : Nat → Int32) : List Bool → Prop
  | [] => True
  | b :: r => f r.length = bI b ∧ plO f r
theorem plO_upd {f : Nat → Int32} {x : Int32} : ∀ {r : List Bool} {k : Nat}, r.length ≤ k → plO f r → plO (upd f k x) r := by
  intro r
  induction r with
  | nil => intro _ _ _; trivial
  | cons b r ih =>
    intro k hk h
    simp only [List.length_cons] at hk
    exact ⟨by rw [pk_un (by omega)]; exact h.1, ih (by omega) h.2⟩
theorem nar_b (b : Bool) : vp_nar .boolean (bI b) = bI b := by cases b <;> rfl
theorem nar_1 : vp_nar .boolean 1 = 1 := rfl
theorem nar_0 : vp_nar .boolean 0 = 0 := rfl
theorem bI_ite (c : Prop) [Decidable c] : (if c then (1 : Int32) else 0) = bI (decide c) := by by_cases h : c <;> simp [h, bI]
