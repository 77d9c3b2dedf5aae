/-! What class and reference both picture: fruit, cuts, days, walls as lists of clauses. -/
/-- a clause: its word (0 sun, 1 shade, 2 ripe), its number, its signs -/
abbrev Cla : Type := Int32 × Int32 × List Int32
/-- a tree: fruit, cuts, days, kinds, numbers, had, ripe, rows, the wall -/
abbrev TR : Type := Nat × Int32 × Int32 × (Nat → Int32) × (Nat → Int32) × (Nat → Int32) × (Nat → Int32) × (Nat → Int32) × List Cla
abbrev tN (T : TR) : Nat := T.1
abbrev tC (T : TR) : Int32 := T.2.1
abbrev tD (T : TR) : Int32 := T.2.2.1
abbrev tK (T : TR) : Nat → Int32 := T.2.2.2.1
abbrev tV (T : TR) : Nat → Int32 := T.2.2.2.2.1
abbrev tH (T : TR) : Nat → Int32 := T.2.2.2.2.2.1
abbrev tR (T : TR) : Nat → Int32 := T.2.2.2.2.2.2.1
abbrev tW (T : TR) : Nat → Int32 := T.2.2.2.2.2.2.2.1
abbrev tL (T : TR) : List Cla := T.2.2.2.2.2.2.2.2
def fact (T : TR) (p h : Nat) (f : Int32) : Int32 :=
  if f = 0 then nI p else if f = 1 then tK T p else if f = 2 then tV T p else if f = 3 then nI h else if f = 4 then tR T p / 10 else tD T - tD T / 10 * 10
def tst (T : TR) (p h : Nat) (t : Int32) : Bool :=
  if t / 100 - t / 100 / 10 * 10 = 0 then decide (fact T p h (t / 1000) < t - t / 100 * 100)
  else if t / 100 - t / 100 / 10 * 10 = 1 then decide (fact T p h (t / 1000) = t - t / 100 * 100)
  else decide (t - t / 100 * 100 < fact T p h (t / 1000))
/-- a sign of a clause, on a pile of answers -/
def tk (T : TR) (p h : Nat) (t : Int32) (s : List Bool) : List Bool :=
  if t = -33 then (match s with
    | b :: r => (!b) :: r
    | [] => [])
  else if t < 0 then (match s with
    | b :: a :: r => (if t = -38 then a && b else a || b) :: r
    | r => r)
  else tst T p h t :: s
def ev (T : TR) (p h : Nat) : List Int32 → List Bool → List Bool
  | [], s => s
  | t :: r, s => ev T p h r (tk T p h t s)
/-- signs are an E, d answers lying on the pile -/
def wfl : List Int32 → Nat → Prop
  | [], d => d = 1
  | t :: r, d => (t = -33 ∧ 1 ≤ d ∧ wfl r d) ∨ (t < 0 ∧ t ≠ -33 ∧ 2 ≤ d ∧ wfl r (d - 1)) ∨ (¬ t < 0 ∧ d < 11 ∧ wfl r (d + 1))
def hdv (T : TR) (p h : Nat) (c : Cla) : Bool := (ev T p h c.2.2 []).headD false
def clv (T : TR) (p h : Nat) (n : Int32) (c : Cla) : Int32 := if 1 < c.1 ∨ hdv T p h c = false then n else if c.1 = 0 then n + c.2.1 else n + -c.2.1
def sumT (T : TR) (p h : Nat) : Int32 := (tL T).foldl (clv T p h) 5
def enT (T : TR) : Int32 := (tL T).foldl (fun n c => if c.1 = 2 then c.2.1 else n) 30
/-- the reference's rows of a clause -/
def RW (X : Nat → Nat → Int32) (c : Nat) (cl : Cla) : Prop :=
  X 149 c = cl.1 ∧ X 150 c = cl.2.1 ∧ (cl.1 = 2 ∨ ((cl.1 = 0 ∨ cl.1 = 1) ∧ ∃ a, X 151 c = nI a ∧ X 152 c = nI (a + cl.2.2.length) ∧ a + cl.2.2.length ≤ 600 ∧ (∀ i (h : i < cl.2.2.length), X 153 (a + i) = cl.2.2[i]) ∧ wfl cl.2.2 0))
def RLs (X : Nat → Nat → Int32) (f : Int32) (wl : List Cla) : Prop :=
  (f = -1 ∧ wl = []) ∨ ∃ k, k < 6 ∧ f = nI k ∧ X 148 k = nI wl.length ∧ wl.length ≤ 10 ∧ ∀ i (h : i < wl.length), RW X (10 * k + i) wl[i]
/-- the reference holds the tree T -/
def RT (X : Nat → Nat → Int32) (T : TR) : Prop :=
  tN T ≤ 6 ∧ X 141 0 = nI (tN T) ∧ X 141 1 = tC T ∧ X 141 2 = tD T ∧ (∀ p, p < tN T → X 142 p = tK T p ∧ X 143 p = tV T p ∧ X 144 p = tH T p ∧ X 145 p = tR T p) ∧ (∀ i, i < 4 * tN T → X 146 i = tW T i) ∧ RLs X (X 141 9) (tL T)
/-- but for the rows of S nothing changed -/
def Fr (S : List Nat) (X Y : Nat → Nat → Int32) : Prop := ∀ q, ¬ q ∈ S → Y q = X q
theorem Fr_refl (S : List Nat) (X : Nat → Nat → Int32) : Fr S X X := fun _ _ => rfl
theorem Fr_trans {S : List Nat} {X Y Z : Nat → Nat → Int32} (h : Fr S X Y) (g : Fr S Y Z) : Fr S X Z := fun q hq => (g q hq).trans (h q hq)
theorem Fr_set {S : List Nat} {X Y : Nat → Nat → Int32} {q : Nat} {f : Nat → Int32} (h : Fr S X Y) (hq : q ∈ S) : Fr S X (set1 Y q f) := fun a ha => by
  have e : a ≠ q := fun e => ha (e ▸ hq)
  rw [← h a ha]
  exact set1_ne _ _ e
theorem Fr_sub {S R : List Nat} {X Y : Nat → Nat → Int32} (h : Fr S X Y) (hs : ∀ q, q ∈ S → q ∈ R) : Fr R X Y := fun a ha => h a (fun e => ha (hs a e))
/-- a loop: I holds at its head -/
theorem loopI {r : Nat} {md : Md} {pc N : Nat} {K : KT} {n z : Nat} (I : Nat → List Value → (Nat → Nat → Int32) → Prop)
    (step : ∀ k L X, k < N → I k L X → ∃ L' X', E r md pc L [] (hp K X, n, z) = E r md pc L' [] (hp K X', n, z) ∧ I (k + 1) L' X')
    {L : List Value} {X : Nat → Nat → Int32} (h0 : I 0 L X) : ∃ L' X', E r md pc L [] (hp K X, n, z) = E r md pc L' [] (hp K X', n, z) ∧ I N L' X' := by
  have g : ∀ k, k ≤ N → ∃ L' X', E r md pc L [] (hp K X, n, z) = E r md pc L' [] (hp K X', n, z) ∧ I k L' X' := by
    intro k
    induction k with
    | zero => intro _; exact ⟨L, X, rfl, h0⟩
    | succ k ih =>
      intro hk
      obtain ⟨L1, X1, e1, i1⟩ := ih (by omega)
      obtain ⟨L2, X2, e2, i2⟩ := step k L1 X1 (by omega) i1
      exact ⟨L2, X2, e1.trans e2, i2⟩
  exact g N (Nat.le_refl N)
theorem RLs_fr {X Y : Nat → Nat → Int32} {f : Int32} {wl : List Cla} (h148 : Y 148 = X 148) (h149 : Y 149 = X 149) (h150 : Y 150 = X 150) (h151 : Y 151 = X 151) (h152 : Y 152 = X 152) (h153 : Y 153 = X 153) (h : RLs X f wl) : RLs Y f wl := by
  unfold RLs RW at *
  rw [h148, h149, h150, h151, h152, h153]
  exact h
theorem RT_fr {S : List Nat} {X Y : Nat → Nat → Int32} {T : TR} (f : Fr S X Y) (hS : [141, 142, 143, 144, 145, 146, 148, 149, 150, 151, 152, 153].all (fun q => !(S.contains q)) = true) (h : RT X T) : RT Y T := by
  have g : ∀ q, q ∈ [141, 142, 143, 144, 145, 146, 148, 149, 150, 151, 152, 153] → Y q = X q := by
    intro q hq
    apply f q
    intro hm
    have := List.all_eq_true.mp hS q hq
    simp [hm] at this
  unfold RT at *
  rw [g 141 (by decide), g 142 (by decide), g 143 (by decide), g 144 (by decide), g 145 (by decide), g 146 (by decide)]
  refine ⟨h.1, h.2.1, h.2.2.1, h.2.2.2.1, h.2.2.2.2.1, h.2.2.2.2.2.1, ?_⟩
  exact RLs_fr (g 148 (by decide)) (g 149 (by decide)) (g 150 (by decide)) (g 151 (by decide)) (g 152 (by decide)) (g 153 (by decide)) h.2.2.2.2.2.2
theorem ix6 {a : Nat} (h : a < 6) : ix (nI a) 6 = true := ix_nI h (by decide)
theorem ix4 {a : Nat} (h : a < 4) : ix (nI a) 4 = true := ix_nI h (by decide)
theorem ix5 {a : Nat} (h : a < 5) : ix (nI a) 5 = true := ix_nI h (by decide)
theorem ix7 {a : Nat} (h : a < 7) : ix (nI a) 7 = true := ix_nI h (by decide)
theorem ix8 {a : Nat} (h : a < 8) : ix (nI a) 8 = true := ix_nI h (by decide)
theorem ix10 {a : Nat} (h : a < 10) : ix (nI a) 10 = true := ix_nI h (by decide)
theorem ix11 {a : Nat} (h : a < 11) : ix (nI a) 11 = true := ix_nI h (by decide)
theorem ix12 {a : Nat} (h : a < 12) : ix (nI a) 12 = true := ix_nI h (by decide)
theorem ix20 {a : Nat} (h : a < 20) : ix (nI a) 20 = true := ix_nI h (by decide)
theorem ix24 {a : Nat} (h : a < 24) : ix (nI a) 24 = true := ix_nI h (by decide)
theorem ix60 {a : Nat} (h : a < 60) : ix (nI a) 60 = true := ix_nI h (by decide)
theorem ix64 {a : Nat} (h : a < 64) : ix (nI a) 64 = true := ix_nI h (by decide)
theorem ix100 {a : Nat} (h : a < 100) : ix (nI a) 100 = true := ix_nI h (by decide)
theorem ix101 {a : Nat} (h : a < 101) : ix (nI a) 101 = true := ix_nI h (by decide)
theorem ix360 {a : Nat} (h : a < 360) : ix (nI a) 360 = true := ix_nI h (by decide)
theorem ix600 {a : Nat} (h : a < 600) : ix (nI a) 600 = true := ix_nI h (by decide)
theorem cx4 {a : Nat} (h : a < 4) : cx (nI a) = a := cx_nI (by omega)
theorem cx5 {a : Nat} (h : a < 5) : cx (nI a) = a := cx_nI (by omega)
theorem cx6 {a : Nat} (h : a < 6) : cx (nI a) = a := cx_nI (by omega)
theorem cx7 {a : Nat} (h : a < 7) : cx (nI a) = a := cx_nI (by omega)
theorem cx8 {a : Nat} (h : a < 8) : cx (nI a) = a := cx_nI (by omega)
theorem cx10 {a : Nat} (h : a < 10) : cx (nI a) = a := cx_nI (by omega)
theorem cx11 {a : Nat} (h : a < 11) : cx (nI a) = a := cx_nI (by omega)
theorem cx12 {a : Nat} (h : a < 12) : cx (nI a) = a := cx_nI (by omega)
theorem cx20 {a : Nat} (h : a < 20) : cx (nI a) = a := cx_nI (by omega)
theorem cx24 {a : Nat} (h : a < 24) : cx (nI a) = a := cx_nI (by omega)
theorem cx60 {a : Nat} (h : a < 60) : cx (nI a) = a := cx_nI (by omega)
theorem cx64 {a : Nat} (h : a < 64) : cx (nI a) = a := cx_nI (by omega)
theorem cx100 {a : Nat} (h : a < 100) : cx (nI a) = a := cx_nI (by omega)
theorem cx101 {a : Nat} (h : a < 101) : cx (nI a) = a := cx_nI (by omega)
theorem cx360 {a : Nat} (h : a < 360) : cx (nI a) = a := cx_nI (by omega)
theorem cx600 {a : Nat} (h : a < 600) : cx (nI a) = a := cx_nI (by omega)
theorem cxs {a : Nat} (h : a < 10000) : cx (nI a) = a := cx_nI (by omega)
theorem foldl_take {α β : Type} {f : β → α → β} {a : β} {l : List α} {k : Nat} (h : k < l.length) : (l.take (k + 1)).foldl f a = f ((l.take k).foldl f a) l[k] := by
  have e : l.take (k + 1) = l.take k ++ [l[k]] := (List.take_append_getElem h).symm
  rw [e, List.foldl_append]
  rfl
def bg (f : Int32) : Nat := if f < 0 then 0 else 10 * cx f
theorem set1_self (X : Nat → Nat → Int32) (q : Nat) : set1 X q (X q) = X := by
  funext a
  unfold set1
  by_cases h : a = q
  · rw [if_pos h, h]
  · rw [if_neg h]
