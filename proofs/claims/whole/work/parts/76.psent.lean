/-! Who can be sent: the ways as rows of digits; the best, counted from behind. -/
section SENT
variable (T : TR) (ws : List Int32)
def okw (k p : Nat) : Prop := ws.getD k 0 &&& (tH T p ^^^ -1) = 0
def addM (M : Nat → Bool) (p : Nat) : Nat → Bool := fun q => M q || decide (q = p)
theorem addM_comm (M : Nat → Bool) (p q : Nat) : addM (addM M p) q = addM (addM M q) p := by
  funext a
  unfold addM
  rw [Bool.or_assoc, Bool.or_assoc, Bool.or_comm (decide (a = p))]
theorem addM_bt {u : Int32} {p : Nat} (hp : p < 32) : addM (bt u) p = bt (u ||| ((1 : Int32) <<< (nI p &&& 31))) := by
  funext q
  unfold addM
  rcases Nat.lt_or_ge q 32 with h | h
  · rw [b_or, b_one hp h]
  · rw [b_big h, b_big h, decide_eq_false (by omega)]
    rfl
def okp (M : Nat → Bool) (k p : Nat) : Prop := p < tN T ∧ M p = false ∧ okw T ws k p
def fwL : (Nat → Bool) → Nat → List Nat → Option Nat
  | _, _, [] => some 0
  | M, k, p :: r => if p = 6 then fwL M (k + 1) r else if (p < tN T ∧ M p = false ∧ ws.getD k 0 &&& (tH T p ^^^ -1) = 0) then (fwL (addM M p) (k + 1) r).map (· + 1) else none
theorem fwL_6 (M : Nat → Bool) (k : Nat) (r : List Nat) : fwL T ws M k (6 :: r) = fwL T ws M (k + 1) r := by
  show (if (6 : Nat) = 6 then _ else _) = _
  rw [if_pos rfl]
theorem fwL_ok {M : Nat → Bool} {k p : Nat} {r : List Nat} (h6 : p ≠ 6) (h : okp T ws M k p) : fwL T ws M k (p :: r) = (fwL T ws (addM M p) (k + 1) r).map (· + 1) := by
  have h' : p < tN T ∧ M p = false ∧ ws.getD k 0 &&& (tH T p ^^^ -1) = 0 := h
  show (if p = 6 then _ else if (p < tN T ∧ M p = false ∧ ws.getD k 0 &&& (tH T p ^^^ -1) = 0) then _ else _) = _
  rw [if_neg h6, if_pos h']
theorem fwL_no {M : Nat → Bool} {k p : Nat} {r : List Nat} (h6 : p ≠ 6) (h : ¬ okp T ws M k p) : fwL T ws M k (p :: r) = none := by
  have h' : ¬ (p < tN T ∧ M p = false ∧ ws.getD k 0 &&& (tH T p ^^^ -1) = 0) := h
  show (if p = 6 then _ else if (p < tN T ∧ M p = false ∧ ws.getD k 0 &&& (tH T p ^^^ -1) = 0) then _ else _) = _
  rw [if_neg h6, if_neg h']
theorem okp_add {M : Nat → Bool} {k p q : Nat} : okp T ws (addM M q) k p ↔ okp T ws M k p ∧ p ≠ q := by
  unfold okp addM
  constructor
  · rintro ⟨a, b, c⟩
    rw [Bool.or_eq_false_iff] at b
    exact ⟨⟨a, b.1, c⟩, of_decide_eq_false b.2⟩
  · rintro ⟨⟨a, b, c⟩, d⟩
    exact ⟨a, by rw [b, decide_eq_false d]; rfl, c⟩
theorem fwL_snoc6 : ∀ (r : List Nat) (M : Nat → Bool) (k : Nat), fwL T ws M k (r ++ [6]) = fwL T ws M k r := by
  intro r
  induction r with
  | nil => intro M k; exact fwL_6 T ws M k []
  | cons q r ih =>
    intro M k
    rw [List.cons_append]
    by_cases h6 : q = 6
    · subst h6
      rw [fwL_6, fwL_6, ih]
    · by_cases h : okp T ws M k q
      · rw [fwL_ok T ws h6 h, fwL_ok T ws h6 h, ih]
      · rw [fwL_no T ws h6 h, fwL_no T ws h6 h]
theorem fwL_snoc : ∀ (r : List Nat) (M : Nat → Bool) (k p : Nat), p ≠ 6 → (okp T ws M (k + r.length) p → fwL T ws M k (r ++ [p]) = (fwL T ws (addM M p) k r).map (· + 1)) ∧ (¬ okp T ws M (k + r.length) p → fwL T ws M k (r ++ [p]) = none) := by
  intro r
  induction r with
  | nil =>
    intro M k p h6
    constructor
    · intro h
      rw [List.length_nil, Nat.add_zero] at h
      rw [List.nil_append, fwL_ok T ws h6 h]
      rfl
    · intro h
      rw [List.length_nil, Nat.add_zero] at h
      rw [List.nil_append, fwL_no T ws h6 h]
  | cons q r ih =>
    intro M k p h6
    rw [List.cons_append, List.length_cons, show k + (r.length + 1) = k + 1 + r.length by omega]
    by_cases hq : q = 6
    · subst hq
      rw [fwL_6, fwL_6]
      exact ih M (k + 1) p h6
    · obtain ⟨i1, i2⟩ := ih (addM M q) (k + 1) p h6
      by_cases h : okp T ws M k q
      · rw [fwL_ok T ws hq h]
        constructor
        · intro hp
          by_cases e : p = q
          · have : ¬ okp T ws (addM M q) (k + 1 + r.length) p := fun a => ((okp_add T ws).mp a).2 e
            have n2 : ¬ okp T ws (addM M p) k q := fun a => ((okp_add T ws).mp a).2 e.symm
            rw [i2 this, fwL_no T ws hq n2]
            try rfl
          · have y1 : okp T ws (addM M q) (k + 1 + r.length) p := (okp_add T ws).mpr ⟨hp, e⟩
            have y2 : okp T ws (addM M p) k q := (okp_add T ws).mpr ⟨h, fun a => e a.symm⟩
            rw [i1 y1, fwL_ok T ws hq y2, addM_comm]
        · intro hp
          have : ¬ okp T ws (addM M q) (k + 1 + r.length) p := fun a => hp ((okp_add T ws).mp a).1
          rw [i2 this]
          rfl
      · rw [fwL_no T ws hq h]
        constructor
        · intro hp
          have n2 : ¬ okp T ws (addM M p) k q := fun a => h ((okp_add T ws).mp a).1
          rw [fwL_no T ws hq n2]
          rfl
        · intro _; rfl
/-- the digits of a way, the first highest -/
def digs : Nat → Nat → List Nat
  | 0, _ => []
  | m + 1, r => digs m (r / 7) ++ [r % 7]
theorem digs_len : ∀ m r, (digs m r).length = m := by
  intro m
  induction m with
  | zero => intro r; rfl
  | succ m ih =>
    intro r
    show (digs m (r / 7) ++ [r % 7]).length = m + 1
    rw [List.length_append, ih]
    rfl
theorem digs_cons : ∀ m r, digs (m + 1) r = (r / 7 ^ m % 7) :: digs m (r % 7 ^ m) := by
  intro m
  induction m with
  | zero =>
    intro r
    show [] ++ [r % 7] = [r / 7 ^ 0 % 7]
    rw [Nat.pow_zero, Nat.div_one]
    rfl
  | succ m ih =>
    intro r
    show digs (m + 1) (r / 7) ++ [r % 7] = (r / 7 ^ (m + 1) % 7) :: (digs m (r % 7 ^ (m + 1) / 7) ++ [r % 7 ^ (m + 1) % 7])
    rw [ih, List.cons_append, Nat.div_div_eq_div_mul]
    have e1 : 7 * 7 ^ m = 7 ^ (m + 1) := by rw [Nat.pow_succ, Nat.mul_comm]
    have e2 : r % 7 ^ (m + 1) / 7 = r / 7 % 7 ^ m := by rw [← e1, Nat.mod_mul_right_div_self]
    have e3 : r % 7 ^ (m + 1) % 7 = r % 7 := Nat.mod_mod_of_dvd _ (by rw [← e1]; exact Nat.dvd_mul_right 7 (7 ^ m))
    rw [e1, e2, e3]
/-- what the reference counts, by the digits -/
theorem gb_fw : ∀ (m rest : Nat) (used : Int32) (many : Nat) (tr : Nat → Int32), (∀ c, fwL T ws (bt used) 0 (digs m rest) = some c → (gb T ws m rest used many tr).1 = nI (many + c) ∧ ∀ i (h : i < m), (gb T ws m rest used many tr).2 i = nI ((digs m rest).getD i 0)) ∧ (fwL T ws (bt used) 0 (digs m rest) = none → (gb T ws m rest used many tr).1 = -1) ∧ ∀ i, m ≤ i → (gb T ws m rest used many tr).2 i = tr i := by
  intro m
  induction m with
  | zero =>
    intro rest used many tr
    refine ⟨?_, ?_, fun i _ => rfl⟩
    · intro c h
      have : c = 0 := by
        have h' : (some 0 : Option Nat) = some c := h
        injection h' with h'
        exact h'.symm
      subst this
      exact ⟨rfl, fun i hi => absurd hi (by omega)⟩
    · intro h
      cases h
  | succ m ih =>
    intro rest used many tr
    have hlt : rest % 7 < 7 := Nat.mod_lt _ (by decide)
    have ed : digs (m + 1) rest = digs m (rest / 7) ++ [rest % 7] := rfl
    have gd : ∀ i, i < m → (digs m (rest / 7) ++ [rest % 7]).getD i 0 = (digs m (rest / 7)).getD i 0 := fun i hi => by
      simp [List.getD, List.getElem?_append, digs_len, hi]
    have gl : (digs m (rest / 7) ++ [rest % 7]).getD m 0 = rest % 7 := by
      simp [List.getD, List.getElem?_append, digs_len]
    have hi' : ∀ (u : Int32) (mm : Nat), (∀ i (h : i < m), (gb T ws m (rest / 7) u mm (upd tr m (nI (rest % 7)))).2 i = nI ((digs m (rest / 7)).getD i 0)) → ∀ i (h : i < m + 1), (gb T ws m (rest / 7) u mm (upd tr m (nI (rest % 7)))).2 i = nI ((digs m (rest / 7) ++ [rest % 7]).getD i 0) := by
      intro u mm h i hi
      by_cases e : i = m
      · subst e
        rw [gl, (ih (rest / 7) u mm (upd tr i (nI (rest % 7)))).2.2 i (Nat.le_refl i), pk_us]
      · rw [gd i (by omega)]
        exact h i (by omega)
    rw [ed]
    by_cases q6 : rest % 7 = 6
    · have eg : gb T ws (m + 1) rest used many tr = gb T ws m (rest / 7) used many (upd tr m (nI (rest % 7))) := by
        show (if rest % 7 = 6 then _ else _) = _
        rw [if_pos q6]
      obtain ⟨i1, i2, i3⟩ := ih (rest / 7) used many (upd tr m (nI (rest % 7)))
      rw [eg]
      refine ⟨?_, ?_, ?_⟩
      · intro c h
        rw [q6, fwL_snoc6] at h
        obtain ⟨a, b⟩ := i1 c h
        exact ⟨a, hi' used many b⟩
      · intro h
        rw [q6, fwL_snoc6] at h
        exact i2 h
      · intro i hi
        rw [i3 i (by omega), pk_un (by omega)]
    · obtain ⟨s1, s2⟩ := fwL_snoc T ws (digs m (rest / 7)) (bt used) 0 (rest % 7) q6
      rw [digs_len, Nat.zero_add] at s1 s2
      by_cases ho : okp T ws (bt used) m (rest % 7)
      · have eg : gb T ws (m + 1) rest used many tr = gb T ws m (rest / 7) (used ||| ((1 : Int32) <<< (nI (rest % 7) &&& 31))) (many + 1) (upd tr m (nI (rest % 7))) := by
          show (if rest % 7 = 6 then _ else if _ then _ else _) = _
          rw [if_neg q6, if_neg (fun q => q.elim (fun h => h ho.1) (fun q => q.elim (fun h => by rw [hasb_bt _ (by omega), ho.2.1] at h; cases h) (fun h => h ho.2.2)))]
        have eM : addM (bt used) (rest % 7) = bt (used ||| ((1 : Int32) <<< (nI (rest % 7) &&& 31))) := addM_bt (by omega)
        rw [eM] at s1
        obtain ⟨i1, i2, i3⟩ := ih (rest / 7) (used ||| ((1 : Int32) <<< (nI (rest % 7) &&& 31))) (many + 1) (upd tr m (nI (rest % 7)))
        rw [eg]
        refine ⟨?_, ?_, ?_⟩
        · intro c h
          rw [s1 ho, Option.map_eq_some_iff] at h
          obtain ⟨c', h1, h2⟩ := h
          obtain ⟨a, b⟩ := i1 c' h1
          refine ⟨?_, hi' _ _ b⟩
          rw [a, show many + 1 + c' = many + c by omega]
        · intro h
          rw [s1 ho, Option.map_eq_none_iff] at h
          exact i2 h
        · intro i hi
          rw [i3 i (by omega), pk_un (by omega)]
      · have eg : gb T ws (m + 1) rest used many tr = (-1, upd tr m (nI (rest % 7))) := by
          show (if rest % 7 = 6 then _ else if _ then _ else _) = _
          rw [if_neg q6, if_pos]
          apply Classical.byContradiction
          intro h
          simp only [not_or, Classical.not_not] at h
          exact ho ⟨h.1, by rw [← hasb_bt _ (by omega)]; simpa using h.2.1, h.2.2⟩
        rw [eg]
        refine ⟨?_, fun _ => rfl, ?_⟩
        · intro c h
          rw [s2 ho] at h
          cases h
        · intro i hi
          exact pk_un (by omega)
/-- the greatest of b and 1 + f p, p < k with c p -/
def mxF (f : Nat → Nat) (c : Nat → Bool) (b : Nat) : Nat → Nat
  | 0 => b
  | p + 1 => if c p = true then max (mxF f c b p) (1 + f p) else mxF f c b p
theorem mxF_ge {f : Nat → Nat} {c : Nat → Bool} {b : Nat} : ∀ k, b ≤ mxF f c b k ∧ ∀ p, p < k → c p = true → 1 + f p ≤ mxF f c b k := by
  intro k
  induction k with
  | zero => exact ⟨Nat.le_refl _, fun p hp => absurd hp (by omega)⟩
  | succ k ih =>
    show b ≤ (if c k = true then max (mxF f c b k) (1 + f k) else mxF f c b k) ∧ ∀ p, p < k + 1 → c p = true → 1 + f p ≤ (if c k = true then max (mxF f c b k) (1 + f k) else mxF f c b k)
    by_cases q : c k = true
    · rw [if_pos q]
      refine ⟨by omega, fun p hp hc => ?_⟩
      by_cases e : p = k
      · subst e; omega
      · have := ih.2 p (by omega) hc; omega
    · rw [if_neg q]
      refine ⟨ih.1, fun p hp hc => ?_⟩
      by_cases e : p = k
      · subst e; exact absurd hc q
      · exact ih.2 p (by omega) hc
theorem mxF_at {f : Nat → Nat} {c : Nat → Bool} {b : Nat} : ∀ k, mxF f c b k = b ∨ ∃ p, p < k ∧ c p = true ∧ 1 + f p = mxF f c b k := by
  intro k
  induction k with
  | zero => exact Or.inl rfl
  | succ k ih =>
    show (if c k = true then max (mxF f c b k) (1 + f k) else mxF f c b k) = b ∨ ∃ p, p < k + 1 ∧ c p = true ∧ 1 + f p = (if c k = true then max (mxF f c b k) (1 + f k) else mxF f c b k)
    have ih' : mxF f c b k = b ∨ ∃ p, p < k + 1 ∧ c p = true ∧ 1 + f p = mxF f c b k := ih.imp id (fun ⟨p, h1, h2, h3⟩ => ⟨p, by omega, h2, h3⟩)
    by_cases q : c k = true
    · rw [if_pos q]
      by_cases g : mxF f c b k ≤ 1 + f k
      · rw [Nat.max_eq_right g]
        exact Or.inr ⟨k, by omega, q, rfl⟩
      · rw [Nat.max_eq_left (by omega)]
        exact ih'
    · rw [if_neg q]
      exact ih'
theorem mxF_le {f : Nat → Nat} {c : Nat → Bool} {b B : Nat} (hb : b ≤ B) (hf : ∀ p, 1 + f p ≤ B) : ∀ k, mxF f c b k ≤ B := by
  intro k
  rcases mxF_at (f := f) (c := c) (b := b) k with q | ⟨p, _, _, q⟩
  · omega
  · have := hf p; omega
/-- can it be sent for want k, u being given away -/
def cb (k p u : Nat) : Bool := !(bt (nI u ||| tC T) p) && decide (ws.getD k 0 &&& (tH T p ^^^ -1) = 0)
/-- how many more can be given one by the last m wants -/
def Gv : Nat → Nat → Nat
  | 0, _ => 0
  | m + 1, u => mxF (fun p => Gv m (u ||| 2 ^ p)) (fun p => cb T ws (ws.length - (m + 1)) p u) (Gv m u) (tN T)
theorem Gv_le : ∀ m u, Gv T ws m u ≤ m := by
  intro m
  induction m with
  | zero => intro u; exact Nat.le_refl 0
  | succ m ih =>
    intro u
    exact mxF_le (by have := ih u; omega) (fun p => by have := ih (u ||| 2 ^ p); omega) (tN T)
theorem cb_ok {k p u : Nat} (hp : p < tN T) : cb T ws k p u = true ↔ okp T ws (bt (nI u ||| tC T)) k p := by
  unfold cb okp okw
  rw [Bool.and_eq_true, Bool.not_eq_true', decide_eq_true_iff]
  exact ⟨fun h => ⟨hp, h⟩, fun h => h.2⟩
theorem addM_u {u p : Nat} (hp : p < 31) : addM (bt (nI u ||| tC T)) p = bt (nI (u ||| 2 ^ p) ||| tC T) := by
  rw [addM_bt (by omega), one_nI hp, ← nI_or]
  congr 1
  apply b_ext
  intro i _
  rw [b_or, b_or, b_or, b_or, Bool.or_assoc, Bool.or_assoc, Bool.or_comm (bt (tC T) i)]
/-- the first fruit that loses nothing; 6: none -/
def dgF (m u : Nat) : Nat → Nat → Nat
  | 0, _ => 6
  | j + 1, p => if cb T ws (ws.length - (m + 1)) p u = true ∧ 1 + Gv T ws m (u ||| 2 ^ p) = Gv T ws (m + 1) u then p else dgF m u j (p + 1)
def dg (m u : Nat) : Nat := dgF T ws m u (tN T) 0
theorem dgF_spec (m u : Nat) : ∀ j p, j + p = tN T → tN T ≤ 6 → (dgF T ws m u j p = 6 ∧ ∀ q, p ≤ q → q < tN T → ¬ (cb T ws (ws.length - (m + 1)) q u = true ∧ 1 + Gv T ws m (u ||| 2 ^ q) = Gv T ws (m + 1) u)) ∨ (p ≤ dgF T ws m u j p ∧ dgF T ws m u j p < tN T ∧ (cb T ws (ws.length - (m + 1)) (dgF T ws m u j p) u = true ∧ 1 + Gv T ws m (u ||| 2 ^ dgF T ws m u j p) = Gv T ws (m + 1) u) ∧ ∀ q, p ≤ q → q < dgF T ws m u j p → ¬ (cb T ws (ws.length - (m + 1)) q u = true ∧ 1 + Gv T ws m (u ||| 2 ^ q) = Gv T ws (m + 1) u)) := by
  intro j
  induction j with
  | zero => intro p hp _; exact Or.inl ⟨rfl, fun q h1 h2 => absurd h2 (by omega)⟩
  | succ j ih =>
    intro p hp h6
    have ed : dgF T ws m u (j + 1) p = if cb T ws (ws.length - (m + 1)) p u = true ∧ 1 + Gv T ws m (u ||| 2 ^ p) = Gv T ws (m + 1) u then p else dgF T ws m u j (p + 1) := rfl
    by_cases q : cb T ws (ws.length - (m + 1)) p u = true ∧ 1 + Gv T ws m (u ||| 2 ^ p) = Gv T ws (m + 1) u
    · rw [ed, if_pos q]
      exact Or.inr ⟨Nat.le_refl _, by omega, q, fun r h1 h2 => absurd h2 (by omega)⟩
    · rw [ed, if_neg q]
      have n : ∀ (D : Nat → Prop), (∀ r, p + 1 ≤ r → D r → ¬ (cb T ws (ws.length - (m + 1)) r u = true ∧ 1 + Gv T ws m (u ||| 2 ^ r) = Gv T ws (m + 1) u)) → ∀ r, p ≤ r → D r → ¬ (cb T ws (ws.length - (m + 1)) r u = true ∧ 1 + Gv T ws m (u ||| 2 ^ r) = Gv T ws (m + 1) u) := by
        intro D h r h1 h2
        by_cases e : r = p
        · subst e; exact q
        · exact h r (by omega) h2
      rcases ih (p + 1) (by omega) h6 with ⟨a, b⟩ | ⟨a, b, c, d⟩
      · exact Or.inl ⟨a, n (fun r => r < tN T) b⟩
      · exact Or.inr ⟨by omega, b, c, n (fun r => r < dgF T ws m u j (p + 1)) d⟩
def nxu (d u : Nat) : Nat := if d = 6 then u else u ||| 2 ^ d
/-- the best way's digits, its number -/
def gl : Nat → Nat → List Nat
  | 0, _ => []
  | m + 1, u => dg T ws m u :: gl m (nxu (dg T ws m u) u)
def bs : Nat → Nat → Nat
  | 0, _ => 0
  | m + 1, u => dg T ws m u * 7 ^ m + bs m (nxu (dg T ws m u) u)
theorem dg_le (m u : Nat) (h6 : tN T ≤ 6) : dg T ws m u ≤ 6 := by
  rcases dgF_spec T ws m u (tN T) 0 (by omega) h6 with ⟨a, _⟩ | ⟨_, b, _⟩
  · unfold dg; omega
  · unfold dg; omega
theorem bs_lt (h6 : tN T ≤ 6) : ∀ m u, bs T ws m u < 7 ^ m := by
  intro m
  induction m with
  | zero => intro u; exact Nat.one_pos
  | succ m ih =>
    intro u
    show dg T ws m u * 7 ^ m + bs T ws m (nxu (dg T ws m u) u) < 7 ^ (m + 1)
    have h1 := dg_le T ws m u h6
    have h2 := ih (nxu (dg T ws m u) u)
    have h3 : dg T ws m u * 7 ^ m ≤ 6 * 7 ^ m := Nat.mul_le_mul_right _ h1
    rw [Nat.pow_succ]
    omega
theorem digs_bs (h6 : tN T ≤ 6) : ∀ m u, digs m (bs T ws m u) = gl T ws m u := by
  intro m
  induction m with
  | zero => intro u; rfl
  | succ m ih =>
    intro u
    have h1 := dg_le T ws m u h6
    have h2 := bs_lt T ws h6 m (nxu (dg T ws m u) u)
    have hp : 0 < 7 ^ m := Nat.pow_pos (by decide)
    rw [digs_cons]
    show ((dg T ws m u * 7 ^ m + bs T ws m (nxu (dg T ws m u) u)) / 7 ^ m % 7) :: digs m ((dg T ws m u * 7 ^ m + bs T ws m (nxu (dg T ws m u) u)) % 7 ^ m) = dg T ws m u :: gl T ws m (nxu (dg T ws m u) u)
    have e1 : (dg T ws m u * 7 ^ m + bs T ws m (nxu (dg T ws m u) u)) / 7 ^ m = dg T ws m u := by
      rw [Nat.mul_comm, Nat.mul_add_div hp, Nat.div_eq_of_lt h2, Nat.add_zero]
    have e2 : (dg T ws m u * 7 ^ m + bs T ws m (nxu (dg T ws m u) u)) % 7 ^ m = bs T ws m (nxu (dg T ws m u) u) := by
      rw [Nat.mul_comm, Nat.mul_add_mod, Nat.mod_eq_of_lt h2]
    rw [e1, e2, ih, Nat.mod_eq_of_lt (by omega)]
/-- no way gives more; the best gives as many; one ahead of it gives fewer -/
theorem fw_best (h6 : tN T ≤ 6) : ∀ m u, m ≤ ws.length → (∀ r c, fwL T ws (bt (nI u ||| tC T)) (ws.length - m) (digs m r) = some c → c ≤ Gv T ws m u) ∧ fwL T ws (bt (nI u ||| tC T)) (ws.length - m) (gl T ws m u) = some (Gv T ws m u) ∧ ∀ r c, r < bs T ws m u → fwL T ws (bt (nI u ||| tC T)) (ws.length - m) (digs m r) = some c → c < Gv T ws m u := by
  intro m
  induction m with
  | zero =>
    intro u _
    refine ⟨?_, rfl, fun r c h => absurd h (by simp [bs])⟩
    intro r c h
    have h' : (some 0 : Option Nat) = some c := h
    injection h' with h'
    omega
  | succ m ih =>
    intro u hm
    have ek : ws.length - (m + 1) + 1 = ws.length - m := by omega
    have gge := mxF_ge (f := fun p => Gv T ws m (u ||| 2 ^ p)) (c := fun p => cb T ws (ws.length - (m + 1)) p u) (b := Gv T ws m u) (tN T)
    have hG : Gv T ws (m + 1) u = mxF (fun p => Gv T ws m (u ||| 2 ^ p)) (fun p => cb T ws (ws.length - (m + 1)) p u) (Gv T ws m u) (tN T) := rfl
    have hpw : 0 < 7 ^ m := Nat.pow_pos (by decide)
    -- a way by its first digit
    have one : ∀ d r c, d < 7 → fwL T ws (bt (nI u ||| tC T)) (ws.length - (m + 1)) (d :: digs m r) = some c → (d = 6 ∧ fwL T ws (bt (nI u ||| tC T)) (ws.length - m) (digs m r) = some c) ∨ (d < tN T ∧ cb T ws (ws.length - (m + 1)) d u = true ∧ ∃ c', c = c' + 1 ∧ fwL T ws (bt (nI (u ||| 2 ^ d) ||| tC T)) (ws.length - m) (digs m r) = some c') := by
      intro d r c hd h
      by_cases d6 : d = 6
      · subst d6
        rw [fwL_6, ek] at h
        exact Or.inl ⟨rfl, h⟩
      · by_cases ho : okp T ws (bt (nI u ||| tC T)) (ws.length - (m + 1)) d
        · rw [fwL_ok T ws d6 ho, ek, addM_u T (by omega), Option.map_eq_some_iff] at h
          obtain ⟨c', h1, h2⟩ := h
          exact Or.inr ⟨ho.1, (cb_ok T ws ho.1).mpr ho, c', h2.symm, h1⟩
        · rw [fwL_no T ws d6 ho] at h
          cases h
    have le1 : ∀ d r c, d < 7 → fwL T ws (bt (nI u ||| tC T)) (ws.length - (m + 1)) (d :: digs m r) = some c → c ≤ Gv T ws (m + 1) u := by
      intro d r c hd h
      rcases one d r c hd h with ⟨_, h1⟩ | ⟨h1, h2, c', rfl, h3⟩
      · have := (ih u (by omega)).1 r c h1
        rw [hG]; have := gge.1; omega
      · have := (ih (u ||| 2 ^ d) (by omega)).1 r c' h3
        have := gge.2 d h1 h2
        rw [hG]
        show c' + 1 ≤ mxF (fun p => Gv T ws m (u ||| 2 ^ p)) (fun p => cb T ws (ws.length - (m + 1)) p u) (Gv T ws m u) (tN T)
        have e : (1 + (fun p => Gv T ws m (u ||| 2 ^ p)) d) = 1 + Gv T ws m (u ||| 2 ^ d) := rfl
        rw [e] at this
        omega
    have spec := dgF_spec T ws m u (tN T) 0 (by omega) h6
    refine ⟨?_, ?_, ?_⟩
    · intro r c h
      rw [digs_cons] at h
      exact le1 _ _ c (Nat.mod_lt _ (by decide)) h
    · show fwL T ws (bt (nI u ||| tC T)) (ws.length - (m + 1)) (dg T ws m u :: gl T ws m (nxu (dg T ws m u) u)) = some (Gv T ws (m + 1) u)
      rcases spec with ⟨a, b⟩ | ⟨a, b, c, d⟩
      · have e6 : dg T ws m u = 6 := a
        rw [e6, fwL_6, ek]
        show fwL T ws (bt (nI u ||| tC T)) (ws.length - m) (gl T ws m (if (6 : Nat) = 6 then u else u ||| 2 ^ 6)) = _
        rw [if_pos rfl, (ih u (by omega)).2.1]
        congr 1
        rcases mxF_at (f := fun p => Gv T ws m (u ||| 2 ^ p)) (c := fun p => cb T ws (ws.length - (m + 1)) p u) (b := Gv T ws m u) (tN T) with q | ⟨p, hp, hc, q⟩
        · exact q.symm
        · exact absurd ⟨hc, q⟩ (b p (by omega) hp)
      · have e1 : dg T ws m u = dgF T ws m u (tN T) 0 := rfl
        rw [← e1] at a b c d
        have d6 : dg T ws m u ≠ 6 := by omega
        have ho := (cb_ok T ws b).mp c.1
        rw [fwL_ok T ws d6 ho, ek, addM_u T (by omega)]
        show Option.map _ (fwL T ws (bt (nI (u ||| 2 ^ dg T ws m u) ||| tC T)) (ws.length - m) (gl T ws m (if dg T ws m u = 6 then u else u ||| 2 ^ dg T ws m u))) = _
        rw [if_neg d6, (ih (u ||| 2 ^ dg T ws m u) (by omega)).2.1]
        show some (Gv T ws m (u ||| 2 ^ dg T ws m u) + 1) = _
        rw [← c.2, Nat.add_comm]
    · intro r c hr h
      have hr' : r < dg T ws m u * 7 ^ m + bs T ws m (nxu (dg T ws m u) u) := hr
      have hle := dg_le T ws m u h6
      have hb := bs_lt T ws h6 m (nxu (dg T ws m u) u)
      have hdiv : r / 7 ^ m ≤ dg T ws m u := by
        apply Nat.le_of_lt_succ
        rw [Nat.div_lt_iff_lt_mul hpw]
        have : (dg T ws m u + 1) * 7 ^ m = dg T ws m u * 7 ^ m + 7 ^ m := by rw [Nat.add_mul, Nat.one_mul]
        rw [this]
        omega
      rw [digs_cons, Nat.mod_eq_of_lt (show r / 7 ^ m < 7 by omega)] at h
      have hdm := Nat.div_add_mod r (7 ^ m)
      by_cases e : r / 7 ^ m = dg T ws m u
      · have hmod : r % 7 ^ m < bs T ws m (nxu (dg T ws m u) u) := by
          rw [e, Nat.mul_comm] at hdm
          omega
        rcases one _ _ c (by omega) h with ⟨h1, h2⟩ | ⟨h1, h2, c', rfl, h3⟩
        · rw [e] at h1
          rw [h1] at hmod
          have : nxu 6 u = u := if_pos rfl
          rw [this] at hmod
          have := (ih u (by omega)).2.2 _ c hmod h2
          have := gge.1
          rw [hG]
          omega
        · rw [e] at h1 h2 h3
          have d6 : dg T ws m u ≠ 6 := by omega
          have : nxu (dg T ws m u) u = u ||| 2 ^ dg T ws m u := if_neg d6
          rw [this] at hmod
          have h4 := (ih (u ||| 2 ^ dg T ws m u) (by omega)).2.2 _ c' hmod h3
          have h5 : 1 + Gv T ws m (u ||| 2 ^ dg T ws m u) ≤ Gv T ws (m + 1) u := gge.2 (dg T ws m u) h1 h2
          omega
      · have hlt : r / 7 ^ m < dg T ws m u := by omega
        rcases one _ _ c (by omega) h with ⟨h1, h2⟩ | ⟨h1, h2, c', rfl, h3⟩
        · omega
        · have h4 := (ih (u ||| 2 ^ (r / 7 ^ m)) (by omega)).1 _ c' h3
          have h5 : 1 + Gv T ws m (u ||| 2 ^ (r / 7 ^ m)) ≤ Gv T ws (m + 1) u := gge.2 (r / 7 ^ m) h1 h2
          have h6' : ¬ 1 + Gv T ws m (u ||| 2 ^ (r / 7 ^ m)) = Gv T ws (m + 1) u := by
            intro q
            rcases spec with ⟨a, b⟩ | ⟨a, b, c, d⟩
            · exact b (r / 7 ^ m) (Nat.zero_le _) h1 ⟨h2, q⟩
            · exact d (r / 7 ^ m) (Nat.zero_le _) hlt ⟨h2, q⟩
          omega
theorem nI_zor (c : Int32) : nI 0 ||| c = c := by
  apply b_ext
  intro i hi
  rw [b_or, b_nI hi, Nat.zero_testBit, Bool.false_or]
/-- the reference's best -/
theorem sn_best (h6 : tN T ≤ 6) (hw : ws.length ≤ 6) (tr : Nat → Int32) : ∀ k, k ≤ 7 ^ ws.length → (k ≤ bs T ws ws.length 0 → ((sn T ws tr k).1 = -1 ∨ ∃ c, c < Gv T ws ws.length 0 ∧ (sn T ws tr k).1 = nI c)) ∧ (bs T ws ws.length 0 < k → (sn T ws tr k).1 = nI (Gv T ws ws.length 0) ∧ ∀ i, i < ws.length → (sn T ws tr k).2.1 i = nI ((gl T ws ws.length 0).getD i 0)) := by
  obtain ⟨f1, f2, f3⟩ := fw_best T ws h6 ws.length 0 (Nat.le_refl _)
  rw [nI_zor, Nat.sub_self] at f1 f2 f3
  have hgl := Gv_le T ws ws.length 0
  intro k
  induction k with
  | zero => intro _; exact ⟨fun _ => Or.inl rfl, fun h => absurd h (by omega)⟩
  | succ k ih =>
    intro hk
    obtain ⟨i1, i2⟩ := ih (by omega)
    obtain ⟨g1, g2, _⟩ := gb_fw T ws ws.length k (tC T) 0 (sn T ws tr k).2.2
    have ed : sn T ws tr (k + 1) = if (gb T ws ws.length k (tC T) 0 (sn T ws tr k).2.2).1 ≤ (sn T ws tr k).1 then ((sn T ws tr k).1, (sn T ws tr k).2.1, (gb T ws ws.length k (tC T) 0 (sn T ws tr k).2.2).2) else ((gb T ws ws.length k (tC T) 0 (sn T ws tr k).2.2).1, (gb T ws ws.length k (tC T) 0 (sn T ws tr k).2.2).2, (gb T ws ws.length k (tC T) 0 (sn T ws tr k).2.2).2) := rfl
    have sm : ∀ a : Nat, a ≤ 6 → ¬ nI a ≤ -1 := fun a ha q => by
      have h0 : ¬ nI a < 0 := nI_pos (by omega)
      exact h0 (Int32.lt_of_le_of_lt q (by decide))
    have sm2 : ∀ a : Nat, a ≤ 6 → (-1 : Int32) ≤ nI a := fun a ha => Int32.le_trans (by decide) (nI_pos' (n := a) (by omega))
    constructor
    · intro hb
      have i1' := i1 (by omega)
      cases hf : fwL T ws (bt (tC T)) 0 (digs ws.length k) with
      | none =>
        have hg := g2 hf
        rw [ed, if_pos (by
          rw [hg]
          rcases i1' with q | ⟨c, hc, q⟩
          · rw [q]; exact Int32.le_refl _
          · rw [q]; exact sm2 c (by omega))]
        exact i1'
      | some c =>
        have hg := (g1 c hf).1
        rw [Nat.zero_add] at hg
        have hc := f3 k c (by omega) hf
        rw [ed]
        by_cases q : (gb T ws ws.length k (tC T) 0 (sn T ws tr k).2.2).1 ≤ (sn T ws tr k).1
        · rw [if_pos q]
          exact i1'
        · rw [if_neg q]
          exact Or.inr ⟨c, hc, hg⟩
    · intro hb
      by_cases e : k = bs T ws ws.length 0
      · have i1' := i1 (by omega)
        have hf : fwL T ws (bt (tC T)) 0 (digs ws.length k) = some (Gv T ws ws.length 0) := by rw [e, digs_bs T ws h6]; exact f2
        obtain ⟨hg, hd⟩ := g1 _ hf
        rw [Nat.zero_add] at hg
        rw [ed, if_neg (by
          rw [hg]
          rcases i1' with q | ⟨c, hc, q⟩
          · rw [q]; exact sm _ (by omega)
          · rw [q]; exact nI_ge hc (by omega))]
        refine ⟨hg, fun i hi => ?_⟩
        show (gb T ws ws.length k (tC T) 0 (sn T ws tr k).2.2).2 i = _
        rw [hd i hi, e, digs_bs T ws h6]
      · obtain ⟨i2a, i2b⟩ := i2 (by omega)
        rw [ed, if_pos (by
          rw [i2a]
          cases hf : fwL T ws (bt (tC T)) 0 (digs ws.length k) with
          | none => rw [g2 hf]; exact sm2 _ (by omega)
          | some c =>
            have hc := f1 k c hf
            have hg := (g1 c hf).1
            rw [Nat.zero_add] at hg
            rw [hg]
            exact nI_le hc (by omega))]
        exact ⟨i2a, i2b⟩
end SENT
