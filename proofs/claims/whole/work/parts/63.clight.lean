/-! The class: what a wall's steps give: masks of hours. -/
/-- the hours at which a test holds -/
def mskT (T : TR) (p : Nat) (t : Int32) : Int32 :=
  if t / 1000 = 3 then hth (t / 100 - t / 100 / 10 * 10) (t - t / 100 * 100) else if tst T p 0 t = true then 4095 else 0
/-- a sign, on a pile of masks -/
def tkm (T : TR) (p : Nat) (t : Int32) (s : List Int32) : List Int32 :=
  if t = -33 then (match s with
    | b :: r => (b ^^^ 4095) :: r
    | [] => [])
  else if t < 0 then (match s with
    | b :: a :: r => (if t = -38 then a &&& b else a ||| b) :: r
    | r => r)
  else mskT T p t :: s
def hb12 (h : Nat) (m : Int32) : Bool := hasb m (nI h)
theorem hasb_all : ∀ h : Fin 12, hasb 4095 (nI h.1) = true := by decide
theorem hasb_0 : ∀ h : Fin 12, hasb 0 (nI h.1) = false := by decide
theorem hasb_not {a : Int32} {h : Nat} (hh : h < 12) : hasb (a ^^^ 4095) (nI h) = !(hasb a (nI h)) := by
  rw [hasb_xor (by omega), hasb_all ⟨h, hh⟩]
  simp
theorem hth_lo : ∀ (r : Fin 3) (m : Fin 13) (h : Fin 12), hasb (hth (nI r.1) (nI m.1)) (nI h.1) = (if r.1 = 0 then decide (h.1 < m.1) else if r.1 = 1 then decide (h.1 = m.1) else decide (m.1 < h.1)) := by decide +kernel
theorem hth_hi {r m : Nat} (hm : 12 ≤ m) (h2 : m < 100) : hth (nI r) (nI m) = hth (nI r) (nI 12) := by
  have e1 : (12 : Int32) ≤ nI m := nI_le (a := 12) (b := m) hm (by omega)
  unfold hth
  rw [if_pos e1, if_pos (show (12 : Int32) ≤ nI 12 by decide)]
theorem hth_bit {r m h : Nat} (hr : r < 3) (hm : m < 100) (hh : h < 12) : hasb (hth (nI r) (nI m)) (nI h) = (if r = 0 then decide (h < m) else if r = 1 then decide (h = m) else decide (m < h)) := by
  by_cases q : m < 13
  · exact hth_lo ⟨r, hr⟩ ⟨m, q⟩ ⟨h, hh⟩
  · rw [hth_hi (by omega) hm]
    rw [hth_lo ⟨r, hr⟩ ⟨12, by decide⟩ ⟨h, hh⟩]
    have e1 : (h < 12) = (h < m) := by simp; omega
    have e2 : (h = 12) = (h = m) := by simp; omega
    have e3 : (12 < h) = (m < h) := by simp; omega
    simp only [e1, e2, e3]
/-- the parts of a test's number -/
theorem sg_parts {f r m : Nat} (hf : f < 6) (hr : r < 3) (hm : m < 100) : ¬ nI (1000 * f + 100 * r + m) < 0 ∧ nI (1000 * f + 100 * r + m) / 1000 = nI f ∧ nI (1000 * f + 100 * r + m) / 100 - nI (1000 * f + 100 * r + m) / 100 / 10 * 10 = nI r ∧ nI (1000 * f + 100 * r + m) - nI (1000 * f + 100 * r + m) / 100 * 100 = nI m := by
  have e1 : nI (1000 * f + 100 * r + m) / 1000 = nI f := by
    have := pk_div (a := 1000 * f + 100 * r + m) (d := 1000) (by omega) (by decide) (by decide)
    rw [show (1000 : Int32) = nI 1000 from rfl, this, show (1000 * f + 100 * r + m) / 1000 = f by omega]
  have e2 : nI (1000 * f + 100 * r + m) / 100 = nI (10 * f + r) := by
    have := pk_div (a := 1000 * f + 100 * r + m) (d := 100) (by omega) (by decide) (by decide)
    rw [show (100 : Int32) = nI 100 from rfl, this, show (1000 * f + 100 * r + m) / 100 = 10 * f + r by omega]
  refine ⟨nI_pos (by omega), e1, ?_, ?_⟩
  · rw [e2]
    have := pk_rem (a := 10 * f + r) (d := 10) (by omega) (by decide) (by decide)
    rw [show (10 : Int32) = nI 10 from rfl, this, show (10 * f + r) % 10 = r by omega]
  · have := pk_rem (a := 1000 * f + 100 * r + m) (d := 100) (by omega) (by decide) (by decide)
    rw [show (100 : Int32) = nI 100 from rfl, this, show (1000 * f + 100 * r + m) % 100 = m by omega]
theorem msk_bit {T : TR} {p h : Nat} {t : Int32} (hh : h < 12) (ht : ∃ f r m, f < 6 ∧ r < 3 ∧ m < 100 ∧ t = nI (1000 * f + 100 * r + m)) : hasb (mskT T p t) (nI h) = tst T p h t := by
  obtain ⟨f, r, m, hf, hr, hm, rfl⟩ := ht
  obtain ⟨_, e1, e2, e3⟩ := sg_parts hf hr hm
  unfold mskT
  rw [e1, e2, e3]
  by_cases f3 : f = 3
  · subst f3
    rw [if_pos (show nI 3 = 3 from rfl), hth_bit hr hm hh]
    unfold tst
    rw [e1, e2, e3]
    have ef : fact T p h (nI 3) = nI h := by
      unfold fact
      rw [if_neg (by decide), if_neg (by decide), if_neg (by decide), if_pos (by decide)]
    rw [ef]
    have : r = 0 ∨ r = 1 ∨ r = 2 := by omega
    rcases this with rfl | rfl | rfl
    · rw [if_pos rfl, if_pos (by decide)]
      simp only [nI_ltI (show h < 2 ^ 31 by omega) (show m < 2 ^ 31 by omega)]
    · rw [if_neg (by decide), if_pos rfl, if_neg (by decide), if_pos (by decide)]
      simp only [nI_eq (show h < 2 ^ 31 by omega) (show m < 2 ^ 31 by omega)]
    · rw [if_neg (by decide), if_neg (by decide), if_neg (by decide), if_neg (by decide)]
      simp only [nI_ltI (show m < 2 ^ 31 by omega) (show h < 2 ^ 31 by omega)]
  · have n3 : ¬ nI f = 3 := fun q => f3 ((nI_eq (b := 3) (by omega) (by decide)).mp q)
    rw [if_neg n3]
    have ef : fact T p h (nI f) = fact T p 0 (nI f) := by
      unfold fact
      rw [if_neg n3, if_neg n3]
    have et : tst T p h (nI (1000 * f + 100 * r + m)) = tst T p 0 (nI (1000 * f + 100 * r + m)) := by
      unfold tst
      rw [e1, ef]
    rw [et]
    cases tst T p 0 (nI (1000 * f + 100 * r + m)) with
    | true => rw [if_pos rfl]; exact hasb_all ⟨h, hh⟩
    | false => rw [if_neg (by decide)]; exact hasb_0 ⟨h, hh⟩
theorem tkm_bit {T : TR} {p h : Nat} {t : Int32} (hh : h < 12) (ht : sgnOk t) (s : List Int32) : (tkm T p t s).map (hb12 h) = tk T p h t (s.map (hb12 h)) := by
  unfold tkm tk
  by_cases q : t = -33
  · rw [if_pos q, if_pos q]
    match s with
    | [] => rfl
    | b :: r =>
      show hb12 h (b ^^^ 4095) :: r.map (hb12 h) = (!(hb12 h b)) :: r.map (hb12 h)
      unfold hb12
      rw [hasb_not hh]
  · rw [if_neg q, if_neg q]
    by_cases q2 : t < 0
    · rw [if_pos q2, if_pos q2]
      match s with
      | [] => rfl
      | [b] => rfl
      | b :: a :: r =>
        show hb12 h (if t = -38 then a &&& b else a ||| b) :: r.map (hb12 h) = (if t = -38 then hb12 h a && hb12 h b else hb12 h a || hb12 h b) :: r.map (hb12 h)
        by_cases q3 : t = -38
        · rw [if_pos q3, if_pos q3]
          unfold hb12
          rw [hasb_and (by omega)]
        · rw [if_neg q3, if_neg q3]
          unfold hb12
          rw [hasb_or (by omega)]
    · rw [if_neg q2, if_neg q2]
      show hb12 h (mskT T p t) :: s.map (hb12 h) = _
      have : ∃ f r m, f < 6 ∧ r < 3 ∧ m < 100 ∧ t = nI (1000 * f + 100 * r + m) := by
        rcases ht with e | e | e | e
        · exact absurd e q
        · exact absurd (by rw [e]; decide) q2
        · exact absurd (by rw [e]; decide) q2
        · exact e
      unfold hb12
      rw [msk_bit hh this]
def evm (T : TR) (p : Nat) : List Int32 → List Int32 → List Int32
  | [], s => s
  | t :: r, s => evm T p r (tkm T p t s)
theorem evm_bit {T : TR} {p h : Nat} (hh : h < 12) : ∀ (l s : List Int32), (∀ t, t ∈ l → sgnOk t) → (evm T p l s).map (hb12 h) = ev T p h l (s.map (hb12 h)) := by
  intro l
  induction l with
  | nil => intro s _; rfl
  | cons t l ih =>
    intro s ho
    show (evm T p l (tkm T p t s)).map (hb12 h) = ev T p h l (tk T p h t (s.map (hb12 h)))
    rw [ih _ (fun t ht => ho t (List.mem_cons_of_mem _ ht)), tkm_bit hh (ho t List.mem_cons_self)]
theorem tkm_len {T : TR} {p : Nat} {t : Int32} {r s : List Int32} (h : wfl (t :: r) s.length) : wfl r (tkm T p t s).length := by
  unfold tkm
  rcases h with ⟨e, h1, hw⟩ | ⟨hn, n3, h2, hw⟩ | ⟨hn, _, hw⟩
  · rw [if_pos e]
    match s, h1 with
    | b :: s, _ => exact hw
  · rw [if_neg n3, if_pos hn]
    match s, h2 with
    | b :: a :: s, _ => exact hw
  · rw [if_neg (fun q => hn (by rw [q]; decide)), if_neg hn]
    exact hw
theorem evm_len {T : TR} {p : Nat} : ∀ (l s : List Int32), wfl l s.length → (evm T p l s).length = 1 := by
  intro l
  induction l with
  | nil => intro s h; exact h
  | cons t l ih => intro s h; exact ih _ (tkm_len h)
/-- a clause's mask: what a fruit's hours it holds at -/
theorem evm_one {T : TR} {p : Nat} {c : Cla} (hw : wfl c.2.2 0) (ho : ∀ t, t ∈ c.2.2 → sgnOk t) : ∃ m, evm T p c.2.2 [] = [m] ∧ ∀ h, h < 12 → hasb m (nI h) = hdv T p h c := by
  have h1 := evm_len (T := T) (p := p) c.2.2 [] hw
  match e : evm T p c.2.2 [], h1 with
  | [m], _ =>
    refine ⟨m, rfl, ?_⟩
    intro h hh
    have := evm_bit (T := T) (p := p) hh c.2.2 [] ho
    rw [e] at this
    unfold hdv
    rw [show ev T p h c.2.2 [] = ev T p h c.2.2 ([].map (hb12 h)) from rfl, ← this]
    rfl
