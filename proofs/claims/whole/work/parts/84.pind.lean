/-! Every E is read alike: what is read, is well formed. -/
def Wf (c : Nat) (R : PR) : Prop := R.1 = true → (∀ t, t ∈ R.2.2 → sgnOk t) ∧ ∀ d rest, d + c ≤ 11 → wfl rest (d + 1) → wfl (R.2.2 ++ rest) d
def WfR (c : Nat) (R : PR) : Prop := R.1 = true → (∀ t, t ∈ R.2.2 → sgnOk t) ∧ ∀ d rest, d + c ≤ 11 → wfl rest (d + 1) → wfl (R.2.2 ++ rest) (d + 1)
def AO (tx : List Int32) (nest p : Nat) (R : PR) : Prop := CO tx nest p R ∧ RO tx nest p R ∧ Wf (2 * (4 - nest) + 1) R ∧ (R.1 = true → p < R.2.1 ∧ R.2.1 ≤ tx.length)
def ABr (tx : List Int32) (nest p : Nat) (R : PR) : Prop := CBr tx nest p R ∧ RBr tx nest p R ∧ WfR (2 * (4 - nest) + 2) R ∧ (R.1 = true → p ≤ R.2.1 ∧ R.2.1 ≤ tx.length ∧ ¬ sg tx R.2.1 = 38)
def AB (tx : List Int32) (nest p : Nat) (R : PR) : Prop := CB tx nest p R ∧ RB tx nest p R ∧ Wf (2 * (4 - nest) + 2) R ∧ (R.1 = true → p < R.2.1 ∧ R.2.1 ≤ tx.length ∧ ¬ sg tx R.2.1 = 38)
def AEr (tx : List Int32) (nest p : Nat) (R : PR) : Prop := CEr tx nest p R ∧ REr tx nest p R ∧ WfR (2 * (4 - nest) + 3) R ∧ (R.1 = true → p ≤ R.2.1 ∧ R.2.1 ≤ tx.length ∧ ¬ sg tx R.2.1 = 38 ∧ ¬ sg tx R.2.1 = 124)
def AE (tx : List Int32) (nest p : Nat) (R : PR) : Prop := CE tx nest p R ∧ REi tx nest p R ∧ Wf (2 * (4 - nest) + 3) R ∧ (R.1 = true → p < R.2.1 ∧ R.2.1 ≤ tx.length ∧ ¬ sg tx R.2.1 = 38 ∧ ¬ sg tx R.2.1 = 124)
theorem Wf_test {g : Nat → Int32} {p c : Nat} (hc : 1 ≤ c) : Wf c (pT g p) := by
  intro h
  unfold pT at h ⊢
  by_cases q6 : plN (g p) = 6
  · rw [if_pos q6] at h; cases h
  rw [if_neg q6] at h ⊢
  by_cases hr : 60 ≤ g (p + 1) ∧ g (p + 1) ≤ 62
  · have hrn : ¬ ¬ (60 ≤ g (p + 1) ∧ g (p + 1) ≤ 62) := fun q => q hr
    rw [if_neg hrn] at h ⊢
    cases hn : (pN g (p + 2)).1 with
    | false => rw [hn, if_pos rfl] at h; cases h
    | true =>
      rw [if_neg (by decide)]
      obtain ⟨r, hr3, er, ec⟩ := rel_ix hr
      have pl5 : plN (g p) < 6 := by rcases pl_cs (g p) with q | ⟨_, q⟩ | ⟨_, q⟩ | ⟨_, q⟩ | ⟨_, q⟩ | ⟨_, q⟩ | ⟨_, q⟩ <;> omega
      have hm := (pN_le (g := g) (p := p + 2)).2.2.1
      rw [ec]
      refine ⟨?_, ?_⟩
      · intro t ht
        have : t = nI (1000 * plN (g p) + 100 * r + (pN g (p + 2)).2.2) := by simpa using ht
        exact Or.inr (Or.inr (Or.inr ⟨_, _, _, pl5, hr3, hm, this⟩))
      · intro d rest hd hw
        exact Or.inr (Or.inr ⟨nI_pos (by omega), by omega, hw⟩)
  · rw [if_pos hr] at h; cases h
theorem pT_len {tx : List Int32} {p : Nat} (hp : p ≤ tx.length) : (pT (sg tx) p).1 = true → p < (pT (sg tx) p).2.1 ∧ (pT (sg tx) p).2.1 ≤ tx.length := by
  intro h
  unfold pT at h ⊢
  by_cases q6 : plN (sg tx p) = 6
  · rw [if_pos q6] at h; cases h
  rw [if_neg q6] at h ⊢
  by_cases hr : 60 ≤ sg tx (p + 1) ∧ sg tx (p + 1) ≤ 62
  · have hrn : ¬ ¬ (60 ≤ sg tx (p + 1) ∧ sg tx (p + 1) ≤ 62) := fun q => q hr
    rw [if_neg hrn] at h ⊢
    cases hn : (pN (sg tx) (p + 2)).1 with
    | false => rw [hn, if_pos rfl] at h; cases h
    | true =>
      rw [if_neg (by decide)]
      obtain ⟨r, hr3, er, ec⟩ := rel_ix hr
      have hp1 : p + 1 < tx.length := sg_len er (fun q => by
        have : ¬ nI (60 + r) < 0 := nI_pos (by omega)
        rw [q] at this
        exact this (by decide))
      have pl := pN_le (g := sg tx) (p := p + 2)
      have plen := pN_len (tx := tx) (p := p + 2) (by omega)
      exact ⟨by show p < (pN (sg tx) (p + 2)).2.1; omega, plen⟩
  · rw [if_pos hr] at h; cases h
theorem Wf_no {c p : Nat} : Wf c (false, p, []) := fun h => by cases h
theorem WfR_no {c p : Nat} : WfR c (false, p, []) := fun h => by cases h
theorem WfR_end {c p : Nat} : WfR c (true, p, []) := fun _ => ⟨fun t h => absurd h (by simp), fun _ _ _ hw => hw⟩
theorem sgn33 : sgnOk (-33) := Or.inl rfl
theorem sgn38 : sgnOk (-38) := Or.inr (Or.inl rfl)
theorem sgn124 : sgnOk (-124) := Or.inr (Or.inr (Or.inl rfl))
theorem WfR_step {cS cR : Nat} {op : Int32} {R R2 : PR} (ho : sgnOk op) (hn : op < 0) (h33 : op ≠ -33) (hc : cS + 1 = cR) (h : Wf cS R) (h2 : R.1 = true → WfR cR R2) : WfR cR (if R.1 = true then (R2.1, R2.2.1, R.2.2 ++ (op :: R2.2.2)) else (false, R.2.1, [])) := by
  cases hb : R.1 with
  | false => rw [if_neg (by decide)]; exact WfR_no
  | true =>
    rw [if_pos rfl]
    intro q
    obtain ⟨a1, a2⟩ := h hb
    obtain ⟨b1, b2⟩ := h2 hb q
    refine ⟨?_, ?_⟩
    · intro t ht
      have : t ∈ R.2.2 ∨ t = op ∨ t ∈ R2.2.2 := by simpa using ht
      rcases this with q | q | q
      · exact a1 t q
      · rw [q]; exact ho
      · exact b1 t q
    · intro d rest hd hw
      show wfl ((R.2.2 ++ (op :: R2.2.2)) ++ rest) (d + 1)
      rw [List.append_assoc, List.cons_append]
      refine a2 (d + 1) _ (by omega) ?_
      exact Or.inr (Or.inl ⟨hn, h33, by omega, b2 d rest hd hw⟩)
theorem Wf_two {cS cR : Nat} {R R2 : PR} (hc : cS + 1 = cR) (h : Wf cS R) (h2 : R.1 = true → WfR cR R2) : Wf cR (if R.1 = true then (R2.1, R2.2.1, R.2.2 ++ R2.2.2) else (false, R.2.1, [])) := by
  cases hb : R.1 with
  | false => rw [if_neg (by decide)]; exact Wf_no
  | true =>
    rw [if_pos rfl]
    intro q
    obtain ⟨a1, a2⟩ := h hb
    obtain ⟨b1, b2⟩ := h2 hb q
    refine ⟨?_, ?_⟩
    · intro t ht
      have : t ∈ R.2.2 ∨ t ∈ R2.2.2 := by simpa using ht
      rcases this with q | q
      · exact a1 t q
      · exact b1 t q
    · intro d rest hd hw
      show wfl ((R.2.2 ++ R2.2.2) ++ rest) d
      rw [List.append_assoc]
      exact a2 d _ (by omega) (b2 d rest hd hw)
theorem pex {tx : List Int32} (ht : tOk tx) : ∀ m p, tx.length - p = m → p ≤ tx.length → ∀ nest, nest ≤ 4 → (∃ R, AO tx nest p R) ∧ (∃ R, ABr tx nest p R) ∧ (∃ R, AB tx nest p R) ∧ (¬ sg tx p = 38 → ∃ R, AEr tx nest p R) ∧ ∃ R, AE tx nest p R := by
  intro m
  induction m using Nat.strongRecOn with
  | ind m ih =>
    intro p hm hp nest hn
    have sub : ∀ p', p < p' → p' ≤ tx.length → ∀ nest, nest ≤ 4 → (∃ R, AO tx nest p' R) ∧ (∃ R, ABr tx nest p' R) ∧ (∃ R, AB tx nest p' R) ∧ (¬ sg tx p' = 38 → ∃ R, AEr tx nest p' R) ∧ ∃ R, AE tx nest p' R := fun p' h1 h2 => ih (tx.length - p') (by omega) p' rfl h2
    have one : ∃ R, AO tx nest p R := by
      by_cases q33 : sg tx p = 33
      · have hlt := sg_len q33 (by decide)
        by_cases n4 : nest = 4
        · subst n4
          exact ⟨_, C_deep (Or.inl q33), R_deep (Or.inl q33), Wf_no, fun q => by cases q⟩
        · obtain ⟨R, c1, c2, c3, c4⟩ := (sub (p + 1) (by omega) (by omega) (nest + 1) (by omega)).1
          refine ⟨_, C_not (by omega) q33 c1, R_not (by omega) q33 c2, ?_, ?_⟩
          · cases hb : R.1 with
            | false => rw [if_neg (by decide)]; exact Wf_no
            | true =>
              rw [if_pos rfl]
              intro _
              obtain ⟨a1, a2⟩ := c3 hb
              refine ⟨?_, ?_⟩
              · intro t h
                have : t ∈ R.2.2 ∨ t = -33 := by simpa using h
                rcases this with q | q
                · exact a1 t q
                · rw [q]; exact sgn33
              · intro d rest hd hw
                show wfl ((R.2.2 ++ [-33]) ++ rest) d
                rw [List.append_assoc]
                exact a2 d _ (by omega) (Or.inl ⟨rfl, by omega, hw⟩)
          · cases hb : R.1 with
            | false => rw [if_neg (by decide)]; intro q; cases q
            | true =>
              rw [if_pos rfl]
              intro _
              obtain ⟨d1, d2⟩ := c4 hb
              exact ⟨by show p < R.2.1; omega, d2⟩
      · by_cases q40 : sg tx p = 40
        · have hlt := sg_len q40 (by decide)
          by_cases n4 : nest = 4
          · subst n4
            exact ⟨_, C_deep (Or.inr q40), R_deep (Or.inr q40), Wf_no, fun q => by cases q⟩
          · obtain ⟨R, c1, c2, c3, c4⟩ := (sub (p + 1) (by omega) (by omega) (nest + 1) (by omega)).2.2.2.2
            refine ⟨_, C_par (by omega) q40 c1, R_par (by omega) q40 c2 (fun q => (c4 q).2.2), ?_, ?_⟩
            · by_cases hb : R.1 = true ∧ sg tx R.2.1 = 41
              · rw [if_pos hb]
                intro _
                obtain ⟨a1, a2⟩ := c3 hb.1
                exact ⟨a1, fun d rest hd hw => a2 d rest (by omega) hw⟩
              · rw [if_neg hb]; exact Wf_no
            · by_cases hb : R.1 = true ∧ sg tx R.2.1 = 41
              · rw [if_pos hb]
                intro _
                obtain ⟨d1, d2, _⟩ := c4 hb.1
                have := sg_len hb.2 (by decide)
                exact ⟨by show p < R.2.1 + 1; omega, by show R.2.1 + 1 ≤ _; omega⟩
              · rw [if_neg hb]; intro q; cases q
        · exact ⟨_, C_test ht hn q33 q40, R_test q33 q40, Wf_test (by omega), pT_len hp⟩
    have br : ∃ R, ABr tx nest p R := by
      by_cases q38 : sg tx p = 38
      · have hlt := sg_len q38 (by decide)
        obtain ⟨R, c1, c2, c3, c4⟩ := (sub (p + 1) (by omega) (by omega) nest hn).1
        cases hb : R.1 with
        | false =>
          have k : ∀ R2 : PR, (R.1 = true → CBr tx nest R.2.1 R2) ∧ (R.1 = true → RBr tx nest R.2.1 R2) ∧ (R.1 = true → WfR (2 * (4 - nest) + 2) R2) := fun R2 => ⟨fun q => (by rw [hb] at q; cases q), fun q => (by rw [hb] at q; cases q), fun q => (by rw [hb] at q; cases q)⟩
          obtain ⟨k1, k2, k3⟩ := k (true, 0, [])
          refine ⟨_, C_both_step hn q38 c1 k1, R_both_step q38 c2 k2, WfR_step sgn38 (by decide) (by decide) rfl c3 k3, ?_⟩
          rw [hb, if_neg (by decide)]
          intro q; cases q
        | true =>
          obtain ⟨d1, d2⟩ := c4 hb
          obtain ⟨R2, e1, e2, e3, e4⟩ := (sub R.2.1 (by omega) d2 nest hn).2.1
          refine ⟨_, C_both_step hn q38 c1 (fun _ => e1), R_both_step q38 c2 (fun _ => e2), WfR_step sgn38 (by decide) (by decide) rfl c3 (fun _ => e3), ?_⟩
          rw [hb, if_pos rfl]
          intro q
          obtain ⟨g1, g2, g3⟩ := e4 q
          exact ⟨by show p ≤ R2.2.1; omega, g2, g3⟩
      · exact ⟨_, C_both_end hn q38, R_both_end q38, WfR_end, fun _ => ⟨Nat.le_refl _, hp, q38⟩⟩
    have bo : ∃ R, AB tx nest p R := by
      obtain ⟨R, c1, c2, c3, c4⟩ := one
      cases hb : R.1 with
      | false =>
        have k : ∀ R2 : PR, (R.1 = true → CBr tx nest R.2.1 R2) ∧ (R.1 = true → RBr tx nest R.2.1 R2) ∧ (R.1 = true → WfR (2 * (4 - nest) + 2) R2) := fun R2 => ⟨fun q => (by rw [hb] at q; cases q), fun q => (by rw [hb] at q; cases q), fun q => (by rw [hb] at q; cases q)⟩
        obtain ⟨k1, k2, k3⟩ := k (true, 0, [])
        refine ⟨_, C_both hn c1 k1, R_both c2 k2, Wf_two rfl c3 k3, ?_⟩
        rw [hb, if_neg (by decide)]
        intro q; cases q
      | true =>
        obtain ⟨d1, d2⟩ := c4 hb
        obtain ⟨R2, e1, e2, e3, e4⟩ := (sub R.2.1 d1 d2 nest hn).2.1
        refine ⟨_, C_both hn c1 (fun _ => e1), R_both c2 (fun _ => e2), Wf_two rfl c3 (fun _ => e3), ?_⟩
        rw [hb, if_pos rfl]
        intro q
        obtain ⟨g1, g2, g3⟩ := e4 q
        exact ⟨by show p < R2.2.1; omega, g2, g3⟩
    have er : ¬ sg tx p = 38 → ∃ R, AEr tx nest p R := by
      intro n38
      by_cases q124 : sg tx p = 124
      · have hlt := sg_len q124 (by decide)
        obtain ⟨R, c1, c2, c3, c4⟩ := (sub (p + 1) (by omega) (by omega) nest hn).2.2.1
        cases hb : R.1 with
        | false =>
          have k : ∀ R2 : PR, (R.1 = true → CEr tx nest R.2.1 R2) ∧ (R.1 = true → REr tx nest R.2.1 R2) ∧ (R.1 = true → WfR (2 * (4 - nest) + 3) R2) := fun R2 => ⟨fun q => (by rw [hb] at q; cases q), fun q => (by rw [hb] at q; cases q), fun q => (by rw [hb] at q; cases q)⟩
          obtain ⟨k1, k2, k3⟩ := k (true, 0, [])
          refine ⟨_, C_either_step hn q124 c1 k1, R_either_step q124 c2 k2, WfR_step sgn124 (by decide) (by decide) rfl c3 k3, ?_⟩
          rw [hb, if_neg (by decide)]
          intro q; cases q
        | true =>
          obtain ⟨d1, d2, d3⟩ := c4 hb
          obtain ⟨R2, e1, e2, e3, e4⟩ := (sub R.2.1 (by omega) d2 nest hn).2.2.2.1 d3
          refine ⟨_, C_either_step hn q124 c1 (fun _ => e1), R_either_step q124 c2 (fun _ => e2), WfR_step sgn124 (by decide) (by decide) rfl c3 (fun _ => e3), ?_⟩
          rw [hb, if_pos rfl]
          intro q
          obtain ⟨g1, g2, g3⟩ := e4 q
          exact ⟨by show p ≤ R2.2.1; omega, g2, g3⟩
      · exact ⟨_, C_either_end hn q124, R_either_end q124, WfR_end, fun _ => ⟨Nat.le_refl _, hp, n38, q124⟩⟩
    refine ⟨one, br, bo, er, ?_⟩
    obtain ⟨R, c1, c2, c3, c4⟩ := bo
    cases hb : R.1 with
    | false =>
      have k : ∀ R2 : PR, (R.1 = true → CEr tx nest R.2.1 R2) ∧ (R.1 = true → REr tx nest R.2.1 R2) ∧ (R.1 = true → WfR (2 * (4 - nest) + 3) R2) := fun R2 => ⟨fun q => (by rw [hb] at q; cases q), fun q => (by rw [hb] at q; cases q), fun q => (by rw [hb] at q; cases q)⟩
      obtain ⟨k1, k2, k3⟩ := k (true, 0, [])
      refine ⟨_, C_either hn c1 k1, R_either c2 k2, Wf_two rfl c3 k3, ?_⟩
      rw [hb, if_neg (by decide)]
      intro q; cases q
    | true =>
      obtain ⟨d1, d2, d3⟩ := c4 hb
      obtain ⟨R2, e1, e2, e3, e4⟩ := (sub R.2.1 d1 d2 nest hn).2.2.2.1 d3
      refine ⟨_, C_either hn c1 (fun _ => e1), R_either c2 (fun _ => e2), Wf_two rfl c3 (fun _ => e3), ?_⟩
      rw [hb, if_pos rfl]
      intro q
      obtain ⟨g1, g2, g3⟩ := e4 q
      exact ⟨by show p < R2.2.1; omega, g2, g3⟩
