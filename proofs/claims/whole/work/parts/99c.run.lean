/-! The law from its entry to its end. -/
def h00 (L : Nat) (xs : Nat → Int32) : Nat → Cl := fun q => if q < 10 then pc0 L xs q else em
theorem fin_all {L : Nat} {xs : Nat → Int32} : fin L xs (fin L xs (h00 L xs) 16 141) 141 186 = hp (K0 L xs) X0 := by
  funext q
  unfold fin
  by_cases a : 141 ≤ q ∧ q < 186
  · rw [if_pos a]
  · rw [if_neg a]
    show (if 16 ≤ q ∧ q < 141 then hp (K0 L xs) X0 q else h00 L xs q) = _
    by_cases b : 16 ≤ q ∧ q < 141
    · rw [if_pos b]
    · rw [if_neg b]
      by_cases c : 186 ≤ q
      · rw [hp_em (by show 186 + 6 * 0 ≤ q; omega)]
        unfold h00
        rw [if_neg (by omega)]
      · have hs : shp (K0 L xs) q = (0, 0, 0, 0) := by
          unfold shp
          rw [if_pos (by omega)]
        unfold hp cel
        rw [hs]
        rfl
def T0 : TR := (0, 0, 0, fun _ => 0, fun _ => 0, fun _ => 0, fun _ => 0, fun _ => 0, [])
def P0 : TP := (fun _ => -1, fun _ => 0, fun _ _ => 0)
def S0 : ST := (T0, ([], [], [], []), none, [], 0, [], P0)
theorem lr0 {m : Int32} {f : Nat → Int32} (h : m = 0) : LR m f [] := ⟨h, fun i h => absurd h (Nat.not_lt_zero _)⟩
theorem lr20 {m : Int32} {f g : Nat → Int32} (h : m = 0) : LR2 m f g [] := ⟨h, fun i h => absurd h (Nat.not_lt_zero _)⟩
theorem inv0 {L : Nat} {xs : Nat → Int32} : Inv (K0 L xs) X0 S0 := by
  refine ⟨⟨?_, ?_, rfl, ⟨lr0 rfl, fun j => ⟨0, by decide, rfl⟩⟩, rfl, ?_, ?_⟩, ⟨?_, Or.inl ⟨rfl, rfl⟩, ?_, rfl, lr0 rfl, rfl, ?_, ?_, rfl, ?_⟩, ?_⟩
  · exact ⟨Nat.zero_le _, rfl, rfl, rfl, fun p h => absurd h (Nat.not_lt_zero _), fun p q h => absurd h (Nat.not_lt_zero _), Or.inl ⟨rfl, rfl⟩⟩
  · exact ⟨lr0 rfl, lr20 rfl, lr20 rfl, lr20 rfl⟩
  · exact ⟨rfl, fun i h => absurd h (Nat.not_lt_zero _)⟩
  · intro t ht
    have : t = 0 ∨ t = 1 ∨ t = 2 ∨ t = 3 ∨ t = 4 ∨ t = 5 := by omega
    rcases this with rfl | rfl | rfl | rfl | rfl | rfl <;> exact ⟨rfl, rfl, fun i h => absurd h (Nat.not_lt_zero _)⟩
  · exact ⟨Nat.zero_le _, rfl, rfl, rfl, fun p h => absurd h (Nat.not_lt_zero _), fun p h => absurd h (Nat.not_lt_zero _), Or.inl ⟨rfl, rfl⟩⟩
  · exact ⟨lr0 rfl, lr20 rfl, lr20 rfl, lr20 rfl⟩
  · exact ⟨rfl, fun i h => absurd h (Nat.not_lt_zero _)⟩
  · intro t ht
    have : t = 0 ∨ t = 1 ∨ t = 2 ∨ t = 3 ∨ t = 4 ∨ t = 5 := by omega
    rcases this with rfl | rfl | rfl | rfl | rfl | rfl <;> exact ⟨rfl, rfl, fun i h => absurd h (Nat.not_lt_zero _)⟩
  · intro j hj
    have : j = 0 ∨ j = 1 ∨ j = 2 ∨ j = 3 ∨ j = 4 ∨ j = 5 ∨ j = 6 ∨ j = 7 ∨ j = 8 ∨ j = 9 ∨ j = 10 ∨ j = 11 := by omega
    rcases this with rfl | rfl | rfl | rfl | rfl | rfl | rfl | rfl | rfl | rfl | rfl | rfl <;> rfl
  · refine ⟨⟨⟨0, by decide, rfl⟩, fun p h => absurd h (Nat.not_lt_zero _), fun p h => absurd h (Nat.not_lt_zero _), 0, by decide, rfl⟩, ⟨⟨Nat.zero_le _, Nat.zero_le _, Nat.zero_le _, Nat.zero_le _⟩, (fun x h => (by cases h)), (fun x h => (by cases h)), (fun x h => (by cases h))⟩, (fun T w h => (by cases h)), Nat.zero_le _, Nat.zero_le _, by decide, fun t ht => ⟨Nat.zero_le _, Or.inl ⟨rfl, rfl⟩⟩⟩
theorem law_run {L : Nat} {xs : Nat → Int32} (hL : L ≤ 3072) : ∃ K2 Z n2 z2, E 27 mL_law 0 [.ref 0, .null, .null, .null] [] (h00 L xs, 16, 0) = some (some (.int 1), (hp K2 Z, n2, z2)) ∧ n2 ≤ 186 + 6 * 512 ∧ z2 ≤ 3561 + 420 * 512 := by
  obtain ⟨K2, Z, n2, z2, e, hn, hz⟩ := law_loop 512 (K0 L xs) X0 S0 186 (12 + 1636 + 72 + 1841) 0 rfl inv0 hL (by decide) (by show L < _; omega)
  refine ⟨K2, Z, n2, z2, ?_, hn, hz⟩
  rw [← e]
  have u1 : uph (h00 L xs) 16 (ob 11 (fun k => defaultValue (fty 11 k))) = hq (h00 L xs) 16 (ob 11 (fun k => defaultValue (fty 11 k))) := rfl
  have u2 : uph (fin L xs (h00 L xs) 16 141) 141 (ob 12 (fun k => defaultValue (fty 12 k))) = hq (fin L xs (h00 L xs) 16 141) 141 (ob 12 (fun k => defaultValue (fty 12 k))) := rfl
  have n17 : 16 + 1 = 17 := rfl
  have n142 : 141 + 1 = 142 := rfl
  have z1 : 0 + 12 = 12 := rfl
  rw [pL_law_0, u1, n17, z1, pL_law_3, pL_law_4, x_init (L := L) (xs := xs), bnd_some, st2_n, pL_law_7, pL_law_8, u2, n142, pL_law_11, pL_law_12, r_init (L := L) (xs := xs), bnd_some, st2_n, pL_law_15, pL_law_16, pL_law_17, fin_all]
  rfl
