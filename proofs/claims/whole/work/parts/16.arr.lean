/-! One step of the pure machine is a step of the JVM: arrays. -/
theorem tyl_at (G : Gl) {t : Nat} (h : t < 8) : ∃ ty, (tyl G)[t]? = some (gT G t, ty) := by
  match t, h with
  | 0, _ => exact ⟨_, rfl⟩
  | 1, _ => exact ⟨_, rfl⟩
  | 2, _ => exact ⟨_, rfl⟩
  | 3, _ => exact ⟨_, rfl⟩
  | 4, _ => exact ⟨_, rfl⟩
  | 5, _ => exact ⟨_, rfl⟩
  | 6, _ => exact ⟨_, rfl⟩
  | 7, _ => exact ⟨_, rfl⟩
  | n + 8, h => omega
theorem kd_lt {c : Cl} (h : kd c < 8) : ∃ x, c = .inl (kd c, x) ∧ x.1 = al c := by
  obtain ⟨t', n, f | f | f | f | f⟩ | ⟨ci, f⟩ := c
  · have e : kd (.inl (t', n, .inl f)) = if t' < 4 ∨ t' = 10 ∨ t' = 11 then t' else 98 := rfl
    rw [e] at h ⊢
    split at h
    · rename_i q; rw [if_pos q]; exact ⟨_, rfl, rfl⟩
    · omega
  · have e : kd (.inl (t', n, .inr (.inl f))) = if t' = 4 then 4 else 98 := rfl
    rw [e] at h ⊢
    split at h
    · rename_i q; rw [if_pos q, q]; exact ⟨_, rfl, rfl⟩
    · omega
  · exact absurd h (by simp [kd])
  · exact absurd h (by simp [kd])
  · have e : kd (.inl (t', n, .inr (.inr (.inr (.inr f))))) = if t' = 5 ∨ t' = 6 ∨ t' = 7 then t' else 98 := rfl
    rw [e] at h ⊢
    split at h
    · rename_i q; rw [if_pos q]; exact ⟨_, rfl, rfl⟩
    · omega
  · exact absurd h (by simp [kd])
section ARR
variable {G : Gl} {p : Program} {l : Launch} {e : Env} {R : Room} {s : State} {m : MethodId} {args : Array Value} {below : List Frame} {meth : Method} {c : Code} {md : Md} {r : Nat} {cells slots : Nat} {Q : State → Prop} {pc pc' : Nat} {L L' st st' : List Value} {w w' : Wd}
theorem pcl_int {a : Nat} (ha : a < 10) (hc : kd (pcl G a) = 10) : (a = 0 ∧ pcl G a = iA 10 (gN G) (gX G)) ∨ (a = 1 ∧ pcl G a = iA 10 7 abv) := by
  unfold pcl at hc ⊢
  by_cases h0 : a = 0
  · rw [if_pos h0]; exact Or.inl ⟨h0, rfl⟩
  · rw [if_neg h0] at hc ⊢
    by_cases h1 : a = 1
    · rw [if_pos h1]; exact Or.inr ⟨h1, rfl⟩
    · rw [if_neg h1] at hc
      by_cases h6 : a < 6
      · rw [if_pos h6] at hc; cases hc
      · rw [if_neg h6] at hc; cases hc
theorem pcl_byte {a : Nat} (ha : a < 10) (hc : kd (pcl G a) = 11) : ∃ i, i < 4 ∧ a = 6 + i ∧ pcl G a = iA 11 (txl.getD i 0) (fun j => (txs.getD i []).getD j 0) := by
  unfold pcl at hc ⊢
  by_cases h0 : a = 0
  · rw [if_pos h0] at hc; cases hc
  · rw [if_neg h0] at hc ⊢
    by_cases h1 : a = 1
    · rw [if_pos h1] at hc; cases hc
    · rw [if_neg h1] at hc ⊢
      by_cases h6 : a < 6
      · rw [if_pos h6] at hc; cases hc
      · rw [if_neg h6]
        exact ⟨a - 6, by omega, by omega, rfl⟩
theorem kd_pre {h : Nat → Cl} {n a : Nat} {H : Heap} (hh : HpG G h n H) (hk : kd (h a) = 10 ∨ kd (h a) = 11) : a < 10 ∧ h a = pcl G a := by
  refine hh.pre ?_ ?_
  · rcases hk with hk | hk
    · obtain ⟨n, f, e⟩ := kd_i hk (by omega); rw [e]; rfl
    · obtain ⟨n, f, e⟩ := kd_i hk (by omega); rw [e]; rfl
  · intro e
    rw [e] at hk
    rcases hk with hk | hk <;> cases hk
theorem g_iald (C : Cx G p R s m args meth c md r) (hd : decode md.2.2.1 pc = .ok (.iaload, 1)) (h : s_ald (fun k => k == 0 || k == 10) (fun c j => .int (ai c j)) pc L st w = nx pc' L' st' w') (k : Wg G p l e R s m args below meth c md pc' L' st' w' cells slots Q) : Wg G p l e R s m args below meth c md pc L st w cells slots Q := by
  obtain ⟨hx, hb, hr, hlk, hml, hown, hnm, hts, hS, hfr, hlo⟩ := C
  unfold s_ald at h
  split at h
  · rename_i i a rr
    split at h
    · rename_i hc
      obtain ⟨hc1, hc2⟩ := hc
      simp only [Bool.or_eq_true, beq_iff_eq] at hc1
      obtain ⟨rfl, rfl, rfl, rfl⟩ := nx_inj h
      intro H locs ls a1 b1 d1
      have z := k H locs ls a1 b1 d1
      have hin := ix_in hc2
      show W p l e R s m args below meth c H locs cells slots Q (F0 m pc ls (.int i :: .ref (adr G a) :: rr.map (shv G)))
      rcases hc1 with h0 | h10
      · obtain ⟨n, f, hcf⟩ := kd_i h0 (by omega)
        obtain ⟨g1, g2⟩ := b1.own (by rw [hcf]; exact own_i (by omega))
        have he := wl_at (G := G) (h := w.1) g1 g2
        rw [hcf] at he hin z
        exact va_iald hx hb hS.2.1 b1.2.2.1 (a - 16) 0 he rfl hin hd z
      · obtain ⟨ha, hpc⟩ := kd_pre b1 (Or.inl h10)
        rw [hpc] at h10
        obtain ⟨-, -, -, -, -, -, -, -, -, -, sX, sT, -⟩ := hS
        have had : adr G a = gP G a := by unfold adr; rw [if_pos (by omega)]
        rw [had]
        rcases pcl_int ha h10 with ⟨rfl, e1⟩ | ⟨rfl, e1⟩
        · rw [hpc, e1] at hin z
          exact va_ti hx hb sX d1 hin rfl hd z
        · rw [hpc, e1] at hin z
          exact va_ti hx hb sT d1 hin rfl hd z
    · cases h
  · cases h
theorem g_bald (C : Cx G p R s m args meth c md r) (hd : decode md.2.2.1 pc = .ok (.baload, 1)) (h : s_ald (fun k => k == 1 || k == 3 || k == 11) (fun c j => .int (ai c j)) pc L st w = nx pc' L' st' w') (k : Wg G p l e R s m args below meth c md pc' L' st' w' cells slots Q) : Wg G p l e R s m args below meth c md pc L st w cells slots Q := by
  obtain ⟨hx, hb, hr, hlk, hml, hown, hnm, hts, hS, hfr, hlo⟩ := C
  unfold s_ald at h
  split at h
  · rename_i i a rr
    split at h
    · rename_i hc
      obtain ⟨hc1, hc2⟩ := hc
      simp only [Bool.or_eq_true, beq_iff_eq] at hc1
      obtain ⟨rfl, rfl, rfl, rfl⟩ := nx_inj h
      intro H locs ls a1 b1 d1
      have z := k H locs ls a1 b1 d1
      have hin := ix_in hc2
      show W p l e R s m args below meth c H locs cells slots Q (F0 m pc ls (.int i :: .ref (adr G a) :: rr.map (shv G)))
      rcases hc1 with (h0 | h0) | h11
      · obtain ⟨n, f, hcf⟩ := kd_i h0 (by omega)
        obtain ⟨g1, g2⟩ := b1.own (by rw [hcf]; exact own_i (by omega))
        have he := wl_at (G := G) (h := w.1) g1 g2
        rw [hcf] at he hin z
        exact va_bald hx hb hS.2.1 b1.2.2.1 (a - 16) 1 he rfl hin hd z
      · obtain ⟨n, f, hcf⟩ := kd_i h0 (by omega)
        obtain ⟨g1, g2⟩ := b1.own (by rw [hcf]; exact own_i (by omega))
        have he := wl_at (G := G) (h := w.1) g1 g2
        rw [hcf] at he hin z
        exact va_zald hx hb hS.2.1 b1.2.2.1 (a - 16) 3 he rfl hin hd z
      · obtain ⟨ha, hpc⟩ := kd_pre b1 (Or.inr h11)
        rw [hpc] at h11
        obtain ⟨-, -, -, -, -, -, -, -, -, -, -, -, sV, -⟩ := hS
        have had : adr G a = gP G a := by unfold adr; rw [if_pos (by omega)]
        rw [had]
        obtain ⟨j, hj, haj, e1⟩ := pcl_byte ha h11
        have hv := (sV.1 j hj).2.2.2
        rw [hpc, e1] at hin z
        rw [haj]
        exact va_tb hx hb hv d1 hin rfl hd z
    · cases h
  · cases h
theorem g_cald (C : Cx G p R s m args meth c md r) (hd : decode md.2.2.1 pc = .ok (.caload, 1)) (h : s_ald (fun k => k == 2) (fun c j => .int (ai c j)) pc L st w = nx pc' L' st' w') (k : Wg G p l e R s m args below meth c md pc' L' st' w' cells slots Q) : Wg G p l e R s m args below meth c md pc L st w cells slots Q := by
  obtain ⟨hx, hb, hr, hlk, hml, hown, hnm, hts, hS, hfr, hlo⟩ := C
  unfold s_ald at h
  split at h
  · rename_i i a rr
    split at h
    · rename_i hc
      obtain ⟨hc1, hc2⟩ := hc
      simp only [beq_iff_eq] at hc1
      obtain ⟨rfl, rfl, rfl, rfl⟩ := nx_inj h
      intro H locs ls a1 b1 d1
      have z := k H locs ls a1 b1 d1
      have hin := ix_in hc2
      obtain ⟨n, f, hcf⟩ := kd_i hc1 (by omega)
      obtain ⟨g1, g2⟩ := b1.own (by rw [hcf]; exact own_i (by omega))
      have he := wl_at (G := G) (h := w.1) g1 g2
      rw [hcf] at he hin z
      exact va_cald hx hb hS.2.1 b1.2.2.1 (a - 16) 2 he rfl hin hd z
    · cases h
  · cases h
theorem g_lald (C : Cx G p R s m args meth c md r) (hd : decode md.2.2.1 pc = .ok (.laload, 1)) (h : s_ald (fun k => k == 4) (fun c j => .long (aj c j)) pc L st w = nx pc' L' st' w') (k : Wg G p l e R s m args below meth c md pc' L' st' w' cells slots Q) : Wg G p l e R s m args below meth c md pc L st w cells slots Q := by
  obtain ⟨hx, hb, hr, hlk, hml, hown, hnm, hts, hS, hfr, hlo⟩ := C
  unfold s_ald at h
  split at h
  · rename_i i a rr
    split at h
    · rename_i hc
      obtain ⟨hc1, hc2⟩ := hc
      simp only [beq_iff_eq] at hc1
      obtain ⟨rfl, rfl, rfl, rfl⟩ := nx_inj h
      intro H locs ls a1 b1 d1
      have z := k H locs ls a1 b1 d1
      have hin := ix_in hc2
      obtain ⟨n, f, hcf⟩ := kd_j hc1
      obtain ⟨g1, g2⟩ := b1.own (by rw [hcf]; exact own_j)
      have he := wl_at (G := G) (h := w.1) g1 g2
      rw [hcf] at he hin z
      exact va_lald hx hb hS.2.1 b1.2.2.1 (a - 16) 4 he rfl hin hd z
    · cases h
  · cases h
theorem shv_rf (r : Option Nat) : shv G (va_rf r) = va_rf (r.map (adr G)) := by cases r <;> rfl
theorem g_aald (C : Cx G p R s m args meth c md r) (hd : decode md.2.2.1 pc = .ok (.aaload, 1)) (h : s_ald (fun k => k == 5 || k == 6 || k == 7) aq pc L st w = nx pc' L' st' w') (k : Wg G p l e R s m args below meth c md pc' L' st' w' cells slots Q) : Wg G p l e R s m args below meth c md pc L st w cells slots Q := by
  obtain ⟨hx, hb, hr, hlk, hml, hown, hnm, hts, hS, hfr, hlo⟩ := C
  unfold s_ald at h
  split at h
  · rename_i i a rr
    split at h
    · rename_i hc
      obtain ⟨hc1, hc2⟩ := hc
      simp only [Bool.or_eq_true, beq_iff_eq] at hc1
      obtain ⟨rfl, rfl, rfl, rfl⟩ := nx_inj h
      intro H locs ls a1 b1 d1
      have z := k H locs ls a1 b1 d1
      have hin := ix_in hc2
      show W p l e R s m args below meth c H locs cells slots Q (F0 m pc ls (.int i :: .ref (adr G a) :: rr.map (shv G)))
      have h567 : kd (w.1 a) = 5 ∨ kd (w.1 a) = 6 ∨ kd (w.1 a) = 7 := by omega
      obtain ⟨n, f, hcf⟩ := kd_q rfl h567
      obtain ⟨g1, g2⟩ := b1.own (by rw [hcf]; exact own_q h567)
      have hcell := b1.cell g1 g2
      generalize kd (w.1 a) = t at hcf h567
      rw [hcf] at hcell hin z
      have hlt : i.toNatClampNeg < n := Nat.not_le.mp fun q => hin (Or.inr q)
      have hz : shv G (aq (rA t n f) (cx i)) = va_rf ((f i.toNatClampNeg).map (adr G)) := shv_rf _
      rw [List.map_cons, hz] at z
      have hc0 : H[adr G a]? = some (arrV (gT G t) n (fun j => va_rf ((f j).map (adr G)))) := hcell
      have hgo : ∀ ty : FieldType, ArrOfT s (gT G t) ty → ty.isReference = true → W p l e R s m args below meth c H locs cells slots Q (F0 m pc ls (.int i :: .ref (adr G a) :: rr.map (shv G))) := fun ty hA hR =>
        W.aald (v := va_rf ((f i.toNatClampNeg).map (adr G))) (ty := ty) hx hb hc0 (hA n _) hR (fun q => by cases q) (by rw [arrV_size]; exact hin) (arrV_read _ _ hlt) rfl rfl hd z
      rcases h567 with rfl | rfl | rfl
      · exact hgo _ (hS.2.1.2 5 _ rfl).1 rfl
      · exact hgo _ (hS.2.1.2 6 _ rfl).1 rfl
      · exact hgo _ (hS.2.1.2 7 _ rfl).1 rfl
    · cases h
  · cases h
theorem g_ast {t : Nat} {ty : FieldType} {nar : Int32 → Int32} (ht : t < 4) (hty : (tyl G)[t]? = some (gT G t, ty)) (hS : Sg G s)
    (row : ∀ (H : Heap) (locs : List Loc) (ls : Array Slot) (rest : List Value) (a : Nat) (cell : Cell) (j x : Int32), H[a]? = some cell → s.isArrayOf cell ty → cell.vm ≠ .unknown → ¬ (j < 0 ∨ cell.slots.size ≤ j.toNatClampNeg) → (∀ H' : Heap, H'[a]? = some (cell.setSlot j.toNatClampNeg (.int (nar x))) → H'.size = H.size → (∀ q, q ≠ a → H'[q]? = H[q]?) → W p l e R s m args below meth c H' (locs ++ [⟨a, j.toNatClampNeg⟩]) cells slots Q (F0 m (pc + 1) ls rest)) → W p l e R s m args below meth c H locs cells slots Q (F0 m pc ls (.int x :: .int j :: .ref a :: rest)))
    (h : s_ast t nar pc L st w = nx pc' L' st' w') (k : Wg G p l e R s m args below meth c md pc' L' st' w' cells slots Q) : Wg G p l e R s m args below meth c md pc L st w cells slots Q := by
  unfold s_ast at h
  split at h
  · rename_i x i a rr
    split at h
    · rename_i hc
      obtain ⟨hc1, hc2⟩ := hc
      obtain ⟨rfl, rfl, rfl, rfl⟩ := nx_inj h
      intro H locs ls a1 b1 d1
      have hin := ix_in hc2
      obtain ⟨n, f, hcf⟩ := kd_i hc1 (by omega)
      obtain ⟨g1, g2⟩ := b1.own (by rw [hcf]; exact own_i ht)
      have hcell := b1.cell g1 g2
      rw [hcf] at hcell hin
      have hc0 : H[adr G a]? = some (arrV (gT G t) n (fun j => .int (f j))) := hcell
      refine row H locs ls _ (adr G a) _ i x hc0 ((hS.2.1.2 t _ hty).1 n _) (fun q => by cases q) (by rw [arrV_size]; exact hin) (fun H1 x1 x2 x3 => ?_)
      rw [arrV_store, updV_int] at x1
      refine k H1 _ ls a1 ?_ (d1.put x2 x3 (adr_own g1))
      have hst : sti (w.1 a) (cx i) (nar x) = iA t n (upd f (cx i) (nar x)) := by rw [hcf]; rfl
      rw [hst]
      exact b1.put g1 g2 (own_i ht) x2 x3 x1
    · cases h
  · cases h
theorem g_last (C : Cx G p R s m args meth c md r) (hd : decode md.2.2.1 pc = .ok (.lastore, 1)) (h : s_last pc L st w = nx pc' L' st' w') (k : Wg G p l e R s m args below meth c md pc' L' st' w' cells slots Q) : Wg G p l e R s m args below meth c md pc L st w cells slots Q := by
  obtain ⟨hx, hb, hr, hlk, hml, hown, hnm, hts, hS, hfr, hlo⟩ := C
  unfold s_last at h
  split at h
  · rename_i x i a rr
    split at h
    · rename_i hc
      obtain ⟨hc1, hc2⟩ := hc
      obtain ⟨rfl, rfl, rfl, rfl⟩ := nx_inj h
      intro H locs ls a1 b1 d1
      have hin := ix_in hc2
      obtain ⟨n, f, hcf⟩ := kd_j hc1
      obtain ⟨g1, g2⟩ := b1.own (by rw [hcf]; exact own_j)
      have hcell := b1.cell g1 g2
      rw [hcf] at hcell hin
      have hc0 : H[adr G a]? = some (arrV (gT G 4) n (fun j => .long (f j))) := hcell
      refine W.last hx hb hc0 ((hS.2.1.2 4 _ rfl).1 n _) (fun q => by cases q) (by rw [arrV_size]; exact hin) rfl rfl hd (fun H1 x1 x2 x3 => ?_)
      rw [arrV_store, updV_long] at x1
      refine k H1 _ ls a1 ?_ (d1.put x2 x3 (adr_own g1))
      have hst : stj (w.1 a) (cx i) x = jA n (vp_updL f (cx i) x) := by rw [hcf]; rfl
      rw [hst]
      exact b1.put g1 g2 own_j x2 x3 x1
    · cases h
  · cases h
theorem g_alen (C : Cx G p R s m args meth c md r) (hd : decode md.2.2.1 pc = .ok (.arraylength, 1)) (h : s_alen pc L st w = nx pc' L' st' w') (k : Wg G p l e R s m args below meth c md pc' L' st' w' cells slots Q) : Wg G p l e R s m args below meth c md pc L st w cells slots Q := by
  obtain ⟨hx, hb, hr, hlk, hml, hown, hnm, hts, hS, hfr, hlo⟩ := C
  unfold s_alen at h
  split at h
  · rename_i a rr
    split at h
    · rename_i hc
      obtain ⟨rfl, rfl, rfl, rfl⟩ := nx_inj h
      intro H locs ls a1 b1 d1
      have z := k H locs ls a1 b1 d1
      show W p l e R s m args below meth c H locs cells slots Q (F0 m pc ls (.ref (adr G a) :: rr.map (shv G)))
      rcases Nat.lt_or_ge (kd (w.1 a)) 8 with h8 | h8
      · obtain ⟨x, hcf, hxa⟩ := kd_lt h8
        obtain ⟨g1, g2⟩ := b1.own (by
          have e : ownc (w.1 a) = decide (kd (w.1 a) < 8) := by rw [hcf]; rfl
          rw [e]; exact decide_eq_true h8)
        have he := wl_at (G := G) (h := w.1) g1 g2
        rw [hcf] at he
        obtain ⟨ty, hty⟩ := tyl_at G h8
        refine va_alen hx hb hS.2.1 b1.2.2.1 (a - 16) (kd (w.1 a)) he hty (v := Int32.ofNat (al (w.1 a))) ?_ hd z
        rw [← hxa]
        obtain ⟨n, f | f | f | f | f⟩ := x <;> rfl
      · have h10 : kd (w.1 a) = 10 ∨ kd (w.1 a) = 11 := by
          rcases Nat.lt_or_ge (kd (w.1 a)) 10 with q | q
          · exfalso
            generalize hcc : w.1 a = cc at *
            obtain ⟨t', n, f | f | f | f | f⟩ | ⟨ci, f⟩ := cc
            · simp only [kd] at h8 q; split at h8 <;> split at q <;> omega
            · simp only [kd] at h8 q; split at h8 <;> split at q <;> omega
            · simp only [kd] at q; omega
            · simp only [kd] at q; omega
            · simp only [kd] at h8 q; split at h8 <;> split at q <;> omega
            · simp only [kd] at q; omega
          · omega
        obtain ⟨ha, hpc⟩ := kd_pre b1 h10
        rw [hpc] at h10 z
        obtain ⟨-, -, -, -, -, -, -, -, -, -, sX, sT, sV, -⟩ := hS
        have had : adr G a = gP G a := by unfold adr; rw [if_pos (by omega)]
        rw [had]
        rcases h10 with h10 | h11
        · rcases pcl_int ha h10 with ⟨rfl, e1⟩ | ⟨rfl, e1⟩
          · rw [e1] at z
            exact va_tlen hx hb sX d1 rfl hd z
          · rw [e1] at z
            exact va_tlen hx hb sT d1 rfl hd z
        · obtain ⟨j, hj, haj, e1⟩ := pcl_byte ha h11
          have hv := (sV.1 j hj).2.2.2
          rw [e1] at z
          rw [haj]
          exact va_tlen hx hb hv d1 rfl hd z
    · cases h
  · cases h
end ARR
