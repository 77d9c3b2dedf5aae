/-! One step of the pure machine is a step of the JVM: arrays of references written, copies, constants. -/
section CPY
variable {G : Gl} {p : Program} {l : Launch} {e : Env} {R : Room} {s : State} {m : MethodId} {args : Array Value} {below : List Frame} {meth : Method} {c : Code} {md : Md} {r : Nat} {cells slots : Nat} {Q : State → Prop} {pc pc' : Nat} {L L' st st' : List Value} {w w' : Wd}
theorem pear_cast (hS : Sg G s) {ci : Nat} (hp : isPear ci = true) {q : vw_C} (hq : kcl[ci]? = some q) {c0 comp : ClassId} (h0 : s.vm.findClass q.1 = some c0) (h1 : s.vm.findClass RX5 = some comp) : s.vm.assignable c0 comp = true := by
  have hn := hS.2.2.1
  have go : ∀ C : String, q.1 = C → va_Nw (.castable C RX5) s → s.vm.assignable c0 comp = true := fun C e hw => by
    obtain ⟨x, t1, f1, f2, f3⟩ := Cond.castable_spec (va_Nw.use (A := #[]) rfl hw)
    rw [e] at h0
    cases h0.symm.trans f1
    cases h1.symm.trans f2
    exact f3
  have hm : ci = 0 ∨ ci = 2 ∨ ci = 3 ∨ ci = 4 ∨ ci = 5 ∨ ci = 7 ∨ ci = 9 := by
    simp [isPear] at hp
    omega
  rcases hm with rfl | rfl | rfl | rfl | rfl | rfl | rfl
  · cases hq; exact go RX0 rfl (hn _ (by decide +kernel))
  · cases hq; exact go RX2 rfl (hn _ (by decide +kernel))
  · cases hq; exact go RX3 rfl (hn _ (by decide +kernel))
  · cases hq; exact go RX4 rfl (hn _ (by decide +kernel))
  · cases hq
    cases h0.symm.trans h1
    exact va_asg _ _
  · cases hq; exact go RX7 rfl (hn _ (by decide +kernel))
  · cases hq; exact go RX9 rfl (hn _ (by decide +kernel))
theorem g_aast (C : Cx G p R s m args meth c md r) (hd : decode md.2.2.1 pc = .ok (.aastore, 1)) (h : s_aast pc L st w = nx pc' L' st' w') (k : Wg G p l e R s m args below meth c md pc' L' st' w' cells slots Q) : Wg G p l e R s m args below meth c md pc L st w cells slots Q := by
  obtain ⟨hx, hb, hr, hlk, hml, hown, hnm, hts, hS, hfr, hlo⟩ := C
  unfold s_aast at h
  split at h
  · rename_i v i a rr
    split at h
    · rename_i hc
      obtain ⟨hc1, hc2, hc3⟩ := hc
      obtain ⟨rfl, rfl, rfl, rfl⟩ := nx_inj h
      intro H locs ls a1 b1 d1
      have hin := ix_in hc2
      obtain ⟨n, f, hcf⟩ := kd_q hc1 (by omega)
      obtain ⟨g1, g2⟩ := b1.own (by rw [hcf]; exact own_q (by omega))
      have hcell := b1.cell g1 g2
      rw [hcf] at hcell hin
      have hc0 : H[adr G a]? = some (arrV (gT G 7) n (fun j => va_rf ((f j).map (adr G)))) := hcell
      have hp13 : cls (w.1 v) < 13 := by
        have := hc3
        simp [isPear] at this
        omega
      obtain ⟨fv0, hvf⟩ := cls_ob (c := w.1 v) rfl (by omega)
      obtain ⟨v1, v2⟩ := b1.own (by rw [hvf]; exact own_o hp13)
      have hcv := b1.cell v1 v2
      rw [hvf] at hcv
      obtain ⟨q, hq, cv, y1, y2, y3, -⟩ := hcv
      obtain ⟨-, hfc, kC, hkC, -⟩ := hS.2.1.1 (cls (w.1 v)) q hq
      obtain ⟨kA, comp, z1, z2, z3, z4⟩ := (hS.2.1.2 7 _ rfl).2
      obtain ⟨-, hf5, k5, hk5, -⟩ := hS.2.1.1 5 (RX5, TX5, 0) rfl
      have e5 : comp = (gD G).1 5 := Option.some.inj (z3.symm.trans hf5)
      have hlt : i.toNatClampNeg < n := Nat.not_le.mp fun q => hin (Or.inr q)
      have hge : ¬ i < 0 := fun q => hin (Or.inl q)
      refine W.aast hx hb (k := kA) (comp := comp) (t := .object RX5) hc0 (fun q => by intro z; cases z) (fun q => by cases q) z1 z2 rfl (by rw [e5]; exact hk5) ⟨hge, by rw [arrV_size]; exact hlt⟩ y1 (by rw [y3]; intro q z; cases z) (by rw [y2]; exact hkC) (by rw [y2]; exact pear_cast hS hc3 hq hfc z3) rfl rfl hd (fun H1 x1 x2 x3 => ?_)
      rw [arrV_store, updV_ref] at x1
      refine k H1 _ ls a1 ?_ (d1.put x2 x3 (adr_own g1))
      have hst : stq (w.1 a) (cx i) v = rA 7 n (va_up f (cx i) (some v)) := by rw [hcf]; rfl
      rw [hst]
      exact b1.put g1 g2 (own_q (by omega)) x2 x3 x1
    · cases h
  · cases h
end CPY
