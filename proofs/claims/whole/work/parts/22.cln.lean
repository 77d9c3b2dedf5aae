/-! One step of the pure machine is a step of the JVM: a row of bytes cloned. -/
section CLN
variable {G : Gl} {p : Program} {l : Launch} {e : Env} {R : Room} {s : State} {m : MethodId} {args : Array Value} {below : List Frame} {meth : Method} {c : Code} {md : Md} {r : Nat} {cells slots : Nat} {Q : State → Prop} {pc pc' : Nat} {L L' st st' : List Value} {w w' : Wd}
theorem isClone_eq {o i : Nat} (h : isClone o i = true) : o = 27 ∧ i = 310 := by
  have h1 : (o, i) ∈ ([(27, 310)] : List (Nat × Nat)) := List.contains_iff_mem.mp h
  simpa using h1
theorem g_clone {i : Nat} (C : Cx G p R s m args meth c md r) (hd : decode md.2.2.1 pc = .ok (.invokevirtual i, 3)) (hi : isClone md.1 i = true) (h : s_clone r pc L st w = nx pc' L' st' w') (hcl : cells + (w'.2.1 - w.2.1) ≤ R.cells) (hsl : slots + (w'.2.2 - w.2.2) ≤ R.slots)
    (k : Wg G p l e R s m args below meth c md pc' L' st' w' (cells + (w'.2.1 - w.2.1)) (slots + (w'.2.2 - w.2.2)) Q) : Wg G p l e R s m args below meth c md pc L st w cells slots Q := by
  obtain ⟨hx, hb, hr, hlk, hml, hown, hnm, hts, hS, hfr, hlo⟩ := C
  obtain ⟨ho, hi0⟩ := isClone_eq hi
  unfold s_clone at h
  split at h
  · rename_i a rr
    split at h
    · rename_i hc
      obtain ⟨hc1, hc2, hc3, hc4⟩ := hc
      obtain ⟨rfl, rfl, rfl, rfl⟩ := nx_inj h
      simp only [Nat.add_sub_cancel_left] at hcl hsl k
      intro H locs ls a1 b1 d1
      have hn := adr_n b1
      have h8 := len8 hS.2.2.2.2.2.2.2.2.2.1 hc2
      obtain ⟨n, f, hf⟩ := kd_i hc1 (by omega)
      obtain ⟨g1, g2⟩ := b1.own (a := a) (by rw [hf]; exact own_i (by omega))
      have hcell := b1.cell g1 g2
      rw [hf] at hcell hc4 hsl k
      have hcell : H[adr G a]? = some (arrV (gT G 1) n (fun j => .int (f j))) := hcell
      have hsl : slots + n ≤ R.slots := hsl
      have hnm1 : s.vm.findClass "[B" = some (gT G 1) := (hS.2.1.2 1 _ rfl).2
      obtain ⟨c0, t0, f1, f2, f3⟩ := Cond.castable_spec (va_Nw.use (A := args) rfl (hS.2.2.1 (.castable "[B" "java/lang/Cloneable") (by decide +kernel)))
      cases hnm1.symm.trans f1
      rw [ho] at hown
      rw [hi0] at hd
      intro T hT X
      have hcellT : T.heap[adr G a]? = some (arrV (gT G 1) n (fun j => .int (f j))) := by rw [hT]; exact hcell
      obtain ⟨-, kA, hkA, comp, hkind⟩ := State.isArrayOf_alike X.warmed.alike ((hS.2.1.2 1 _ rfl).1 0 (fun _ => .null))
      obtain ⟨-, kS, hkS, compS, hkindS⟩ := (hS.2.1.2 1 _ rfl).1 0 (fun _ => .null)
      obtain ⟨vm', X', stp0⟩ := X.cloneArray hx hown (hts _ clw1) (hts _ clw2) (hts _ clw3) (hts _ clw4) (hts _ clw5) (a := adr G a) (cell := arrV (gT G 1) n (fun j => .int (f j))) hcellT (fun k h => by cases h) (fun h => by cases h) hnm1 f2 f3
        (fun i v hv => by
          have hk' : T.vm.classes[gT G 1]? = some kA := hkA
          have hlt : i < n := by
            have := (Array.getElem?_eq_some_iff.mp hv).1
            rw [arrV_size] at this
            exact this
          rw [arrV_read _ _ hlt] at hv
          cases hv
          have this : fits .byte (.int (f i)) = true := hc4 i hlt
          simpa [State.fitsSlot, State.slotType?, arrV, hk', hkind] using this)
        (g := F0 m pc ls (.ref (adr G a) :: rr.map (shv G))) rfl (by rw [hml]; exact a1.1) rfl (by rw [hb]; exact hd) (by omega) (by show 2 * 0 + _ + 14 ≤ _; omega) (by omega) (by rw [arrV_size]; exact hsl) (hloader := Vm.clonesLoader_of_array hkS hkindS)
      have := k (H.push (arrV (gT G 1) n (fun j => .int (f j)))) locs ls a1 (b1.push (c' := iA 1 n f) (own_i (by omega)) (by simp) (fun q hq => by rw [Array.getElem?_push, if_neg (Nat.ne_of_lt hq)]) (by
          rw [hn]
          show (H.push _)[H.size]? = some (vp_cell (gT G 1) (n, .inl f))
          rw [Array.getElem?_push_size]
          rfl)) (d1.new (by simp) (fun q hq => by rw [Array.getElem?_push, if_neg (Nat.ne_of_lt hq)]))
      rw [List.map_cons] at this
      rw [show shv G (.ref w.2.1) = .ref H.size by show Value.ref (adr G w.2.1) = _; rw [hn]] at this
      rw [arrV_size] at X'
      obtain ⟨t, a2, b2⟩ := this _ (by rw [← hT]; rfl) X'
      rw [← hT] at a2
      exact ⟨t, stp0 t a2, b2⟩
    · cases h
  · cases h
end CLN
section MMX
variable {G : Gl} {p : Program} {l : Launch} {e : Env} {R : Room} {s : State} {m : MethodId} {args : Array Value} {below : List Frame} {meth : Method} {c : Code} {md : Md} {r : Nat} {cells slots : Nat} {Q : State → Prop} {pc pc' : Nat} {L L' st st' : List Value} {w w' : Wd}
theorem g_max {i : Nat} (C : Cx G p R s m args meth c md r) (hd : decode md.2.2.1 pc = .ok (.invokestatic i, 3)) (hi : isMax md.1 i = true) (h : s_mm (fun x y => if x < y then y else x) r pc L st w = nx pc' L' st' w') (hcl : cells ≤ R.cells) (hsl : slots ≤ R.slots) (k : Wg G p l e R s m args below meth c md pc' L' st' w' cells slots Q) : Wg G p l e R s m args below meth c md pc L st w cells slots Q := by
  obtain ⟨hx, hb, hr, hlk, hml, hown, hnm, hts, hS, hfr, hlo⟩ := C
  unfold s_mm at h
  split at h
  · rename_i y x rr
    split at h
    · rename_i hc
      obtain ⟨rfl, rfl, rfl, rfl⟩ := nx_inj h
      intro H locs ls a1 b1 d1
      have h8 := len8 hS.2.2.2.2.2.2.2.2.2.1 hc.1
      exact va_mmax hx hb (by rw [hml]; exact a1.1.symm) hown (hts _ (maxw hi)) (hts _ maxs) (hts _ mthi) (hts _ maxc) (by omega) (by omega) hcl hsl hd (k H locs ls a1 b1 d1)
    · cases h
  · cases h
theorem g_min {i : Nat} (C : Cx G p R s m args meth c md r) (hd : decode md.2.2.1 pc = .ok (.invokestatic i, 3)) (hi : isMin md.1 i = true) (h : s_mm (fun x y => if y < x then y else x) r pc L st w = nx pc' L' st' w') (hcl : cells ≤ R.cells) (hsl : slots ≤ R.slots) (k : Wg G p l e R s m args below meth c md pc' L' st' w' cells slots Q) : Wg G p l e R s m args below meth c md pc L st w cells slots Q := by
  obtain ⟨hx, hb, hr, hlk, hml, hown, hnm, hts, hS, hfr, hlo⟩ := C
  unfold s_mm at h
  split at h
  · rename_i y x rr
    split at h
    · rename_i hc
      obtain ⟨rfl, rfl, rfl, rfl⟩ := nx_inj h
      intro H locs ls a1 b1 d1
      have h8 := len8 hS.2.2.2.2.2.2.2.2.2.1 hc.1
      exact va_mmin hx hb (by rw [hml]; exact a1.1.symm) hown (hts _ (minw hi)) (hts _ mins) (hts _ mthi) (hts _ minc) (by omega) (by omega) hcl hsl hd (k H locs ls a1 b1 d1)
    · cases h
  · cases h
end MMX
