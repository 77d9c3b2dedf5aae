/-! One step of the pure machine is a step of the JVM: copies, constants. -/
section CP2
variable {G : Gl} {p : Program} {l : Launch} {e : Env} {R : Room} {s : State} {m : MethodId} {args : Array Value} {below : List Frame} {meth : Method} {c : Code} {md : Md} {r : Nat} {cells slots : Nat} {Q : State → Prop} {pc pc' : Nat} {L L' st st' : List Value} {w w' : Wd}
theorem toInt_cl {z : Int32} (hz : ¬ z < 0) : z.toInt = ((cx z : Nat) : Int) := by
  have hz0 : (0 : Int) ≤ z.toInt := by
    have := Int32.not_lt.mp hz
    simpa using Int32.le_iff_toInt_le.mp this
  show z.toInt = ((z.toInt.toNat : Nat) : Int)
  omega
/-- System.arraycopy, with the heap's size -/
theorem w_cpy {H : Heap} {locs : List Loc} {ls : Array Slot} {rest : List Value} {cc : ByteArray} (hexec : p.tables.exec = Jvm.exec) (hb : c.code = cc) (hml : c.maxLocals = ls.size) {own : String} {index : Nat} (hown : s.vm.findClass own = some m.cls) (hlink : (Cond.methodLink own index arraycopyName).before args s = true) (hnat : (Cond.native arraycopyName).before args s = true) (hstat : (Cond.static arraycopyName).before args s = true) (hini : (Cond.initialized "java/lang/System").before args s = true)
    {a0 a : Nat} {c0 c1 : ClassId} {n0 n1 : Nat} {f g : Nat → Value} {ty : FieldType} (hc0 : H[a0]? = some (arrV c0 n0 f)) (hc1 : H[a]? = some (arrV c1 n1 g)) (hA0 : ArrOfT s c0 ty) (hA1 : ArrOfT s c1 ty) (hprim : refKind ty = false) {sp dp n : Int32} (h1 : ¬ sp < 0) (h2 : ¬ dp < 0) (h3 : ¬ n < 0) (h4 : cx sp + cx n ≤ n0) (h5 : cx dp + cx n ≤ n1)
    (hfit : ∀ i, i < cx n → fits ty (f (cx sp + i)) = true) (hplain : ∀ i, ∀ q, f i ≠ .ref q)
    (hframes : 1 ≤ R.frames) (hlocals : (rest.map fun v => v.category).sum + (nativeFrameWords "java/lang/System" "arraycopy" 5 + 11) ≤ R.locals) (hdg : decode cc pc = .ok (.invokestatic index, 3))
    (kk : ∀ (H1 : Heap) (locs1 : List Loc), H1[a]? = some ((arrV c1 n1 g).storeRun (cx dp) ((arrV c0 n0 f).stretch (cx sp) (cx n))) → H1.size = H.size → (∀ q : Nat, q ≠ a → H1[q]? = H[q]?) → (∀ x ∈ locs1, x ∈ locs ∨ x.base = a) → W p l e R s m args below meth c H1 locs1 cells slots Q (F0 m (pc + 3) ls rest)) : W p l e R s m args below meth c H locs cells slots Q (F0 m pc ls (.int n :: .int dp :: .ref a :: .int sp :: .ref a0 :: rest)) := by
  intro T hT X
  obtain ⟨-, k0, hk0, cm0, hkk0⟩ := hA0 n0 f
  obtain ⟨-, k1, hk1, cm1, hkk1⟩ := hA1 n1 g
  obtain ⟨vm', X', step⟩ := X.arraycopy hexec hown hlink hnat hstat hini (src := a0) (dst := a) (cs := arrV c0 n0 f) (cd := arrV c1 n1 g) (srcPos := sp) (destPos := dp) (n := n) (by rw [hT]; exact hc0) (by rw [hT]; exact hc1)
    (fun _ h => by cases h) (fun _ h => by cases h) (fun h => by cases h) (fun h => by cases h) hk0 hk1 hkk0 hkk1 (by simp [hprim]) h1 h2 h3
    (by rw [toInt_cl h1, toInt_cl h3, arrV_size]; omega)
    (by rw [toInt_cl h2, toInt_cl h3, arrV_size]; omega)
    (fun vm₁ _ i hi => by
      have e : (arrV c0 n0 f).slots.getD (sp.toNatClampNeg + i) .null = f (cx sp + i) := by
        have hb : sp.toNatClampNeg + i < n0 := by
          have hi' : i < cx n := hi
          have h4' : cx sp + cx n ≤ n0 := h4
          unfold cx at *
          omega
        rw [Array.getD_eq_getD_getElem?, arrV_read _ _ hb]
        rfl
      refine ⟨?_, ?_⟩
      · rw [e]
        exact hfit i hi
      · rw [e]
        have := hplain (cx sp + i)
        generalize f (cx sp + i) = v at this
        cases v with
        | ref q => exact absurd rfl (this q)
        | _ => exact trivial)
    (g := F0 m pc ls (.int n :: .int dp :: .ref a :: .int sp :: .ref a0 :: rest)) rfl (by rw [hml]) (rest := rest) rfl (by rw [hb]; exact hdg) hframes (by show 2 * 0 + _ + _ ≤ _; omega)
  have hl : a < H.size := (Array.getElem?_eq_some_iff.mp hc1).1
  obtain ⟨t, a1, b1⟩ := kk _ _ (show (H.setIfInBounds a (copied (arrV c0 n0 f) (arrV c1 n1 g) sp dp n))[a]? = some _ by simp [Array.getElem?_setIfInBounds, hl]; rfl) (by simp) (fun q hq => by simp [Array.getElem?_setIfInBounds, Ne.symm hq]) (fun x hx => by
      rcases List.mem_append.mp hx with h | h
      · exact Or.inl h
      · obtain ⟨z, -, hz⟩ := List.mem_map.mp h
        rw [← hz]
        exact Or.inr rfl) _ (by rw [← hT]; rfl) X'
  exact ⟨t, step t a1, b1⟩
end CP2
