/-! One step of the pure machine is a step of the JVM: copies in the pure heap, clones, constants, statics. -/
theorem va_S.sub {A : Nat → Prop} {H0 H H1 : Heap} {locs locs1 : List Loc} {a : Nat} (h : va_S A H0 H locs) (z : H1.size = H.size) (oq : ∀ q : Nat, q ≠ a → H1[q]? = H[q]?) (ha : A a) (hl : ∀ x ∈ locs1, x ∈ locs ∨ x.base = a) : va_S A H0 H1 locs1 := by
  refine ⟨by rw [z]; exact h.1, fun q h1 h2 => ?_, fun x hx => ?_⟩
  · rw [oq q (fun e => h2 (by rw [e]; exact ha))]
    exact h.2.1 q h1 h2
  · rcases hl x hx with q | q
    · exact h.2.2 x q
    · rw [q]; exact ha
theorem len8 {G : Gl} (hF : gF G = .null ∨ ∃ q, gF G = .ref q) {rest : List Value} (h : rest.length ≤ 4) : ((rest.map (shv G)).map fun v => v.category).sum ≤ 8 := by
  have h2 : ∀ l : List Value, ((l.map (shv G)).map fun v => v.category).sum ≤ 2 * l.length := by
    intro l
    induction l with
    | nil => simp
    | cons v l ih =>
      simp only [List.map_cons, List.sum_cons, List.length_cons]
      have hv := lv_cat (shv G v)
      omega
  have := h2 rest
  omega
section CST
variable {G : Gl} {p : Program} {l : Launch} {e : Env} {R : Room} {s : State} {m : MethodId} {args : Array Value} {below : List Frame} {meth : Method} {c : Code} {md : Md} {r : Nat} {cells slots : Nat} {Q : State → Prop} {pc pc' : Nat} {L L' st st' : List Value} {w w' : Wd}
theorem g_copy {i : Nat} (C : Cx G p R s m args meth c md r) (hd : decode md.2.2.1 pc = .ok (.invokestatic i, 3)) (hi : isCopy md.1 i = true) (h : s_copy r pc L st w = nx pc' L' st' w') (k : Wg G p l e R s m args below meth c md pc' L' st' w' cells slots Q) : Wg G p l e R s m args below meth c md pc L st w cells slots Q := by
  obtain ⟨hx, hb, hr, hlk, hml, hown, hnm, hts, hS, hfr, hlo⟩ := C
  unfold s_copy at h
  split at h
  · rename_i n dp d sp a rr
    split at h
    · rename_i hc
      obtain ⟨⟨q1, q2, q3, q4, q5, q6⟩, hc2, hc3⟩ := hc
      obtain ⟨rfl, rfl, rfl, rfl⟩ := nx_inj h
      intro H locs ls a1 b1 d1
      have hF := hS.2.2.2.2.2.2.2.2.2.1
      have h8 := len8 hF hc2
      have hlc : ((rr.map (shv G)).map fun v => v.category).sum + (nativeFrameWords "java/lang/System" "arraycopy" 5 + 11) ≤ R.locals := by
        have : nativeFrameWords "java/lang/System" "arraycopy" 5 + 11 ≤ 56 := by decide +kernel
        omega
      have hml' : c.maxLocals = ls.size := by rw [hml, a1.1]
      rcases q6 with ⟨t1, t2⟩ | ⟨t1, t2⟩ | ⟨t1, t2, t3⟩
      · obtain ⟨n0, f, hf⟩ := kd_i t1 (by omega)
        obtain ⟨n1, g, hg⟩ := kd_i t2 (by omega)
        obtain ⟨g1, g2⟩ := b1.own (a := a) (by rw [hf]; exact own_i (by omega))
        obtain ⟨g3, g4⟩ := b1.own (a := d) (by rw [hg]; exact own_i (by omega))
        have hx0 := b1.cell g1 g2
        have hx1 := b1.cell g3 g4
        rw [hf] at hx0 q4 k; rw [hg] at hx1 q5 k
        have hx0 : H[adr G a]? = some (arrV (gT G 0) n0 (fun j => Value.int (f j))) := hx0
        have hx1 : H[adr G d]? = some (arrV (gT G 0) n1 (fun j => Value.int (g j))) := hx1
        have q4 : cx sp + cx n ≤ n0 := q4
        have q5 : cx dp + cx n ≤ n1 := q5
        refine w_cpy hx hb hml' hown (hts _ (cpw hi)) (hts _ cpn) (hts _ cps) (hts _ cpi0) (f := fun j => .int (f j)) (g := fun j => .int (g j)) (c0 := gT G 0) (c1 := gT G 0) hx0 hx1 (hS.2.1.2 0 _ rfl).1 (hS.2.1.2 0 _ rfl).1 rfl q1 q2 q3 q4 q5 (fun _ _ => rfl) (fun _ _ z => by cases z) (by omega) hlc hd (fun H1 locs1 x1 x2 x3 x4 => ?_)
        rw [va_copied (fun z => Value.int z) _ _ f g q4] at x1
        exact k H1 locs1 ls a1 (b1.put g3 g4 (c' := iA 0 n1 (va_cpy f g (cx sp) (cx dp) (cx n))) (own_i (by omega)) x2 x3 x1) (d1.sub x2 x3 (adr_own g3) x4)
      · obtain ⟨n0, f, hf⟩ := kd_j t1
        obtain ⟨n1, g, hg⟩ := kd_j t2
        obtain ⟨g1, g2⟩ := b1.own (a := a) (by rw [hf]; exact own_j)
        obtain ⟨g3, g4⟩ := b1.own (a := d) (by rw [hg]; exact own_j)
        have hx0 := b1.cell g1 g2
        have hx1 := b1.cell g3 g4
        rw [hf] at hx0 q4 k; rw [hg] at hx1 q5 k
        have hx0 : H[adr G a]? = some (arrV (gT G 4) n0 (fun j => Value.long (f j))) := hx0
        have hx1 : H[adr G d]? = some (arrV (gT G 4) n1 (fun j => Value.long (g j))) := hx1
        have q4 : cx sp + cx n ≤ n0 := q4
        have q5 : cx dp + cx n ≤ n1 := q5
        refine w_cpy hx hb hml' hown (hts _ (cpw hi)) (hts _ cpn) (hts _ cps) (hts _ cpi0) (f := fun j => .long (f j)) (g := fun j => .long (g j)) (c0 := gT G 4) (c1 := gT G 4) hx0 hx1 (hS.2.1.2 4 _ rfl).1 (hS.2.1.2 4 _ rfl).1 rfl q1 q2 q3 q4 q5 (fun _ _ => rfl) (fun _ _ z => by cases z) (by omega) hlc hd (fun H1 locs1 x1 x2 x3 x4 => ?_)
        rw [va_copied (fun z => Value.long z) _ _ f g q4] at x1
        exact k H1 locs1 ls a1 (b1.put g3 g4 (c' := jA n1 (va_cpy f g (cx sp) (cx dp) (cx n))) own_j x2 x3 x1) (d1.sub x2 x3 (adr_own g3) x4)
      · obtain ⟨n0, f, hf⟩ := kd_i t1 (by omega)
        obtain ⟨n1, g, hg⟩ := kd_i t2 (by omega)
        obtain ⟨g1, g2⟩ := b1.own (a := a) (by rw [hf]; exact own_i (by omega))
        obtain ⟨g3, g4⟩ := b1.own (a := d) (by rw [hg]; exact own_i (by omega))
        have hx0 := b1.cell g1 g2
        have hx1 := b1.cell g3 g4
        rw [hf] at hx0 q4 k t3; rw [hg] at hx1 q5 k
        have hx0 : H[adr G a]? = some (arrV (gT G 1) n0 (fun j => Value.int (f j))) := hx0
        have hx1 : H[adr G d]? = some (arrV (gT G 1) n1 (fun j => Value.int (g j))) := hx1
        have q4 : cx sp + cx n ≤ n0 := q4
        have q5 : cx dp + cx n ≤ n1 := q5
        refine w_cpy hx hb hml' hown (hts _ (cpw hi)) (hts _ cpn) (hts _ cps) (hts _ cpi0) (f := fun j => .int (f j)) (g := fun j => .int (g j)) (c0 := gT G 1) (c1 := gT G 1) hx0 hx1 (hS.2.1.2 1 _ rfl).1 (hS.2.1.2 1 _ rfl).1 rfl q1 q2 q3 q4 q5 (fun i hi => t3 i hi) (fun _ _ z => by cases z) (by omega) hlc hd (fun H1 locs1 x1 x2 x3 x4 => ?_)
        rw [va_copied (fun z => Value.int z) _ _ f g q4] at x1
        exact k H1 locs1 ls a1 (b1.put g3 g4 (c' := iA 1 n1 (va_cpy f g (cx sp) (cx dp) (cx n))) (own_i (by omega)) x2 x3 x1) (d1.sub x2 x3 (adr_own g3) x4)
    · cases h
  · cases h
theorem g_obj {i : Nat} (C : Cx G p R s m args meth c md r) (hd : decode md.2.2.1 pc = .ok (.invokespecial i, 3)) (hi : isObj md.1 i = true) {a : Nat} {rr : List Value} (h4 : rr.length ≤ 4) (h1 : 1 ≤ r) (k : Wg G p l e R s m args below meth c md (pc + 3) L rr w cells slots Q) : Wg G p l e R s m args below meth c md pc L (.ref a :: rr) w cells slots Q := by
  obtain ⟨hx, hb, hr, hlk, hml, hown, hnm, hts, hS, hfr, hlo⟩ := C
  intro H locs ls a1 b1 d1
  have h8 := len8 hS.2.2.2.2.2.2.2.2.2.1 h4
  exact W.objInit hx hb hown (hts _ (obw hi)) (hts _ obi) (hts _ obc) (g := F0 m pc ls (.ref (adr G a) :: rr.map (shv G))) rfl (by rw [hml]; exact a1.1) rfl hd (by omega) (by show 2 * 0 + _ + 12 ≤ _; omega) (k H locs ls a1 b1 d1)
theorem g_sta {i : Nat} {v : Value} (C : Cx G p R s m args meth c md r) (hd : decode md.2.2.1 pc = .ok (.getstatic i, 3)) (hv : sres md.1 i = some v) (k : Wg G p l e R s m args below meth c md (pc + 3) L (v :: st) w cells slots Q) : Wg G p l e R s m args below meth c md pc L st w cells slots Q := by
  obtain ⟨hx, hb, hr, hlk, hml, hown, hnm, hts, hS, hfr, hlo⟩ := C
  intro H locs ls a1 b1 d1
  have z := k H locs ls a1 b1 d1
  obtain ⟨-, -, -, -, -, -, sZ1, sZ2, sZ3, -⟩ := hS
  unfold sres at hv
  cases hf : stl.find? (fun e => e.1 == md.1 && e.2.1 == i) with
  | none => rw [hf] at hv; cases hv
  | some q =>
    rw [hf] at hv
    have h1 := List.find?_some hf
    have h2 := List.mem_of_find?_eq_some hf
    simp only [Bool.and_eq_true, beq_iff_eq] at h1
    simp only [Option.map_some, Option.some.injEq] at hv
    simp only [stl, List.mem_cons, List.not_mem_nil, or_false] at h2
    rcases h2 with rfl | rfl | rfl
    · subst hv
      simp only at h1
      refine va_gets hx hb sZ2 d1 hown ?_ (fun _ z => z) hd z
      rw [← h1.1, ← h1.2]
      exact hts _ sw_0
    · subst hv
      simp only at h1
      refine va_gets hx hb sZ3 d1 hown ?_ (fun _ z => z) hd z
      rw [← h1.1, ← h1.2]
      exact hts _ sw_1
    · subst hv
      simp only at h1
      refine va_gets hx hb sZ1 d1 hown ?_ (fun _ z => z) hd z
      rw [← h1.1, ← h1.2]
      exact hts _ sw_2
theorem g_ldc {i : Nat} {v : Int32} (C : Cx G p R s m args meth c md r) (hd : decode md.2.2.1 pc = .ok (.ldc i, 2)) (hv : kres md.1 i = some (.int v)) (k : Wg G p l e R s m args below meth c md (pc + 2) L (.int v :: st) w cells slots Q) : Wg G p l e R s m args below meth c md pc L st w cells slots Q := by
  obtain ⟨hx, hb, hr, hlk, hml, hown, hnm, hts, hS, hfr, hlo⟩ := C
  exact fun H locs ls a1 b1 d1 => lv_ldc hx hb hown (hts _ (kres_ok hv)) hd (k H locs ls a1 b1 d1)
theorem g_ldcw {i : Nat} {v : Int32} (C : Cx G p R s m args meth c md r) (hd : decode md.2.2.1 pc = .ok (.ldc_w i, 3)) (hv : kres md.1 i = some (.int v)) (k : Wg G p l e R s m args below meth c md (pc + 3) L (.int v :: st) w cells slots Q) : Wg G p l e R s m args below meth c md pc L st w cells slots Q := by
  obtain ⟨hx, hb, hr, hlk, hml, hown, hnm, hts, hS, hfr, hlo⟩ := C
  exact fun H locs ls a1 b1 d1 => lv_ldcw hx hb hown (hts _ (kres_ok hv)) hd (k H locs ls a1 b1 d1)
theorem g_ldc2 {i : Nat} {v : Int64} (C : Cx G p R s m args meth c md r) (hd : decode md.2.2.1 pc = .ok (.ldc2_w i, 3)) (hv : kres md.1 i = some (.long v)) (k : Wg G p l e R s m args below meth c md (pc + 3) L (.long v :: st) w cells slots Q) : Wg G p l e R s m args below meth c md pc L st w cells slots Q := by
  obtain ⟨hx, hb, hr, hlk, hml, hown, hnm, hts, hS, hfr, hlo⟩ := C
  exact fun H locs ls a1 b1 d1 => lv_ldc2 hx hb hown (hts _ (kres_ok hv)) hd (k H locs ls a1 b1 d1)
theorem g_ldcS {i a : Nat} (C : Cx G p R s m args meth c md r) (hd : decode md.2.2.1 pc = .ok (.ldc i, 2)) (hv : xres md.1 i = some a) (k : Wg G p l e R s m args below meth c md (pc + 2) L (.ref a :: st) w cells slots Q) : Wg G p l e R s m args below meth c md pc L st w cells slots Q := by
  obtain ⟨hx, hb, hr, hlk, hml, hown, hnm, hts, hS, hfr, hlo⟩ := C
  intro H locs ls a1 b1 d1
  have z := k H locs ls a1 b1 d1
  obtain ⟨-, -, -, -, -, -, -, -, -, -, -, -, -, r2, r3, r4, r5⟩ := hS
  unfold xres at hv
  cases hf : xtl.find? (fun e => e.1 == md.1 && e.2.1 == i) with
  | none => rw [hf] at hv; cases hv
  | some q =>
    rw [hf] at hv
    have h1 := List.find?_some hf
    have h2 := List.mem_of_find?_eq_some hf
    simp only [Bool.and_eq_true, beq_iff_eq] at h1
    simp only [Option.map_some, Option.some.injEq] at hv
    simp only [xtl, List.mem_cons, List.not_mem_nil, or_false] at h2
    have ho : md.1 = 10 := by rcases h2 with rfl | rfl | rfl | rfl <;> exact h1.1.symm
    have hown' : s.vm.findClass "PearSummer$Wall" = some m.cls := by rw [ho] at hown; exact hown
    rcases h2 with rfl | rfl | rfl | rfl
    · simp only at h1 hv
      subst hv
      rw [← h1.2] at hd
      exact va_ldcS hx hb hown' r2 hd z
    · simp only at h1 hv
      subst hv
      rw [← h1.2] at hd
      exact va_ldcS hx hb hown' r3 hd z
    · simp only at h1 hv
      subst hv
      rw [← h1.2] at hd
      exact va_ldcS hx hb hown' r4 hd z
    · simp only at h1 hv
      subst hv
      rw [← h1.2] at hd
      exact va_ldcS hx hb hown' r5 hd z
theorem g_cast {i a : Nat} {rr : List Value} (C : Cx G p R s m args meth c md r) (hd : decode md.2.2.1 pc = .ok (.checkcast i, 3)) (hv : nres md.1 i = some 101) (hk : kd (w.1 a) = 1) (k : Wg G p l e R s m args below meth c md (pc + 3) L (.ref a :: rr) w cells slots Q) : Wg G p l e R s m args below meth c md pc L (.ref a :: rr) w cells slots Q := by
  obtain ⟨hx, hb, hr, hlk, hml, hown, hnm, hts, hS, hfr, hlo⟩ := C
  intro H locs ls a1 b1 d1
  have z := k H locs ls a1 b1 d1
  obtain ⟨n, f, hf⟩ := kd_i hk (by omega)
  obtain ⟨g1, g2⟩ := b1.own (a := a) (by rw [hf]; exact own_i (by omega))
  have he := wl_at (G := G) (h := w.1) g1 g2
  rw [hf] at he
  have hlink : Cond.classLink (on md.1) i "[B" ∈ tbg := nres_ok hv
  exact va_castA hx hb hown (hts _ hlink) b1.2.2.1 (a - 16) he (hS.2.1.2 1 _ rfl).2 hd z
end CST
