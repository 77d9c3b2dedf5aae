/-! One step of the pure machine is a step of the JVM: new cells, arrays of references, copies, constants. -/
theorem wl_P {G : Gl} {h : Nat → Cl} {n : Nat} {H : Heap} (hh : ∀ a, 16 ≤ a → a < n → va_at (gD G) kcl (adr G a, enc G (h a)) H) : va_P (gD G) kcl (wl G h n) H := by
  intro k q hq
  have hk : k < n - 16 := by
    have := (List.getElem?_eq_some_iff.mp hq).1
    rw [wl_len] at this
    exact this
  have h2 := wl_at (G := G) (h := h) (n := n) (a := 16 + k) (by omega) (by omega)
  rw [show 16 + k - 16 = k by omega] at h2
  cases hq.symm.trans h2
  exact hh (16 + k) (by omega) (by omega)
theorem adr_n {G : Gl} {n : Nat} {H : Heap} {h : Nat → Cl} (hh : HpG G h n H) : adr G n = H.size := by
  unfold adr
  rw [if_neg (by have := hh.1; omega), hh.2.1]
theorem HpG.push {G : Gl} {h : Nat → Cl} {n : Nat} {H H1 : Heap} {c' : Cl} (hh : HpG G h n H) (ho : ownc c' = true) (z : H1.size = H.size + 1) (oq : ∀ q : Nat, q < H.size → H1[q]? = H[q]?) (he : va_at (gD G) kcl (adr G n, enc G c') H1) : HpG G (uph h n c') (n + 1) H1 := by
  have hn := adr_n hh
  have hh0 := hh
  obtain ⟨g0, g1, g2, g3, g4, g5⟩ := hh
  refine ⟨by omega, by omega, wl_P (fun a q1 q2 => ?_), fun q q1 q2 => ?_, fun q hq => ?_, fun q hq => ?_⟩
  · unfold uph
    split
    · rename_i e; subst e; exact he
    · rename_i e
      have hc := hh0.cell q1 (show a < n by omega)
      exact hc.kept (oq _ hc.lt)
  · unfold uph
    split
    · exact ho
    · exact g3 q q1 (by omega)
  · unfold uph
    rw [if_neg (by omega)]
    exact g4 q hq
  · unfold uph
    rw [if_neg (by omega)]
    exact g5 q (by omega)
theorem va_S.new {A : Nat → Prop} {H0 H H1 : Heap} {locs : List Loc} (h : va_S A H0 H locs) (z : H.size ≤ H1.size) (oq : ∀ q : Nat, q < H.size → H1[q]? = H[q]?) : va_S A H0 H1 locs :=
  ⟨Nat.le_trans h.1 z, fun q h1 h2 => (oq q (Nat.lt_of_lt_of_le h1 h.1)).trans (h.2.1 q h1 h2), h.2.2⟩
section NEW
variable {G : Gl} {p : Program} {l : Launch} {e : Env} {R : Room} {s : State} {m : MethodId} {args : Array Value} {below : List Frame} {meth : Method} {c : Code} {md : Md} {r : Nat} {cells slots : Nat} {Q : State → Prop} {pc pc' : Nat} {L L' st st' : List Value} {w w' : Wd}
theorem g_newa {at0 : ArrayType} (C : Cx G p R s m args meth c md r) (hd : decode md.2.2.1 pc = .ok (.newarray at0, 2)) (h : s_newa at0 pc L st w = nx pc' L' st' w') (hcl : cells + (w'.2.1 - w.2.1) ≤ R.cells) (hsl : slots + (w'.2.2 - w.2.2) ≤ R.slots)
    (k : Wg G p l e R s m args below meth c md pc' L' st' w' (cells + (w'.2.1 - w.2.1)) (slots + (w'.2.2 - w.2.2)) Q) : Wg G p l e R s m args below meth c md pc L st w cells slots Q := by
  obtain ⟨hx, hb, hr, hlk, hml, hown, hnm, hts, hS, hfr, hlo⟩ := C
  unfold s_newa at h
  split at h
  · rename_i n rr
    split at h
    · rename_i hc
      obtain ⟨hc1, hc2, hc3⟩ := hc
      obtain ⟨rfl, rfl, rfl, rfl⟩ := nx_inj h
      simp only [Nat.add_sub_cancel_left] at hcl hsl k
      intro H locs ls a1 b1 d1
      have hn := adr_n b1
      show W p l e R s m args below meth c H locs cells slots Q (F0 m pc ls (.int n :: rr.map (shv G)))
      have go : ∀ (ty : FieldType), newarray.typeOf at0 = ty → (Cond.arrayClass ty).before args s = true → componentBytes ty ≤ 8 → s.vm.findClass ("[" ++ ty.toString) = some (gT G (atag at0)) → (∀ cA : ClassId, cA = gT G (atag at0) → vp_cell cA (match enc G (zA (atag at0) (cx n)) with | .inl a => a.2 | .inr _ => (0, .inl (fun _ => 0))) = arrV cA (cx n) (fun _ => defaultValue ty) ∧ enc G (zA (atag at0) (cx n)) = .inl (cA, match enc G (zA (atag at0) (cx n)) with | .inl a => a.2 | .inr _ => (0, .inl (fun _ => 0)))) → ownc (zA (atag at0) (cx n)) = true → W p l e R s m args below meth c H locs cells slots Q (F0 m pc ls (.int n :: rr.map (shv G))) := by
        intro ty hty harr hby hfc hcell ho
        subst hty
        refine va_newaK hx hb harr (g := F0 m pc ls (.int n :: rr.map (shv G))) rfl hd rfl hc2 (N := cx n) rfl ?_ (by omega) (by omega) rfl (fun H1 cA x1 x2 x3 _ x5 => ?_)
        · exact Nat.le_trans (Nat.mul_le_mul hc3 hby) (Nat.le_of_ble_eq_true rfl)
        · have hcA : cA = gT G (atag at0) := Option.some.inj (x5.symm.trans hfc)
          obtain ⟨y1, y2⟩ := hcell cA hcA
          have := k H1 locs ls a1 (b1.push ho x2 x3 (by
            rw [hn, y2]
            show H1[H.size]? = some (vp_cell cA _)
            rw [y1]
            exact x1)) (d1.new (by omega) x3)
          rw [List.map_cons] at this
          rw [show shv G (.ref w.2.1) = .ref H.size by show Value.ref (adr G w.2.1) = _; rw [hn]] at this
          exact this
      cases at0 with
      | int => exact go .int rfl (hts _ aw_int) (by decide) (hS.2.1.2 0 _ rfl).2 (fun cA e => by subst e; exact ⟨rfl, rfl⟩) rfl
      | byte => exact go .byte rfl (hts _ aw_byte) (by decide) (hS.2.1.2 1 _ rfl).2 (fun cA e => by subst e; exact ⟨rfl, rfl⟩) rfl
      | char => exact go .char rfl (hts _ aw_char) (by decide) (hS.2.1.2 2 _ rfl).2 (fun cA e => by subst e; exact ⟨rfl, rfl⟩) rfl
      | boolean => exact go .boolean rfl (hts _ aw_boolean) (by decide) (hS.2.1.2 3 _ rfl).2 (fun cA e => by subst e; exact ⟨rfl, rfl⟩) rfl
      | long => exact go .long rfl (hts _ aw_long) (by decide) (hS.2.1.2 4 _ rfl).2 (fun cA e => by subst e; exact ⟨rfl, rfl⟩) rfl
      | _ => exact absurd hc1 (by decide)
    · cases h
  · cases h
theorem shv_dflt (t : FieldType) : shv G (defaultValue t) = defaultValue t := by cases t <;> rfl
theorem g_new {i : Nat} (C : Cx G p R s m args meth c md r) (hd : decode md.2.2.1 pc = .ok (.new i, 3)) (h : s_new md i pc L st w = nx pc' L' st' w') (hcl : cells + (w'.2.1 - w.2.1) ≤ R.cells) (hsl : slots + (w'.2.2 - w.2.2) ≤ R.slots)
    (k : Wg G p l e R s m args below meth c md pc' L' st' w' (cells + (w'.2.1 - w.2.1)) (slots + (w'.2.2 - w.2.2)) Q) : Wg G p l e R s m args below meth c md pc L st w cells slots Q := by
  obtain ⟨hx, hb, hr, hlk, hml, hown, hnm, hts, hS, hfr, hlo⟩ := C
  unfold s_new at h
  split at h
  · rename_i ci hn0
    split at h
    · rename_i hc
      obtain ⟨rfl, rfl, rfl, rfl⟩ := nx_inj h
      simp only [Nat.add_sub_cancel_left] at hcl hsl k
      intro H locs ls a1 b1 d1
      have hn := adr_n b1
      obtain ⟨q, e1, e2, e3, e4, e5, e6, e7, e8, e9⟩ := kw ci hc
      have hlink : Cond.classLink (on md.1) i (clname ci) ∈ tbg := nres_ok hn0
      have hcn : clname ci = q.1 := by
        unfold clname
        rw [if_neg (by omega), if_neg (by omega), if_neg (by omega)]
        exact e7.symm
      rw [hcn] at hlink
      have hKn := hS.2.1.1 ci _ e1
      refine W.newcK hx hb hown (hts _ hlink) (hts _ e8) (hts _ e9) (g := F0 m pc ls (st.map (shv G))) rfl hd (by omega) (by rw [e2]; omega) hKn.2.1 rfl (fun H1 kC hkC x1 x2 x3 => ?_)
      rw [e2]
      have := k H1 locs ls a1 (b1.push (own_o hc) x2 x3 (by
        rw [hn]
        refine ⟨q, e1, (u_born (fty ci) hts e5 hKn hkC x1 e3).to (fun j hj => ?_)⟩
        show defaultValue (fty ci j) = vp_V ((List.range (fnum ci)).map (fun k => shv G (defaultValue (fty ci k)))) j
        unfold vp_V
        rw [List.getD_eq_getElem?_getD, List.getElem?_map, List.getElem?_range (by rw [← e2]; exact hj)]
        exact (shv_dflt _).symm)) (d1.new (by omega) x3)
      rw [List.map_cons] at this
      rw [show shv G (.ref w.2.1) = .ref H.size by show Value.ref (adr G w.2.1) = _; rw [hn]] at this
      exact this
    · cases h
  · cases h
theorem g_newq {i : Nat} (C : Cx G p R s m args meth c md r) (hd : decode md.2.2.1 pc = .ok (.anewarray i, 3)) (h : s_newq md i pc L st w = nx pc' L' st' w') (hcl : cells + (w'.2.1 - w.2.1) ≤ R.cells) (hsl : slots + (w'.2.2 - w.2.2) ≤ R.slots)
    (k : Wg G p l e R s m args below meth c md pc' L' st' w' (cells + (w'.2.1 - w.2.1)) (slots + (w'.2.2 - w.2.2)) Q) : Wg G p l e R s m args below meth c md pc L st w cells slots Q := by
  obtain ⟨hx, hb, hr, hlk, hml, hown, hnm, hts, hS, hfr, hlo⟩ := C
  unfold s_newq at h
  split at h
  · rename_i n rr
    split at h
    · rename_i hc
      obtain ⟨hc1, hc2, hc3⟩ := hc
      obtain ⟨rfl, rfl, rfl, rfl⟩ := nx_inj h
      simp only [Nat.add_sub_cancel_left] at hcl hsl k
      intro H locs ls a1 b1 d1
      have hn := adr_n b1
      show W p l e R s m args below meth c H locs cells slots Q (F0 m pc ls (.int n :: rr.map (shv G)))
      have hlink : Cond.classLink (on md.1) i RX5 ∈ tbg := nres_ok hc1
      refine W.anew hx hb hown (hts _ hlink) (va_AO.use hS.2.2.2.1) (g := F0 m pc ls (.int n :: rr.map (shv G))) rfl hd rfl hc2 ?_ (by omega) (by show slots + cx n ≤ _; omega) (fun cA kA comp y1 y2 y3 y4 => ?_)
      · exact Nat.le_trans (Nat.mul_le_mul_right 4 hc3) (Nat.le_of_ble_eq_true rfl)
      · obtain ⟨kA', comp', z1, z2, z3, z4⟩ := (hS.2.1.2 7 _ rfl).2
        have hcA : cA = gT G 7 := Option.some.inj (y1.symm.trans z4)
        have := k (H.push { cls := cA, slots := Array.replicate n.toNatClampNeg .null, vm := .none }) locs ls a1 (b1.push (own_q (by omega)) (by simp) (fun q hq => by rw [Array.getElem?_push, if_neg (Nat.ne_of_lt hq)]) (by
          rw [hn]
          show (H.push _)[H.size]? = some (vp_cell (gT G 7) (cx n, .inr (.inr (.inr (.inr (fun _ => none))))))
          rw [Array.getElem?_push_size, ← hcA, vp_cell_q, arrV_new]
          rfl)) (d1.new (by simp) (fun q hq => by rw [Array.getElem?_push, if_neg (Nat.ne_of_lt hq)]))
        rw [List.map_cons] at this
        rw [show shv G (.ref w.2.1) = .ref H.size by show Value.ref (adr G w.2.1) = _; rw [hn]] at this
        exact this
    · cases h
  · cases h
theorem HpG.rows {h : Nat → Cl} {n N t : Nat} {H H1 : Heap} {ci : Cl} (hh : HpG G h n H) (ht : t = 5 ∨ t = 6) (ho : ownc ci = true) (z : H1.size = H.size + 1 + N) (oq : ∀ q : Nat, q < H.size → H1[q]? = H[q]?) (he : H1[H.size]? = some (arrV (gT G t) N (fun j => va_rf (if j < N then some (H.size + 1 + j) else none))))
    (hi : ∀ j : Nat, j < N → va_at (gD G) kcl (H.size + 1 + j, enc G ci) H1) : HpG G (mrows h n N ci (rA t N (rows0 n N))) (n + 1 + N) H1 := by
  have hn := adr_n hh
  have hh0 := hh
  obtain ⟨g0, g1, g2, g3, g4, g5⟩ := hh
  have had : ∀ j, adr G (n + 1 + j) = H.size + 1 + j := fun j => by
    unfold adr
    rw [if_neg (by omega), g1]
    omega
  refine ⟨by omega, by omega, wl_P (fun a q1 q2 => ?_), fun q q1 q2 => ?_, fun q hq => ?_, fun q hq => ?_⟩
  · unfold mrows
    by_cases e1 : a = n
    · rw [if_pos e1, e1, hn]
      show H1[H.size]? = some (vp_cell (gT G t) (N, .inr (.inr (.inr (.inr (fun j => (rows0 n N j).map (adr G)))))))
      rw [he, vp_cell_q]
      congr 2
      funext j
      unfold rows0
      split
      · rw [Option.map_some, had]
      · rfl
    · rw [if_neg e1]
      by_cases e2 : n < a ∧ a ≤ n + N
      · rw [if_pos e2]
        have := hi (a - n - 1) (by omega)
        rw [← had, show n + 1 + (a - n - 1) = a by omega] at this
        exact this
      · rw [if_neg e2]
        have hc := hh0.cell q1 (show a < n by omega)
        exact hc.kept (oq _ hc.lt)
  · unfold mrows
    split
    · exact own_q (by omega)
    · split
      · exact ho
      · exact g3 q q1 (by omega)
  · unfold mrows
    rw [if_neg (by omega), if_neg (by omega)]
    exact g4 q hq
  · unfold mrows
    rw [if_neg (by omega), if_neg (by omega)]
    exact g5 q (by omega)
theorem g_newm {i : Nat} (C : Cx G p R s m args meth c md r) (hd : decode md.2.2.1 pc = .ok (.multianewarray i 2, 4)) (h : s_newm md i pc L st w = nx pc' L' st' w') (hcl : cells + (w'.2.1 - w.2.1) ≤ R.cells) (hsl : slots + (w'.2.2 - w.2.2) ≤ R.slots)
    (k : Wg G p l e R s m args below meth c md pc' L' st' w' (cells + (w'.2.1 - w.2.1)) (slots + (w'.2.2 - w.2.2)) Q) : Wg G p l e R s m args below meth c md pc L st w cells slots Q := by
  obtain ⟨hx, hb, hr, hlk, hml, hown, hnm, hts, hS, hfr, hlo⟩ := C
  unfold s_newm at h
  split at h
  · rename_i kk n rr
    split at h
    · rename_i hc
      obtain ⟨hc1, hc2, hc3, hc4⟩ := hc
      have b1' : cx n * 4 ≤ 536870912 := Nat.le_trans (Nat.mul_le_mul_right 4 hc3) (Nat.le_of_ble_eq_true rfl)
      have b3' : cx kk ≤ 536870912 := Nat.le_trans hc4 (Nat.le_of_ble_eq_true rfl)
      split at h
      · rename_i hn0
        obtain ⟨rfl, rfl, rfl, rfl⟩ := nx_inj h
        have hq1 : cells + (w.2.1 + 1 + cx n - w.2.1) = cells + 1 + cx n := by omega
        have hq2 : slots + (w.2.2 + cx n + cx n * cx kk - w.2.2) = slots + cx n + cx n * cx kk := by omega
        simp only [hq1, hq2] at hcl hsl k
        intro H locs ls a1 b1 d1
        have hlink : Cond.classLink (on md.1) i "[[I" ∈ tbg := nres_ok hn0
        refine w_mna (ty := .int) hx hb hown (hts _ hlink) (over_moved (Vm.Alike.refl s.vm) hS.2.2.2.2.1) (hts _ aw_int) hc1 hc2 b1' ?_ b3' rfl rfl (by show cells + (1 + cx n) ≤ _; omega) (by show slots + (cx n + cx n * cx kk) ≤ _; omega) hd (fun H1 cA comp y1 y2 y3 y4 y5 y6 => ?_)
        · exact Nat.le_trans (Nat.mul_le_mul hc4 (show componentBytes .int ≤ 8 by decide)) (Nat.le_of_ble_eq_true rfl)
        · have hcA : cA = gT G 5 := Option.some.inj (y1.symm.trans (hS.2.1.2 5 _ rfl).2)
          have hco : comp = gT G 0 := Option.some.inj (y2.symm.trans (hS.2.1.2 0 _ rfl).2)
          have := k H1 locs ls a1 (b1.rows (t := 5) (by omega) (by rfl) y3 y4 (by rw [← hcA]; exact y5) (fun j hj => by
            show H1[H.size + 1 + j]? = some (vp_cell (gT G 0) (cx kk, .inl (fun _ => 0)))
            rw [y6 j hj, hco]
            rfl)) (d1.new (by omega) y4)
          rw [List.map_cons] at this
          rw [show shv G (.ref w.2.1) = .ref H.size by show Value.ref (adr G w.2.1) = _; rw [adr_n b1]] at this
          exact this
      · rename_i hn0
        obtain ⟨rfl, rfl, rfl, rfl⟩ := nx_inj h
        have hq1 : cells + (w.2.1 + 1 + cx n - w.2.1) = cells + 1 + cx n := by omega
        have hq2 : slots + (w.2.2 + cx n + cx n * cx kk - w.2.2) = slots + cx n + cx n * cx kk := by omega
        simp only [hq1, hq2] at hcl hsl k
        intro H locs ls a1 b1 d1
        have hlink : Cond.classLink (on md.1) i "[[J" ∈ tbg := nres_ok hn0
        refine w_mna (ty := .long) hx hb hown (hts _ hlink) (over_moved (Vm.Alike.refl s.vm) hS.2.2.2.2.2.1) (hts _ aw_long) hc1 hc2 b1' ?_ b3' rfl rfl (by show cells + (1 + cx n) ≤ _; omega) (by show slots + (cx n + cx n * cx kk) ≤ _; omega) hd (fun H1 cA comp y1 y2 y3 y4 y5 y6 => ?_)
        · exact Nat.le_trans (Nat.mul_le_mul hc4 (show componentBytes .long ≤ 8 by decide)) (Nat.le_of_ble_eq_true rfl)
        · have hcA : cA = gT G 6 := Option.some.inj (y1.symm.trans (hS.2.1.2 6 _ rfl).2)
          have hco : comp = gT G 4 := Option.some.inj (y2.symm.trans (hS.2.1.2 4 _ rfl).2)
          have := k H1 locs ls a1 (b1.rows (t := 6) (by omega) (by rfl) y3 y4 (by rw [← hcA]; exact y5) (fun j hj => by
            show H1[H.size + 1 + j]? = some (vp_cell (gT G 4) (cx kk, .inr (.inl (fun _ => 0))))
            rw [y6 j hj, hco]
            rfl)) (d1.new (by omega) y4)
          rw [List.map_cons] at this
          rw [show shv G (.ref w.2.1) = .ref H.size by show Value.ref (adr G w.2.1) = _; rw [adr_n b1]] at this
          exact this
      · cases h
    · cases h
  · cases h
end NEW
