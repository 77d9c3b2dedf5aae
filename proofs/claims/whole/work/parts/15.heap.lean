/-! One step of the pure machine is a step of the JVM: fields and arrays. -/
theorem kd_i {c : Cl} {t : Nat} (h : kd c = t) (ht : t < 4 ∨ t = 10 ∨ t = 11) : ∃ (n : Nat) (f : Nat → Int32), c = iA t n f := by
  obtain ⟨t', n, f | f | f | f | f⟩ | ⟨ci, f⟩ := c
  · simp only [kd] at h
    split at h
    · subst h; exact ⟨n, f, rfl⟩
    · omega
  · simp only [kd] at h
    split at h <;> omega
  · simp only [kd] at h; omega
  · simp only [kd] at h; omega
  · simp only [kd] at h
    split at h <;> omega
  · simp only [kd] at h; omega
theorem kd_j {c : Cl} (h : kd c = 4) : ∃ (n : Nat) (f : Nat → Int64), c = jA n f := by
  obtain ⟨t', n, f | f | f | f | f⟩ | ⟨ci, f⟩ := c
  · simp only [kd] at h
    split at h <;> omega
  · simp only [kd] at h
    split at h
    · rename_i e; subst e; exact ⟨n, f, rfl⟩
    · omega
  · simp only [kd] at h; omega
  · simp only [kd] at h; omega
  · simp only [kd] at h
    split at h <;> omega
  · simp only [kd] at h; omega
theorem kd_q {c : Cl} {t : Nat} (h : kd c = t) (ht : t = 5 ∨ t = 6 ∨ t = 7) : ∃ (n : Nat) (f : Nat → Option Nat), c = rA t n f := by
  obtain ⟨t', n, f | f | f | f | f⟩ | ⟨ci, f⟩ := c
  · simp only [kd] at h
    split at h <;> omega
  · simp only [kd] at h
    split at h <;> omega
  · simp only [kd] at h; omega
  · simp only [kd] at h; omega
  · simp only [kd] at h
    split at h
    · subst h; exact ⟨n, f, rfl⟩
    · omega
  · simp only [kd] at h; omega
theorem cls_ob {c : Cl} {ci : Nat} (h : cls c = ci) (hc : ci ≠ 99) : ∃ f : Nat → Value, c = .inr (ci, f) := by
  obtain x | ⟨ci', f⟩ := c
  · exact absurd h.symm hc
  · cases h; exact ⟨f, rfl⟩
theorem own_i {t n : Nat} {f : Nat → Int32} (h : t < 4) : ownc (iA t n f) = true := by
  have e : kd (iA t n f) = t := if_pos (Or.inl h)
  exact decide_eq_true (show kd (iA t n f) < 8 by omega)
theorem own_j {n : Nat} {f : Nat → Int64} : ownc (jA n f) = true := rfl
theorem own_q {t n : Nat} {f : Nat → Option Nat} (h : t = 5 ∨ t = 6 ∨ t = 7) : ownc (rA t n f) = true := by
  have e : kd (rA t n f) = t := if_pos h
  exact decide_eq_true (show kd (rA t n f) < 8 by omega)
theorem own_o {ci : Nat} {f : Nat → Value} (h : ci < 13) : ownc (.inr (ci, f)) = true := decide_eq_true h
theorem ix_in {i : Int32} {n : Nat} (h : ix i n = true) : vp_in i n := of_decide_eq_true (p := ¬ (i < 0 ∨ n ≤ i.toNatClampNeg)) h
theorem adr_own {G : Gl} {a : Nat} (h : 16 ≤ a) : gA G (adr G a) := by
  unfold adr gA
  rw [if_neg (by omega)]
  exact Nat.le_add_right _ _
theorem HpG.put {G : Gl} {h : Nat → Cl} {n a : Nat} {H H1 : Heap} {c' : Cl} (hh : HpG G h n H) (h1 : 16 ≤ a) (h2 : a < n) (ho : ownc c' = true) (z : H1.size = H.size) (oq : ∀ q : Nat, q ≠ adr G a → H1[q]? = H[q]?) (he : va_at (gD G) kcl (adr G a, enc G c') H1) : HpG G (uph h a c') n H1 := by
  obtain ⟨g0, g1, g2, g3, g4, g5⟩ := hh
  refine ⟨g0, by rw [z]; exact g1, ?_, fun q q1 q2 => ?_, fun q hq => ?_, fun q hq => ?_⟩
  · rw [← wl_set h1 h2]
    exact g2.set (wl_D (G := G)) (wl_at h1 h2) he oq
  · unfold uph
    split
    · exact ho
    · exact g3 q q1 q2
  · unfold uph
    rw [if_neg (by omega)]
    exact g4 q hq
  · unfold uph
    rw [if_neg (by omega)]
    exact g5 q hq
theorem HpG.cell {G : Gl} {h : Nat → Cl} {n a : Nat} {H : Heap} (hh : HpG G h n H) (h1 : 16 ≤ a) (h2 : a < n) : va_at (gD G) kcl (adr G a, enc G (h a)) H := hh.2.2.1 _ _ (wl_at h1 h2)
theorem updV_int (f : Nat → Int32) (k : Nat) (x : Int32) : updV (fun j => Value.int (f j)) k (.int x) = fun j => .int (upd f k x j) := by
  funext j
  by_cases e : j = k
  · subst e; simp [updV, upd]
  · simp [updV, upd, e]
theorem updV_long (f : Nat → Int64) (k : Nat) (x : Int64) : updV (fun j => Value.long (f j)) k (.long x) = fun j => .long (vp_updL f k x j) := by
  funext j
  by_cases e : j = k
  · subst e; simp [updV, vp_updL]
  · simp [updV, vp_updL, e]
theorem updV_ref (G : Gl) (f : Nat → Option Nat) (k : Nat) (x : Nat) : updV (fun j => va_rf ((f j).map (adr G))) k (.ref (adr G x)) = fun j => va_rf ((va_up f k (some x) j).map (adr G)) := by
  funext j
  by_cases e : j = k
  · subst e; simp [updV, va_up, va_rf]
  · simp [updV, va_up, e]
section HEAP
variable {G : Gl} {p : Program} {l : Launch} {e : Env} {R : Room} {s : State} {m : MethodId} {args : Array Value} {below : List Frame} {meth : Method} {c : Code} {md : Md} {r : Nat} {cells slots : Nat} {Q : State → Prop} {pc pc' : Nat} {L L' st st' : List Value} {w w' : Wd}
theorem pcl_text {a : Nat} (ha : a < 10) (hc : cls (pcl G a) = 20) : ∃ i, i < 4 ∧ a = 2 + i ∧ pcl G a = ob 20 (fun k => if k = 0 then .ref (a + 4) else .int 0) := by
  unfold pcl at hc ⊢
  by_cases h0 : a = 0
  · rw [if_pos h0] at hc; cases hc
  · rw [if_neg h0] at hc ⊢
    by_cases h1 : a = 1
    · rw [if_pos h1] at hc; cases hc
    · rw [if_neg h1] at hc ⊢
      by_cases h6 : a < 6
      · rw [if_pos h6]
        exact ⟨a - 2, by omega, by omega, rfl⟩
      · rw [if_neg h6] at hc; cases hc
theorem g_get {i : Nat} (C : Cx G p R s m args meth c md r) (hd : decode md.2.2.1 pc = .ok (.getfield i, 3)) (h : s_get md i pc L st w = nx pc' L' st' w') (k : Wg G p l e R s m args below meth c md pc' L' st' w' cells slots Q) : Wg G p l e R s m args below meth c md pc L st w cells slots Q := by
  obtain ⟨hx, hb, hr, hlk, hml, hown, hnm, hts, hS, hfr, hlo⟩ := C
  unfold s_get at h
  split at h
  · rename_i a rr ci kf hf
    by_cases hc : cls (w.1 a) = ci ∧ (kf < fnum ci ∨ ci = 20)
    · rw [if_pos hc] at h
      obtain ⟨rfl, rfl, rfl, rfl⟩ := nx_inj h
      intro H locs ls a1 b1 d1
      have z := k H locs ls a1 b1 d1
      rw [List.map_cons] at z
      show W p l e R s m args below meth c H locs cells slots Q (F0 m pc ls (.ref (adr G a) :: rr.map (shv G)))
      rcases fres_ok hf with ⟨h20, ho, hk⟩ | ⟨h13, q, hq1, hq2, hq3⟩
      · simp only at h20 ho hk
        obtain ⟨f, hcf⟩ := cls_ob hc.1 (by omega)
        have hno : ownc (w.1 a) = false := by rw [hcf, h20]; rfl
        have hne : w.1 a ≠ em := by
          rw [hcf, h20]
          intro q
          have := congrArg cls q
          simp [cls, em] at this
        obtain ⟨ha, hpc⟩ := b1.pre hno hne
        obtain ⟨j, hj, haj, hpo⟩ := pcl_text (G := G) ha (by rw [← hpc, hc.1, h20])
        have had : adr G a = gP G (2 + j) := by unfold adr; rw [if_pos (by omega), haj]
        obtain ⟨-, -, -, -, -, -, -, -, -, -, -, -, sV, -⟩ := hS
        have hv := sV.1 j hj
        rw [had]
        rcases hk with ⟨hi, hk0⟩ | ⟨hi, hk1⟩
        · have e1 : shv G (fv (w.1 a) kf) = .ref (gP G (6 + j)) := by
            rw [hpc, hpo, hk0]
            show Value.ref (adr G (a + 4)) = _
            unfold adr
            rw [if_pos (by omega)]
            congr 2
            omega
          rw [e1] at z
          exact vk_getf hx hb hv.2.2.1 d1 hown (by rw [ho, hi]; exact hts _ xw_9) (fun _ z => z) hd z
        · have e1 : shv G (fv (w.1 a) kf) = .int 0 := by
            rw [hpc, hpo, hk1]; rfl
          rw [e1] at z
          exact vk_getf hx hb hv.2.1 d1 hown (by rw [ho, hi]; exact hts _ xw_15) (fun _ z => z) hd z
      · simp only at h13 hq1 hq2 hq3
        obtain ⟨f, hcf⟩ := cls_ob hc.1 (by omega)
        obtain ⟨g1, g2⟩ := b1.own (by rw [hcf]; exact own_o h13)
        obtain ⟨q', e1, e2, e3, e4, e5, e6, e7, -, -⟩ := kw ci h13
        cases hq1.symm.trans e1
        have he := wl_at (G := G) (h := w.1) g1 g2
        rw [hcf] at he
        rw [show fv (w.1 a) kf = f kf by rw [hcf]; rfl] at z
        obtain ⟨C0, T0, N0⟩ := q
        exact va_get (C := C0) (T := T0) (N := N0) hx hb hts e5 hown hS.2.1 b1.2.2.1 (a - 16) he hq1 kf hq2 (hts _ hq3) (fun _ z => z) (by
          rw [List.getElem?_map, List.getElem?_range (by rw [← e2]; exact hq2)]
          rfl) hd z
    · rw [if_neg hc] at h; cases h
  · cases h
/-- a field of ours, found -/
theorem put_at {ci kf a : Nat} {f : Nat → Value} {q : vw_C} {H1 : Heap} {cell : Cell} {v : Value} (hq : kcl[ci]? = some q) (hN : q.2.2 = fnum ci) (hap : ∀ x y, x < q.2.2 → y < q.2.2 → x ≠ y → (gD G).2 ci x ≠ (gD G).2 ci y) (hk : kf < q.2.2)
    (q2 : cell.cls = (gD G).1 ci) (q3 : cell.vm = .none) (q4 : ∀ j, j < q.2.2 → cell.slots[(gD G).2 ci j]? = some (vp_V ((List.range (fnum ci)).map (fun k => shv G (f k))) j)) (e1 : H1[adr G a]? = some (cell.setSlot ((gD G).2 ci kf) (shv G v))) : va_at (gD G) kcl (adr G a, enc G (.inr (ci, updV f kf v))) H1 := by
  refine ⟨q, hq, _, e1, q2, q3, fun j hj => ?_⟩
  rw [t_set q4 hap hk (shv G v) j hj]
  congr 1
  have hj' : j < fnum ci := by rw [← hN]; exact hj
  have hv : ∀ g : Nat → Value, vp_V ((List.range (fnum ci)).map (fun k => shv G (g k))) j = shv G (g j) := fun g => by
    unfold vp_V
    rw [List.getD_eq_getElem?_getD, List.getElem?_map, List.getElem?_range hj']
    rfl
  unfold updV
  split
  · rename_i hjk
    subst hjk
    rw [hv (fun j' => if j' = j then v else f j'), if_pos rfl]
  · rename_i hjk
    rw [hv f, hv (fun j => if j = kf then v else f j), if_neg hjk]
theorem shv_nar {t : FieldType} {v : Value} (hF : gF G = .null ∨ ∃ q, gF G = .ref q) (h1 : narrow t v = v) (h2 : fits t v = true) : narrow t (shv G v) = shv G v ∧ fits t (shv G v) = true := by
  cases v with
  | ref a => cases t <;> first | (cases h2; done) | exact ⟨rfl, rfl⟩
  | retAddr a => cases t <;> cases h2
  | _ => exact ⟨h1, h2⟩
theorem g_put {i : Nat} (C : Cx G p R s m args meth c md r) (hd : decode md.2.2.1 pc = .ok (.putfield i, 3)) (h : s_put md i pc L st w = nx pc' L' st' w') (k : Wg G p l e R s m args below meth c md pc' L' st' w' cells slots Q) : Wg G p l e R s m args below meth c md pc L st w cells slots Q := by
  obtain ⟨hx, hb, hr, hlk, hml, hown, hnm, hts, hS, hfr, hlo⟩ := C
  unfold s_put at h
  split at h
  · rename_i v a rr ci kf hf
    split at h
    · rename_i hc
      obtain ⟨hc1, hc2, hc3, hc4, hc5⟩ := hc
      obtain ⟨rfl, rfl, rfl, rfl⟩ := nx_inj h
      intro H locs ls a1 b1 d1
      show W p l e R s m args below meth c H locs cells slots Q (F0 m pc ls (shv G v :: .ref (adr G a) :: rr.map (shv G)))
      have hF := hS.2.2.2.2.2.2.2.2.2.1
      rcases fres_ok hf with ⟨h20, ho, hk⟩ | ⟨h13, q, hq1, hq2, hq3⟩
      · simp only at h20
        rw [h20] at hc2
        exact absurd hc2 (Nat.not_lt_zero _)
      · simp only at h13 hq1 hq2 hq3
        obtain ⟨f, hcf⟩ := cls_ob hc1 (by omega)
        obtain ⟨g1, g2⟩ := b1.own (by rw [hcf]; exact own_o h13)
        obtain ⟨q', e1, e2, e3, e4, e5, e6, e7, -, -⟩ := kw ci h13
        cases hq1.symm.trans e1
        have hat := b1.cell g1 g2
        rw [hcf] at hat
        obtain ⟨q'', hq1', cell, c1, c2, c3, c4⟩ := hat
        cases hq1.symm.trans hq1'
        obtain ⟨hn, hft⟩ := shv_nar hF hc3 hc4
        have hap := va_apart (own := on md.1) hts e5 (fty ci) e3 e4 hS.2.1 hq1
        obtain ⟨hSl, hfc, kC, hkC, hkind⟩ := hS.2.1.1 ci _ hq1
        obtain ⟨cf, kf', fi, fd, hi, hsl⟩ := hSl kf hq2
        have hlay := hts _ (e5 _ (u_in_lay hq2))
        unfold u_lay at hlay
        have hst := (u_facts hfc hkC (u_lays hts e5 hq2) hi).1
        have hout : ∀ H1 : Heap, H1[adr G a]? = some (cell.setSlot fd.slot (shv G v)) → H1.size = H.size → (∀ q : Nat, q ≠ adr G a → H1[q]? = H[q]?) → W p l e R s m args below meth c H1 (locs ++ [⟨adr G a, fd.slot⟩]) cells slots Q (F0 m (pc + 3) ls (rr.map (shv G))) := by
          intro H1 x1 x2 x3
          rw [hsl] at x1
          have hst' : stf (w.1 a) kf v = .inr (ci, updV f kf v) := by rw [hcf]; rfl
          refine k H1 _ ls a1 ?_ (d1.put x2 x3 (adr_own g1))
          rw [hst']
          exact b1.put g1 g2 (own_o h13) x2 x3 (put_at hq1 e2 hap hq2 c2 c3 c4 x1)
        by_cases hfin : (q.2.1 kf).2.2.2 = true
        · rw [if_pos hfin] at hlay
          have hff : ffin ci kf = true := by unfold ffin; rw [hq1]; exact hfin
          obtain ⟨hin1, hin2⟩ := hc5 hff
          have hcf' : m.cls = cf := by
            obtain ⟨_, _, c', _, _, _, -, -, hf', -, -, -, hown2, -⟩ := Cond.laysFinal_spec hlay
            have x1 : c' = cf := by have := hi.symm.trans hf'; simp at this; exact this.1.symm
            rw [e6 kf hq2, e7, ← hin2] at hown2
            rw [← x1]; exact Option.some.inj (hown.symm.trans hown2)
          refine W.putFinK hx hb hown (hts _ hq3) hi hst hcf' (by rw [hnm]; exact hin1) (by rw [c2]; exact u_fits hfc hkC hkind (Or.inr hlay) hi (e3 kf hq2) hn hft) c1 c3 (by rw [hsl]; exact k2_hasslot (c4 kf hq2)) rfl rfl hd hout
        · rw [if_neg hfin] at hlay
          refine W.putK hx hb (f := fd) ⟨hown, hts _ hq3, ⟨_, _, _, hi⟩, hst⟩ (by rw [c2]; exact u_store hfc hkC hkind hlay hi (e3 kf hq2) hn hft) c1 c3 (by rw [hsl]; exact k2_hasslot (c4 kf hq2)) rfl rfl hd hout
    · cases h
  · cases h
end HEAP
