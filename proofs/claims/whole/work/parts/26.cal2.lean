/-! Calls, by their kinds. -/
theorem ca_inj {a a' : Nat} {b b' : Md} {d d' : List Value} {f f' : Nat} {g g' : List Value} (h : ca a b d f g = ca a' b' d' f' g') : a = a' ∧ b = b' ∧ d = d' ∧ f = f' ∧ g = g' := by
  unfold ca at h
  injection h with h
  injection h with h
  injection h with h
  injection h with h1 h
  injection h with h2 h
  injection h with h3 h
  injection h with h4 h5
  exact ⟨h1, h2, h3, h4, h5⟩
theorem nx_ca {a : Nat} {b d : List Value} {w : Wd} {a' : Nat} {b' : Md} {d' : List Value} {f' : Nat} {g' : List Value} (h : nx a b d w = ca a' b' d' f' g') : False := by
  unfold nx ca at h
  injection h with h
  cases h
section CAL
variable {G : Gl} {p : Program} {l : Launch} {e : Env} {R : Room} {s : State} {m : MethodId} {args : Array Value} {below : List Frame} {meth : Method} {c : Code} {md : Md} {r : Nat} {cells slots : Nat} {Q : State → Prop} {pc : Nat} {L st : List Value} {w : Wd}
theorem g_callV {i : Nat} {lo hi : Nat} (hop : (lo = 0 ∧ hi = 2) ∨ (lo = 4 ∧ hi = 6)) (C : Cx G p R s m args meth c md r) (hd : decode md.2.2.1 pc = .ok (if hi = 2 then .invokevirtual i else .invokespecial i, 3)) {r' : Nat} {md' : Md} {as : List Value} {pc' : Nat} {st' : List Value} (h : s_callV r md i pc st w lo hi = ca r' md' as pc' st') {o : Ot} (hE : Ev G r' md' 0 (ent md'.2.2.2.1 as) [] w o) (hcl : cells + (o.2.2.1 - w.2.1) ≤ R.cells) (hsl : slots + (o.2.2.2 - w.2.2) ≤ R.slots)
    (k : Wg G p l e R s m args below meth c md pc' L (st2 o.1 st') o.2 (cells + (o.2.2.1 - w.2.1)) (slots + (o.2.2.2 - w.2.2)) Q) : Wg G p l e R s m args below meth c md pc L st w cells slots Q := by
  obtain ⟨hx, hb, hr, hlk, hml, hown, hnm, hts, hS, hfr, hlo⟩ := C
  unfold s_callV at h
  split at h
  · rename_i np hnp
    split at h
    · rename_i b rest hdrop
      split at h
      · rename_i kk rr n md'' hcr
        split at h
        · rename_i hc
          obtain ⟨c1, c2, c3, c4, c5, c6, c7, c8, c9, c10⟩ := hc
          obtain ⟨rfl, rfl, rfl, rfl, rfl⟩ := ca_inj h
          subst c3
          obtain ⟨⟨ok1, ok2, ok3⟩, ⟨wc, wi, wm, wp⟩, wk⟩ := cres_ok hcr
          simp only at ok1 ok2 ok3 wc wi wm wp wk
          have hlng : md''.2.2.2.2.2.1 = false → ∀ v ∈ ents (.ref b :: (st.take n).reverse), v.category = 1 := fun hq => by
            rw [hq] at c8
            refine ents_cat _ ?_ ?_
            · have := lng_rev c8
              simpa [lngOk] using this
            · have hl : (Value.ref b :: (st.take n).reverse).length = n + 1 := by
                simp only [List.length_cons, List.length_reverse, List.length_take]
                omega
              rw [hl]; exact c7
          have hM := met_of hE ⟨ok1, ok2, ok3⟩ c9 hlng l
          have hlen : (st.take n).reverse.length = n := by
            simp only [List.length_reverse, List.length_take]
            omega
          have hst : st = (st.take n).reverse.reverse ++ .ref b :: rest := by
            rw [List.reverse_reverse, ← hdrop, List.take_append_drop]
          generalize hAs : (st.take n).reverse = As at *
          intro H locs ls a1 b1 d1
          have hF := hS.2.2.2.2.2.2.2.2.2.1
          have h8 := len8 hF c5
          have hmap : st.map (shv G) = (As.map (shv G)).reverse ++ .ref (adr G b) :: rest.map (shv G) := by
            rw [hst]
            simp only [List.map_append, List.map_reverse, List.map_cons]
            rfl
          have hPre : ∀ U : State, U.heap = H → s.WarmedH U.vm → Pcc G (.ref b :: As) w (Value.ref (adr G b) :: As.map (shv G)).toArray U := fun U hU hW => ⟨rfl, hS.to hW (by rw [hU]; exact d1.1) (fun a q1 q2 => by rw [hU]; exact d1.2.1 a q1 q2), by rw [hU]; exact b1⟩
          have hfr' : (rmr (rkc rr (.ref b :: As)) (o.2.2.1 - w.2.1) (o.2.2.2 - w.2.2)).frames + 1 ≤ R.frames := by show rkc rr (.ref b :: As) + 1 ≤ _; omega
          have hlo' : 8 + (md''.2.2.2.1 + 11) + (rmr (rkc rr (.ref b :: As)) (o.2.2.1 - w.2.1) (o.2.2.2 - w.2.2)).locals ≤ R.locals := by
            show 8 + (md''.2.2.2.1 + 11) + 64 * rkc rr (.ref b :: As) ≤ _
            omega
          have hpay := pay_tbg (args := args) hts md'' wc
          have hwl : (As.map (shv G)).length = n := by rw [List.length_map]; exact hlen
          have hsz : (F0 m pc ls (st.map (shv G))).locals.size = md.2.2.2.1 := a1.1
          have hplen : ∀ sig, parseMethodDescriptor md''.2.1.desc = some sig → n = sig.parameters.length := fun sig hsig => by
            rw [hsig] at wp
            exact (Option.some.inj wp).symm
          have hmon : 2 * (F0 m pc ls (st.map (shv G))).monitorRoom + ((rest.map (shv G)).map fun v => v.category).sum ≤ 8 := lv_room h8
          have hfin : va_Run p l e R s m args below meth c H locs cells slots (o.2.2.1 - w.2.1) (o.2.2.2 - w.2.2) (F0 m pc ls (st.map (shv G))) (rest.map (shv G)) (Qcc G o (Value.ref (adr G b) :: As.map (shv G)).toArray) (gA G) → W p l e R s m args below meth c H locs cells slots Q (F0 m pc ls (st.map (shv G))) := fun hrun =>
            run_W hrun d1 (fun H1 locs1 x1 x2 => by
              have := k H1 locs1 ls a1 x1 x2
              rw [vst_app] at this
              exact this)
          rcases wk with ⟨rfl, q1, q2, q3⟩ | ⟨hk12, x, ow, b0, m0, r0, q1, q2, q3, q4, q5, q6, q7, q8⟩ | ⟨rfl, q1, q2⟩ | ⟨rfl, q1, q2, q3⟩ | ⟨rfl, q1, q2, q3⟩ | ⟨rfl, x, q1, q2, q3, q4, q5, q6, q7⟩
          · have hhi : hi = 2 := by omega
            subst hhi
            rw [if_pos rfl] at hd hcr q3
            have hrc := ctl_rc _ (cres_mem hcr)
            refine hfin (va_runV (Ts := tbg) (C := on (cls (w.1 b))) ⟨hx, hb, hml, hown, hts⟩ hM ⟨⟨rfl, rfl, hfr', hlo', hpay, List.mem_cons_self, hts _ wc, hts _ wi, wm, hplen, hts _ q1⟩, hts _ q2, hts _ q3⟩ ⟨blind_P _ _, recv_at hS b1 d1 rfl hrc, hPre⟩ rfl hwl hsz hmap hmon hd ⟨hcl, hsl⟩)
          · have hhi : hi = 2 := by omega
            subst hhi
            rw [if_pos rfl] at hd hcr q5
            have hrc := ctl_rc _ (cres_mem hcr)
            refine hfin (va_runU (Ts := tbg) (C := on (cls (w.1 b))) (x := x) (owner := ow) ⟨hx, hb, hml, hown, hts⟩ hM ⟨⟨rfl, rfl, hfr', hlo', hpay, List.mem_cons_self⟩, hts _ wc, hts _ wi, q7, (fun sig hsig => by rw [hsig] at q8; exact (Option.some.inj q8).symm), hts _ q1, hts _ q2, va_Decl.of (hts _ q3) (hts _ q4), hts _ q5, hts _ q6⟩ ⟨blind_P _ _, recv_at hS b1 d1 rfl hrc, hPre⟩ rfl hwl hsz hmap hmon hd ⟨hcl, hsl⟩)
          · omega
          · have hhi : hi = 6 := by omega
            subst hhi
            rw [if_neg (by decide)] at hd
            have hret : md''.2.2.2.2.1 = none := ctl_in _ (cres_mem hcr) (Or.inl rfl)
            refine hfin (va_runI (Ts := tbg) (bytes := md''.2.2.1) (maxL := md''.2.2.2.1) ⟨hx, hb, hml, hown, hts⟩ hM ⟨⟨rfl, rfl, hfr', hlo', hpay, by rw [← hret]; exact List.mem_cons_self, by rw [← hret]; exact hts _ wc, hts _ wi, wm, hplen, hts _ q1⟩, q3, hts _ q2⟩ ⟨blind_P _ _, hPre⟩ rfl hwl hsz hmap hmon hd ⟨hcl, hsl⟩)
          · have hhi : hi = 6 := by omega
            subst hhi
            rw [if_neg (by decide)] at hd
            have hret : md''.2.2.2.2.1 = none := ctl_in _ (cres_mem hcr) (Or.inr rfl)
            refine hfin (va_runIN (Ts := tbg) (bytes := md''.2.2.1) (maxL := md''.2.2.2.1) (host := RX11) ⟨hx, hb, hml, hown, hts⟩ hM ⟨⟨⟨rfl, rfl, hfr', hlo', hpay, by rw [← hret]; exact List.mem_cons_self⟩, by rw [← hret]; exact hts _ wc, hts _ wi, wm, hplen, va_Nw.use rfl (hS.2.2.1 _ q1)⟩, q3, hts _ q2⟩ ⟨blind_P _ _, hPre⟩ rfl hwl hsz hmap hmon hd ⟨hcl, hsl⟩)
          · have hhi : hi = 6 := by omega
            subst hhi
            rw [if_neg (by decide)] at hd
            have hrc := c10 rfl
            obtain ⟨f, hf⟩ := cls_ob (c := w.1 b) rfl (by omega)
            obtain ⟨g1, g2⟩ := b1.own (a := b) (by rw [hf]; exact own_o hrc)
            have hat := b1.cell g1 g2
            rw [hf] at hat
            obtain ⟨qq, hq, cellB, y1, y2, y3, -⟩ := hat
            obtain ⟨-, hfc, kC, hkC, -⟩ := hS.2.1.1 (cls (w.1 b)) qq hq
            refine hfin (sup_run (x := x) hx hb hml hown hM rfl rfl hfr' hlo' hpay List.mem_cons_self (hts _ q1) (hts _ q2) (hts _ q3) q4 (hts _ q5) (hts _ wi) (hts _ wc) q6 (q7.imp id (fun z => hts _ z)) wp (blind_P _ _) y1 (by rw [y3]; rfl) (by rw [y2]; exact hkC) hPre rfl hwl hsz hmap hmon hd ⟨hcl, hsl⟩)
        · cases h
      · cases h
    · cases h
  · cases h
theorem g_callS {i : Nat} (C : Cx G p R s m args meth c md r) (hd : decode md.2.2.1 pc = .ok (.invokestatic i, 3)) {r' : Nat} {md' : Md} {as : List Value} {pc' : Nat} {st' : List Value} (h : s_callS r md i pc st w = ca r' md' as pc' st') {o : Ot} (hE : Ev G r' md' 0 (ent md'.2.2.2.1 as) [] w o) (hcl : cells + (o.2.2.1 - w.2.1) ≤ R.cells) (hsl : slots + (o.2.2.2 - w.2.2) ≤ R.slots)
    (k : Wg G p l e R s m args below meth c md pc' L (st2 o.1 st') o.2 (cells + (o.2.2.1 - w.2.1)) (slots + (o.2.2.2 - w.2.2)) Q) : Wg G p l e R s m args below meth c md pc L st w cells slots Q := by
  obtain ⟨hx, hb, hr, hlk, hml, hown, hnm, hts, hS, hfr, hlo⟩ := C
  unfold s_callS at h
  split at h
  · rename_i np kk rr n md'' hnp hcr
    split at h
    · rename_i hc
      obtain ⟨c1, c3, c4, c5, c6, c7, c8, c9⟩ := hc
      obtain ⟨rfl, rfl, rfl, rfl, rfl⟩ := ca_inj h
      subst c3
      obtain ⟨⟨ok1, ok2, ok3⟩, ⟨wc, wi, wm, wp⟩, wk⟩ := cres_ok hcr
      simp only at ok1 ok2 ok3 wc wi wm wp wk
      have hlng : md''.2.2.2.2.2.1 = false → ∀ v ∈ ents (st.take n).reverse, v.category = 1 := fun hq => by
        rw [hq] at c8
        refine ents_cat _ (lng_rev c8) ?_
        have hl : (st.take n).reverse.length = n := by
          simp only [List.length_reverse, List.length_take]
          omega
        rw [hl]; exact c7
      have hM := met_of hE ⟨ok1, ok2, ok3⟩ c9 hlng l
      have hlen : (st.take n).reverse.length = n := by
        simp only [List.length_reverse, List.length_take]
        omega
      have hst : st = (st.take n).reverse.reverse ++ st.drop n := by
        rw [List.reverse_reverse, List.take_append_drop]
      generalize hAs : (st.take n).reverse = As at *
      generalize hRe : st.drop n = rest at *
      intro H locs ls a1 b1 d1
      have hF := hS.2.2.2.2.2.2.2.2.2.1
      have h8 := len8 hF c5
      have hmap : st.map (shv G) = (As.map (shv G)).reverse ++ rest.map (shv G) := by
        rw [hst]
        simp only [List.map_append, List.map_reverse]
      have hPre : ∀ U : State, U.heap = H → s.WarmedH U.vm → Pcc G As w (As.map (shv G)).toArray U := fun U hU hW => ⟨rfl, hS.to hW (by rw [hU]; exact d1.1) (fun a q1 q2 => by rw [hU]; exact d1.2.1 a q1 q2), by rw [hU]; exact b1⟩
      have hfr' : (rmr (rkc rr As) (o.2.2.1 - w.2.1) (o.2.2.2 - w.2.2)).frames + 1 ≤ R.frames := by show rkc rr As + 1 ≤ _; omega
      have hlo' : 8 + (md''.2.2.2.1 + 11) + (rmr (rkc rr As) (o.2.2.1 - w.2.1) (o.2.2.2 - w.2.2)).locals ≤ R.locals := by
        show 8 + (md''.2.2.2.1 + 11) + 64 * rkc rr As ≤ _
        omega
      have hpay := pay_tbg (args := args) hts md'' wc
      have hwl : (As.map (shv G)).length = n := by rw [List.length_map]; exact hlen
      have hsz : (F0 m pc ls (st.map (shv G))).locals.size = md.2.2.2.1 := a1.1
      have hplen : ∀ sig, parseMethodDescriptor md''.2.1.desc = some sig → n = sig.parameters.length := fun sig hsig => by
        rw [hsig] at wp
        exact (Option.some.inj wp).symm
      have hmon : 2 * (F0 m pc ls (st.map (shv G))).monitorRoom + ((rest.map (shv G)).map fun v => v.category).sum ≤ 8 := lv_room h8
      rcases wk with ⟨q0, -⟩ | ⟨q0, -⟩ | ⟨-, q1, q2⟩ | ⟨q0, -⟩ | ⟨q0, -⟩ | ⟨q0, -⟩
      · omega
      · omega
      · refine run_W (va_runS (Ts := tbg) ⟨hx, hb, hml, hown, hts⟩ hM ⟨⟨rfl, rfl, hfr', hlo', hpay, List.mem_cons_self, hts _ wc, hts _ wi, wm, hplen, hts _ q1⟩, hts _ q2⟩ ⟨blind_P _ _, hPre⟩ rfl hwl hsz hmap hmon hd ⟨hcl, hsl⟩) d1 (fun H1 locs1 x1 x2 => ?_)
        have := k H1 locs1 ls a1 x1 x2
        rw [vst_app] at this
        exact this
      · omega
      · omega
      · omega
    · cases h
  · cases h
end CAL
