/-! A call in the pure machine is a call of the JVM, by the callee's contract. -/
set_option maxRecDepth 100000 in
theorem ctl_rc : ∀ e ∈ ctl, e.2.2.1 < 13 ∨ e.2.2.1 = 20 := by decide +kernel
set_option maxRecDepth 100000 in
theorem ctl_in : ∀ e ∈ ctl, (e.2.2.2.1 = 4 ∨ e.2.2.2.1 = 5) → e.2.2.2.2.2.2.2.2.2.2.1 = none := by decide +kernel
theorem cres_mem {o i rc : Nat} {q : Nat × Nat × Nat × Md} (h : cres o i rc = some q) : (o, i, rc, q) ∈ ctl := by
  unfold cres at h
  cases hf : ctl.find? (fun e => e.1 == o && e.2.1 == i && e.2.2.1 == rc) with
  | none => rw [hf] at h; cases h
  | some e =>
    rw [hf] at h
    have h1 := List.find?_some hf
    have h2 := List.mem_of_find?_eq_some hf
    simp only [Bool.and_eq_true, beq_iff_eq] at h1
    obtain ⟨a, b, d, f⟩ := e
    simp only [Option.map_some, Option.some.injEq] at h
    simp only at h1
    obtain ⟨⟨rfl, rfl⟩, rfl⟩ := h1
    subst h
    exact h2
theorem vst_app (G : Gl) (v : Option Value) (rest : List Value) : (st2 v rest).map (shv G) = (v.map (shv G)).toList ++ rest.map (shv G) := by
  cases v <;> rfl
section CALL
variable {G : Gl} {p : Program} {l : Launch} {e : Env} {R : Room} {s : State} {m : MethodId} {args : Array Value} {below : List Frame} {meth : Method} {c : Code} {md : Md} {r : Nat} {cells slots : Nat} {Q : State → Prop} {pc : Nat} {L st : List Value} {w : Wd}
theorem run_W {H : Heap} {locs : List Loc} {ls : Array Slot} {st0 rest : List Value} {o : Ot} {mc ms : Nat} {a : Array Value} (hr : va_Run p l e R s m args below meth c H locs cells slots mc ms (F0 m pc ls st0) rest (Qcc G o a) (gA G)) (hS : va_S (gA G) s.heap H locs)
    (kk : ∀ (H1 : Heap) (locs1 : List Loc), HpG G o.2.1 o.2.2.1 H1 → va_S (gA G) s.heap H1 locs1 → W p l e R s m args below meth c H1 locs1 (cells + mc) (slots + ms) Q (F0 m (pc + 3) ls ((o.1.map (shv G)).toList ++ rest))) : W p l e R s m args below meth c H locs cells slots Q (F0 m pc ls st0) := by
  intro T hT X
  obtain ⟨v, st₀, t, T', L', h0, X', hL, e1, e2, ⟨hv, hp, hz, hk⟩, st⟩ := hr T hT X
  cases hv
  rw [h0] at hz hk
  obtain ⟨t2, a1, b1⟩ := kk T'.heap (locs ++ L') (by rw [e1]; exact hp)
    ⟨Nat.le_trans hS.1 (by rw [e1]; exact hz), fun q h1 h2 => by rw [e1, hk q (Nat.lt_of_lt_of_le h1 hS.1) h2]; exact hS.2.1 q h1 h2, fun q hq => by
      rcases List.mem_append.mp hq with h | h
      · exact hS.2.2 q h
      · exact hL q h⟩ T' rfl X'
  exact ⟨t2, st t2 a1, b1⟩
theorem blind_P (as : List Value) (w : Wd) : FrameBlind (Pcc G as w) := fun _ _ _ _ h => ⟨h.1, h.2.1.same rfl rfl, h.2.2⟩
theorem pay_tbg (hts : ∀ w ∈ tbg, w.before args s = true) (md' : Md) (hc : Cond.code md'.2.1 md'.2.2.1 md'.2.2.2.1 md'.2.2.2.2.1 ∈ tbg) : ∀ w ∈ wsm md', ∀ (a' : Array Value) (U : State), s.WarmedH U.vm → w.before a' U = true := by
  intro w hw a' U hW
  have hin : w ∈ tbg := by
    rcases List.mem_cons.mp hw with h | h
    · rw [h]; exact hc
    · exact h
  exact word_at hW (good_of_word (List.mem_filter.mp hin).2) (hts w hin)
/-- a super call: the method is the superclass's own, or one that it has from above -/
theorem sup_run {H : Heap} {locs : List Loc} {x y : MethodName} {bytes cc : ByteArray} {maxL nL mc ms n index : Nat} {ret : Option FieldType} {ws : List Cond} {rm : Room} {Pc : Array Value → State → Prop} {Qc : Array Value → State → Outcome → State → Prop} {free : Addr → Prop} {own : String} {b : Addr} {As rest : List Value} {g : JFrame}
    (hx : p.tables.exec = Jvm.exec) (hb : c.code = cc) (hml : c.maxLocals = nL) (hown : s.vm.findClass own = some m.cls) (hM : Met l y ws rm Pc Qc mc ms free) (hrc : rm.cells = mc) (hrs : rm.slots = ms) (hfr : rm.frames + 1 ≤ R.frames) (hlo : 8 + (maxL + 11) + rm.locals ≤ R.locals) (hws : ∀ w ∈ ws, ∀ (a' : Array Value) (U : State), s.WarmedH U.vm → w.before a' U = true) (hcw : Cond.code y bytes maxL ret ∈ ws)
    (hl1 : (Cond.methodLink own index x).before args s = true) (hl2 : (Cond.sameMethod x.cls y.cls x.name x.desc).before args s = true) (hl3 : (Cond.superclass own x.cls).before args s = true) (hxy : y = ⟨y.cls, x.name, x.desc⟩) (hl4 : (Cond.instanceMethod y).before args s = true) (hini : (Cond.initialized y.cls).before args s = true) (hcode : (Cond.code y bytes maxL ret).before args s = true) (hno : y.name ≠ "<init>") (hup : x.cls = y.cls ∨ (Cond.superclass x.cls y.cls).before args s = true)
    (hlen : (parseMethodDescriptor y.desc).map (fun d => d.parameters.length) = some n) (hbl : FrameBlind Pc) {cellB : Cell} {kB : Class} (hcB : H[b]? = some cellB) (hoB : cellB.vm.isStatics = false) (hkB : s.vm.classes[cellB.cls]? = some kB) (hPc : ∀ U : State, U.heap = H → s.WarmedH U.vm → Pc (Value.ref b :: As).toArray U)
    (hg : g.method = m) (hn : As.length = n) (hsize : g.locals.size = nL) (hstack : g.stack = As.reverse ++ .ref b :: rest) (hW : 2 * g.monitorRoom + (rest.map fun v => v.category).sum ≤ 8) (hdg : decode cc g.pc = .ok (.invokespecial index, 3)) (hf : cells + mc ≤ R.cells ∧ slots + ms ≤ R.slots) :
    va_Run p l e R s m args below meth c H locs cells slots mc ms g rest (Qc (Value.ref b :: As).toArray) free := by
  have hK : Back l R p e below s args y 3 8 (PreOf R mc ms Pc) (PostOf Qc mc ms free) := back_of (bytes := bytes) (maxL := maxL) (ret := ret) hM hbl hrc hrs hfr hlo hws hcw (fun a' U hW => word_at hW (Or.inl (by first | rfl | simp [Cond.onTables, Cond.keeps, Cond.steady])) hini)
  intro T hT X
  obtain ⟨mk, methM, hnamed, hmethM, hstM, habM⟩ := Cond.instanceMethod_spec hl4
  obtain ⟨methM', cM, hmethM', -, -, -, -, -, -, hsigM⟩ := Cond.code_spec hnamed hcode
  cases hmethM.symm.trans hmethM'
  obtain ⟨ps, dk, kp, hps, hdk, hkp, hsuper, -, -, hnid⟩ := Cond.superclass_spec hown hl3
  have hn0 : s.methodNamed? ⟨y.cls, x.name, x.desc⟩ = some mk := by rw [← hxy]; exact hnamed
  have hmk : s.vm.findClass y.cls = some mk.cls := findClass_of_methodNamed hnamed
  have hsub : s.vm.isSubclass ps mk.cls = true := by
    rcases hup with he | he
    · have hpm : ps = mk.cls := Option.some.inj (hps.symm.trans (by rw [he]; exact hmk))
      rw [hpm]; simp [Vm.isSubclass, Vm.isSubclassAux]
    · obtain ⟨q, k1, kq, h1, h2, h3, h4, -⟩ := Cond.superclass_spec hps he
      have hq : q = mk.cls := Option.some.inj (h1.symm.trans hmk)
      subst hq
      have hsz : ∃ z, s.vm.classes.size = z + 1 := by
        have := (Array.getElem?_eq_some_iff.mp h2).1
        exact ⟨s.vm.classes.size - 1, by omega⟩
      obtain ⟨z, hz⟩ := hsz
      unfold Vm.isSubclass
      rw [hz]
      simp [Vm.isSubclassAux, h2, h4]
  have hnox : x.name ≠ "<init>" := by rw [hxy] at hno; exact hno
  have hsl : As.length = methM.sig.parameters.length := by
    rw [hsigM] at hlen
    exact hn.trans (Option.some.inj hlen).symm
  obtain ⟨vm₁, X₁, hstep₁⟩ := X.invokespecialUp hx hown hl1 hl2 hn0 hmethM hstM habM hnox hdk hnid hps hsuper hsub (a := b) (cell := cellB) (by rw [hT]; exact hcB)
    (fun z h => by rw [h] at hoB; cases hoB) hkB (g := g) hg (argsL := As) (rest := rest) hsl hstack (by rw [hb]; exact hdg)
  obtain ⟨v, ⟨U', l2, c2, s2⟩, X', ⟨g', mk', t, L', e1, e2, hq, h1, hL, h2, h3⟩, hsteps⟩ := hK m meth c ⟨T.setVm vm₁, locs, cells, slots⟩ { g with stack := rest } (.invokespecial index) mk (Value.ref b :: As).toArray X₁ hg (hsize.trans hml.symm) (by rw [hb]; exact hdg) hW (X₁.named hnamed) ⟨hf.1, hf.2, hPc (T.setVm vm₁) hT X₁.warmed⟩
  dsimp only [Pt.U, Pt.locs, Pt.cells, Pt.slots] at X' e1 e2 h1 h2 h3 hsteps
  subst h1; subst h2; subst h3
  exact ⟨v, (T.setVm vm₁).calling g' mk' (Value.ref b :: As).toArray, t, U', L', hT, X', hL, e1, e2, hq, fun target h => hstep₁ _ (by rw [doInvoke_state]; exact hsteps.trans h)⟩
theorem recv_at {n b rc : Nat} {h : Nat → Cl} {H : Heap} {locs : List Loc} (hS : Sg G s) (b1 : HpG G h n H) (d1 : va_S (gA G) s.heap H locs) (hc : cls (h b) = rc) (hr : rc < 13 ∨ rc = 20) : ∃ cellB : Cell, H[adr G b]? = some cellB ∧ cellB.vm.isStatics = false ∧ s.vm.findClass (on rc) = some cellB.cls := by
  rcases hr with hr | hr
  · obtain ⟨f, hf⟩ := cls_ob hc (by omega)
    obtain ⟨g1, g2⟩ := b1.own (a := b) (by rw [hf]; exact own_o hr)
    have he := wl_at (G := G) (h := h) g1 g2
    rw [hf] at he
    obtain ⟨q, e1, -, -, -, -, -, e7, -, -⟩ := kw rc hr
    rw [← e7]
    exact va_recv hS.2.1 b1.2.2.1 e1 he
  · subst hr
    obtain ⟨f, hf⟩ := cls_ob hc (by omega)
    obtain ⟨ha, hp⟩ := b1.pre (a := b) (by rw [hf]; rfl) (by
      intro q
      rw [q] at hc
      simp [cls, em] at hc)
    obtain ⟨j, hj, haj, -⟩ := pcl_text (G := G) ha (by rw [← hp]; exact hc)
    have had : adr G b = gP G (2 + j) := by unfold adr; rw [if_pos (by omega), haj]
    rw [had]
    have := vk_recv (i := j) hS.2.2.2.2.2.2.2.2.2.2.2.2.1 hj d1

    exact this
end CALL
