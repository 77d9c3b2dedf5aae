/-! A run of a method in the pure machine is a contract of the method. -/
theorem Sg.to {G : Gl} {s U : State} (h : Sg G s) (hW : s.WarmedH U.vm) (hz : s.heap.size ≤ U.heap.size) (hq : ∀ a : Nat, a < s.heap.size → ¬ gA G a → U.heap[a]? = s.heap[a]?) : Sg G U := by
  obtain ⟨s0, sK, sN, sO, sO1, sO2, sZ1, sZ2, sZ3, sF, sX, sT, sV, r2, r3, r4, r5⟩ := h
  have ha := hW.alike
  refine ⟨Nat.le_trans s0 hz, sK.moved ha, fun w hw => ?_, sO.moved ha, over_moved ha sO1, over_moved ha sO2, (sZ1.moved ha).kept hq, (sZ2.moved ha).kept hq, (sZ3.moved ha).kept hq, sF, (sX.moved ha).kept hq, (sT.moved ha).kept hq, (vk_S.moved ha sV).kept hq, r2.warm hW, r3.warm hW, r4.warm hW, r5.warm hW⟩
  have h1 := sN w hw
  simp only [nwl, List.mem_cons, List.not_mem_nil, or_false] at hw
  rcases hw with rfl | rfl | rfl | rfl | rfl | rfl | rfl | rfl | rfl | rfl | rfl | rfl | rfl | rfl | rfl | rfl | rfl | rfl | rfl | rfl | rfl <;> first | exact va_Nw.warmM hW h1 | exact va_Nw.warmC hW h1
theorem Sg.same {G : Gl} {s U : State} (h : Sg G s) (hv : U.vm = s.vm) (hh : U.heap = s.heap) : Sg G U := by
  obtain ⟨s0, sK, sN, sO, sO1, sO2, sZ1, sZ2, sZ3, sF, sX, sT, sV, r2, r3, r4, r5⟩ := h
  have ha : s.vm.Alike U.vm := by rw [hv]; exact Vm.Alike.refl _
  have hq : ∀ a : Nat, a < s.heap.size → ¬ gA G a → U.heap[a]? = s.heap[a]? := fun a _ _ => by rw [hh]
  refine ⟨by rw [hh]; exact s0, sK.moved ha, fun w hw => ?_, sO.moved ha, over_moved ha sO1, over_moved ha sO2, (sZ1.moved ha).kept hq, (sZ2.moved ha).kept hq, (sZ3.moved ha).kept hq, sF, (sX.moved ha).kept hq, (sT.moved ha).kept hq, (vk_S.moved ha sV).kept hq, r2.same hv, r3.same hv, r4.same hv, r5.same hv⟩
  have h1 := sN w hw
  have hot : w.onTables = true := by
    have : nwl.all (fun w => w.onTables) = true := by decide +kernel
    exact List.all_eq_true.mp this w hw
  exact va_Nw.same hot hv.symm h1
def vst (G : Gl) (v : Option Value) : List Value := match v with
  | some x => [shv G x]
  | none => []
def RetAt (md : Md) (pc : Nat) (v : Option Value) : Prop := match v with
  | none => decode md.2.2.1 pc = .ok (.return_, 1) ∧ md.2.2.2.2.1 = none
  | some (.int x) => decode md.2.2.1 pc = .ok (.ireturn, 1) ∧ ∃ ty, md.2.2.2.2.1 = some ty ∧ narrow ty (.int x) = .int x
  | some (.long _) => decode md.2.2.1 pc = .ok (.lreturn, 1) ∧ md.2.2.2.2.1 = some .long
  | some (.ref _) => decode md.2.2.1 pc = .ok (.areturn, 1) ∧ isRefT md.2.2.2.2.1 = true
  | _ => False
/-- from here the method comes to its return with o -/
def Ev (G : Gl) (r : Nat) (md : Md) (pc : Nat) (L st : List Value) (w : Wd) (o : Ot) : Prop :=
  w.2.1 ≤ o.2.2.1 ∧ w.2.2 ≤ o.2.2.2 ∧ ∀ (p : Program) (l : Launch) (e : Env) (R : Room) (s : State) (m : MethodId) (args : Array Value) (below : List Frame) (meth : Method) (c : Code) (cells slots : Nat) (Q : State → Prop), Cx G p R s m args meth c md r → cells + (o.2.2.1 - w.2.1) ≤ R.cells → slots + (o.2.2.2 - w.2.2) ≤ R.slots →
    (∀ (pc' : Nat) (ls' : Array Slot) (H' : Heap) (locs' : List Loc), RetAt md pc' o.1 → HpG G o.2.1 o.2.2.1 H' → va_S (gA G) s.heap H' locs' → W p l e R s m args below meth c H' locs' (cells + (o.2.2.1 - w.2.1)) (slots + (o.2.2.2 - w.2.2)) Q (F0 m pc' ls' (vst G o.1))) →
    Wg G p l e R s m args below meth c md pc L st w cells slots Q
def Qcc (G : Gl) (o : Ot) : Array Value → State → Outcome → State → Prop := fun _ st oc t => oc = .returned (o.1.map (shv G)) ∧ HpG G o.2.1 o.2.2.1 t.heap ∧ va_F (gA G) st t
def Pcc (G : Gl) (as : List Value) (w : Wd) : Array Value → State → Prop := fun v U => v = (as.map (shv G)).toArray ∧ Sg G U ∧ HpG G w.1 w.2.1 U.heap
def rmr (r mc ms : Nat) : Room := { frames := r, cells := mc, slots := ms, locals := 64 * r }
def MdOk (md : Md) : Prop := plainName md.2.1.cls = true ∧ on md.1 = md.2.1.cls ∧ md.2.2.2.1 ≤ 40
def wsm (md : Md) : List Cond := Cond.code md.2.1 md.2.2.1 md.2.2.2.1 md.2.2.2.2.1 :: tbg
theorem ents_lv {G : Gl} (hF : gF G = .null ∨ ∃ q, gF G = .ref q) : ∀ (as : List Value) (k i : Nat) (v : Value), (ents as)[i]? = some v → v ≠ .null → (k + i, shv G v) ∈ lv_args k (as.map (shv G)) := by
  intro as
  induction as with
  | nil => intro k i v h; simp [ents] at h
  | cons a as ih =>
    intro k i v h hv
    rw [List.map_cons, lv_args]
    have one : ∀ x : Value, x.category = 1 → (x :: ents as)[i]? = some v → x = a → (k + i, shv G v) ∈ (k, shv G a) :: lv_args (if (shv G a).category = 2 then k + 2 else k + 1) (as.map (shv G)) := by
      intro x hx h9 e
      subst e
      clear h
      cases i with
      | zero =>
        rw [List.getElem?_cons_zero] at h9
        cases h9
        exact List.mem_cons_self
      | succ i =>
        rw [List.getElem?_cons_succ] at h9
        rw [if_neg (by rw [shv_cat G hF, hx]; decide)]
        have := ih (k + 1) i v h9 hv
        rw [show k + 1 + i = k + (i + 1) by omega] at this
        exact List.mem_cons_of_mem _ this
    have two : ∀ x : Value, x.category = 2 → (x :: .null :: ents as)[i]? = some v → x = a → (k + i, shv G v) ∈ (k, shv G a) :: lv_args (if (shv G a).category = 2 then k + 2 else k + 1) (as.map (shv G)) := by
      intro x hx h9 e
      subst e
      clear h
      match i with
      | 0 =>
        rw [List.getElem?_cons_zero] at h9
        cases h9
        exact List.mem_cons_self
      | 1 =>
        rw [List.getElem?_cons_succ, List.getElem?_cons_zero] at h9
        cases h9
        exact absurd rfl hv
      | i + 2 =>
        rw [List.getElem?_cons_succ, List.getElem?_cons_succ] at h9
        rw [if_pos (by rw [shv_cat G hF, hx])]
        have := ih (k + 2) i v h9 hv
        rw [show k + 2 + i = k + (i + 2) by omega] at this
        exact List.mem_cons_of_mem _ this
    cases a with
    | long x => exact two (.long x) rfl h rfl
    | double x => exact two (.double x) rfl h rfl
    | int x => exact one (.int x) rfl h rfl
    | float x => exact one (.float x) rfl h rfl
    | null => exact one .null rfl h rfl
    | ref x => exact one (.ref x) rfl h rfl
    | retAddr x => exact one (.retAddr x) rfl h rfl
theorem ents_sl {G : Gl} (hF : gF G = .null ∨ ∃ q, gF G = .ref q) : ∀ as : List Value, (lg_sl (as.map (shv G))).length = (ents as).length := by
  intro as
  induction as with
  | nil => rfl
  | cons a as ih =>
    have e : lg_sl ((a :: as).map (shv G)) = (if (shv G a).category = 2 then [.val (shv G a), .second] else [.val (shv G a)]) ++ lg_sl (as.map (shv G)) := by
      simp [lg_sl]
    rw [e, List.length_append, ih, shv_cat G hF]
    cases a <;> simp [ents, Value.category] <;> omega
theorem ent_len {n : Nat} {as : List Value} (h : (ents as).length ≤ n) : (ent n as).length = n := by
  unfold ent
  rw [List.length_append, List.length_replicate]
  omega
theorem ents_cat : ∀ as : List Value, lngOk false as = true → argsOk as.length as = true → ∀ v ∈ ents as, v.category = 1 := by
  intro as
  induction as with
  | nil => intro _ _ v hv; simp [ents] at hv
  | cons a as ih =>
    intro h1 h2 v hv
    have h1' : lngOk false as = true := by
      simp only [lngOk, Bool.false_or, List.all_cons, Bool.and_eq_true] at h1 ⊢
      exact h1.2
    have h2' : argsOk as.length as = true := by
      simp only [argsOk, List.all_cons, Bool.and_eq_true, beq_self_eq_true, true_and] at h2 ⊢
      exact h2.2
    cases a with
    | long x => simp [lngOk] at h1
    | double x => simp [argsOk] at h2
    | _ =>
      simp only [ents, List.mem_cons] at hv
      rcases hv with rfl | hv
      · rfl
      · exact ih h1' h2' v hv
theorem lng_rev {as : List Value} (h : lngOk false as = true) : lngOk false as.reverse = true := by
  simpa [lngOk] using h
/-- the locals at a method's entry -/
theorem Lc.entry {G : Gl} {md : Md} {as : List Value} (hF : gF G = .null ∨ ∃ q, gF G = .ref q) (hlen : (ents as).length ≤ md.2.2.2.1) (hlng : md.2.2.2.2.2.1 = false → ∀ v ∈ ents as, v.category = 1) :
    Lc G md ((lg_sl (as.map (shv G)) ++ List.replicate (md.2.2.2.1 - (lg_sl (as.map (shv G))).length) Slot.unset).toArray) (ent md.2.2.2.1 as) := by
  have hl := lv_entry (as.map (shv G)) (n := md.2.2.2.1) (by rw [ents_sl hF]; exact hlen)
  refine ⟨hl.1, ent_len hlen, hl.2.1, fun h v hv => ?_, fun i v hi hv => ?_⟩
  · unfold ent at hv
    rcases List.mem_append.mp hv with q | q
    · exact hlng h v q
    · rw [List.eq_of_mem_replicate q]; rfl
  · unfold ent at hi
    rcases Nat.lt_or_ge i (ents as).length with q | q
    · rw [List.getElem?_append_left q] at hi
      have := ents_lv hF as 0 i v hi hv
      rw [Nat.zero_add] at this
      exact hl.2.2 _ this
    · rw [List.getElem?_append_right q, List.getElem?_replicate] at hi
      split at hi
      · cases hi; exact absurd rfl hv
      · cases hi
theorem met_of {G : Gl} {r : Nat} {md : Md} {as : List Value} {w : Wd} {o : Ot} (hE : Ev G r md 0 (ent md.2.2.2.1 as) [] w o) (ok : MdOk md) (hlen : (ents as).length ≤ md.2.2.2.1) (hlng : md.2.2.2.2.2.1 = false → ∀ v ∈ ents as, v.category = 1) (l : Launch) :
    Met l md.2.1 (wsm md) (rmr r (o.2.2.1 - w.2.1) (o.2.2.2 - w.2.2)) (Pcc G as w) (Qcc G o) (o.2.2.1 - w.2.1) (o.2.2.2 - w.2.2) (gA G) := by
  refine Met.ofW (cc := md.2.2.1) (maxL := md.2.2.2.1) (ret := md.2.2.2.2.1) ok.1 rfl ?_
  intro p e s m args below meth c s₁ B hml hv
  obtain ⟨rfl, hS, hH⟩ := hv
  have hts := atoms_spec (ws := wsm md) B.pre
  have hown : s.vm.findClass md.2.1.cls = some m.cls := findClass_of_methodNamed B.named
  have hF := hS.2.2.2.2.2.2.2.2.2.1
  have C : Cx G p (headSpec (wsm md) (rmr r (o.2.2.1 - w.2.1) (o.2.2.2 - w.2.2))).room s m (as.map (shv G)).toArray meth c md r :=
    ⟨B.exec, B.bytes, B.returns, B.notSynchronized, hml, by rw [ok.2.1]; exact hown, (name_of_methodNamed B.named B.method).1, fun w hw => hts w (List.mem_cons_of_mem _ hw), hS, Nat.le_refl _, Nat.le_refl _⟩
  have hlocks := B.notSynchronized
  rw [lg_entry_eq]
  have hF0 := C.2.2.1
  refine hE.2.2 p l e _ s m _ below meth c 0 0 _ C (by rw [Nat.zero_add]; exact Nat.le_refl _) (by rw [Nat.zero_add]; exact Nat.le_refl _) (fun pc' ls' H' locs' hR hP' hS' => ?_) s.heap [] _ (Lc.entry hF hlen hlng) hH va_S.rf
  rw [Nat.zero_add, Nat.zero_add]
  obtain ⟨v, w'⟩ := o
  simp only at hR hP' ⊢
  match v, hR with
  | none, hR => exact W.vret B.exec B.bytes (B.returns.trans hR.2) (fun t ht _ => ⟨rfl, by rw [ht]; exact hP', hS'.F ht⟩) hS'.2.2 hR.1
  | some (.int x), ⟨h1, ty, h2, h3⟩ => exact W.zret B.exec B.bytes (B.returns.trans h2) h3 (fun t ht _ => ⟨rfl, by rw [ht]; exact hP', hS'.F ht⟩) hS'.2.2 h1
  | some (.long x), hR => exact W.lret B.exec B.bytes (B.returns.trans hR.2) (fun t ht _ => ⟨rfl, by rw [ht]; exact hP', hS'.F ht⟩) hS'.2.2 hR.1
  | some (.ref x), ⟨h1, h2⟩ =>
    cases hm : md.2.2.2.2.1 with
    | none => rw [hm] at h2; cases h2
    | some ty =>
      rw [hm] at h2
      refine W.aret B.exec B.bytes (B.returns.trans hm) ?_ (Or.inr ⟨_, rfl⟩) (fun t ht _ => ⟨rfl, by rw [ht]; exact hP', hS'.F ht⟩) hS'.2.2 h1
      cases ty with
      | object n => exact Or.inl ⟨n, rfl⟩
      | array t => exact Or.inr ⟨t, rfl⟩
      | _ => cases h2
