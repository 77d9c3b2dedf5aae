/-! One step of the pure machine is a step of the JVM: numbers, locals, jumps. -/
section ROW
variable {G : Gl} {p : Program} {l : Launch} {e : Env} {R : Room} {s : State} {m : MethodId} {args : Array Value} {below : List Frame} {meth : Method} {c : Code} {md : Md} {r : Nat} {cells slots : Nat} {Q : State → Prop} {pc pc' : Nat} {L L' st st' : List Value} {w w' : Wd}
theorem g_bin {f : Int32 → Int32 → Int32} (row : ∀ (H : Heap) (locs : List Loc) (ls : Array Slot) (rest : List Value) (x y : Int32), W p l e R s m args below meth c H locs cells slots Q (F0 m (pc + 1) ls (.int (f x y) :: rest)) → W p l e R s m args below meth c H locs cells slots Q (F0 m pc ls (.int y :: .int x :: rest)))
    (h : s_bin f pc L st w = nx pc' L' st' w') (k : Wg G p l e R s m args below meth c md pc' L' st' w' cells slots Q) : Wg G p l e R s m args below meth c md pc L st w cells slots Q := by
  unfold s_bin at h
  split at h
  · obtain ⟨rfl, rfl, rfl, rfl⟩ := nx_inj h
    exact fun H locs ls a b d => row _ _ _ _ _ _ (k H locs ls a b d)
  · cases h
theorem g_div {f : Int32 → Int32 → Int32} (row : ∀ (H : Heap) (locs : List Loc) (ls : Array Slot) (rest : List Value) (x y : Int32), ¬ y = 0 → W p l e R s m args below meth c H locs cells slots Q (F0 m (pc + 1) ls (.int (f x y) :: rest)) → W p l e R s m args below meth c H locs cells slots Q (F0 m pc ls (.int y :: .int x :: rest)))
    (h : s_div f pc L st w = nx pc' L' st' w') (k : Wg G p l e R s m args below meth c md pc' L' st' w' cells slots Q) : Wg G p l e R s m args below meth c md pc L st w cells slots Q := by
  unfold s_div at h
  split at h
  · rename_i y x rr
    by_cases hy : y = 0
    · rw [if_pos hy] at h; cases h
    · rw [if_neg hy] at h
      obtain ⟨rfl, rfl, rfl, rfl⟩ := nx_inj h
      exact fun H locs ls a b d => row _ _ _ _ _ _ hy (k H locs ls a b d)
  · cases h
theorem g_un {f : Int32 → Int32} (row : ∀ (H : Heap) (locs : List Loc) (ls : Array Slot) (rest : List Value) (x : Int32), W p l e R s m args below meth c H locs cells slots Q (F0 m (pc + 1) ls (.int (f x) :: rest)) → W p l e R s m args below meth c H locs cells slots Q (F0 m pc ls (.int x :: rest)))
    (h : s_un f pc L st w = nx pc' L' st' w') (k : Wg G p l e R s m args below meth c md pc' L' st' w' cells slots Q) : Wg G p l e R s m args below meth c md pc L st w cells slots Q := by
  unfold s_un at h
  split at h
  · obtain ⟨rfl, rfl, rfl, rfl⟩ := nx_inj h
    exact fun H locs ls a b d => row _ _ _ _ _ (k H locs ls a b d)
  · cases h
theorem g_bil {f : Int64 → Int64 → Int64} (row : ∀ (H : Heap) (locs : List Loc) (ls : Array Slot) (rest : List Value) (x y : Int64), W p l e R s m args below meth c H locs cells slots Q (F0 m (pc + 1) ls (.long (f x y) :: rest)) → W p l e R s m args below meth c H locs cells slots Q (F0 m pc ls (.long y :: .long x :: rest)))
    (h : s_bil f pc L st w = nx pc' L' st' w') (k : Wg G p l e R s m args below meth c md pc' L' st' w' cells slots Q) : Wg G p l e R s m args below meth c md pc L st w cells slots Q := by
  unfold s_bil at h
  split at h
  · obtain ⟨rfl, rfl, rfl, rfl⟩ := nx_inj h
    exact fun H locs ls a b d => row _ _ _ _ _ _ (k H locs ls a b d)
  · cases h
theorem g_load {i len : Nat} (row : ∀ (H : Heap) (locs : List Loc) (ls : Array Slot) (rest : List Value) (x : Int32), ls[i]? = some (.val (.int x)) → W p l e R s m args below meth c H locs cells slots Q (F0 m (pc + len) ls (.int x :: rest)) → W p l e R s m args below meth c H locs cells slots Q (F0 m pc ls rest))
    (h : s_load i len pc L st w = nx pc' L' st' w') (k : Wg G p l e R s m args below meth c md pc' L' st' w' cells slots Q) : Wg G p l e R s m args below meth c md pc L st w cells slots Q := by
  unfold s_load at h
  split at h
  · rename_i x hx
    obtain ⟨rfl, rfl, rfl, rfl⟩ := nx_inj h
    exact fun H locs ls a b d => row _ _ _ _ _ (a.2.2.2.2 i _ hx (by simp)) (k H locs ls a b d)
  · cases h
theorem g_aload {i len : Nat} (row : ∀ (H : Heap) (locs : List Loc) (ls : Array Slot) (rest : List Value) (x : Nat), ls[i]? = some (.val (.ref x)) → W p l e R s m args below meth c H locs cells slots Q (F0 m (pc + len) ls (.ref x :: rest)) → W p l e R s m args below meth c H locs cells slots Q (F0 m pc ls rest))
    (h : s_aload i len pc L st w = nx pc' L' st' w') (k : Wg G p l e R s m args below meth c md pc' L' st' w' cells slots Q) : Wg G p l e R s m args below meth c md pc L st w cells slots Q := by
  unfold s_aload at h
  split at h
  · rename_i x hx
    obtain ⟨rfl, rfl, rfl, rfl⟩ := nx_inj h
    exact fun H locs ls a b d => row _ _ _ _ _ (a.2.2.2.2 i _ hx (by simp)) (k H locs ls a b d)
  · cases h
theorem g_lload {i len : Nat} (row : ∀ (H : Heap) (locs : List Loc) (ls : Array Slot) (rest : List Value) (x : Int64), ls[i]? = some (.val (.long x)) → W p l e R s m args below meth c H locs cells slots Q (F0 m (pc + len) ls (.long x :: rest)) → W p l e R s m args below meth c H locs cells slots Q (F0 m pc ls rest))
    (h : s_lload i len pc L st w = nx pc' L' st' w') (k : Wg G p l e R s m args below meth c md pc' L' st' w' cells slots Q) : Wg G p l e R s m args below meth c md pc L st w cells slots Q := by
  unfold s_lload at h
  split at h
  · rename_i x hx
    obtain ⟨rfl, rfl, rfl, rfl⟩ := nx_inj h
    exact fun H locs ls a b d => row _ _ _ _ _ (a.2.2.2.2 i _ hx (by simp)) (k H locs ls a b d)
  · cases h
/-- the locals as the kit's rows have them -/
def lvl (G : Gl) (L : List Value) : List (Nat × Value) := (List.range L.length).filterMap (fun i => match L[i]? with
  | some v => if v = .null then none else some (i, shv G v)
  | none => none)
theorem lvl_mem {G : Gl} {L : List Value} {i : Nat} {v : Value} (h : L[i]? = some v) (hv : v ≠ .null) : (i, shv G v) ∈ lvl G L := by
  unfold lvl
  refine List.mem_filterMap.mpr ⟨i, List.mem_range.mpr (List.getElem?_eq_some_iff.mp h).1, ?_⟩
  rw [h]
  simp [hv]
theorem lvl_of {G : Gl} {L : List Value} {q : Nat × Value} (h : q ∈ lvl G L) : ∃ v, L[q.1]? = some v ∧ v ≠ .null ∧ q.2 = shv G v := by
  unfold lvl at h
  obtain ⟨i, hi, h⟩ := List.mem_filterMap.mp h
  cases hv : L[i]? with
  | none => rw [hv] at h; cases h
  | some v =>
    rw [hv] at h
    by_cases e : v = .null
    · simp [e] at h
    · simp only [if_neg e, Option.some.injEq] at h
      subst h
      exact ⟨v, hv, e, rfl⟩
theorem Lc.has {ls : Array Slot} (h : Lc G md ls L) : lv_has ls md.2.2.2.1 (lvl G L) := by
  refine ⟨h.1, h.2.2.1, fun q hq => ?_⟩
  obtain ⟨v, h1, h2, h3⟩ := lvl_of hq
  rw [h3]
  exact h.2.2.2.2 _ _ h1 h2
/-- a store of one word -/
theorem Lc.set {ls ls' : Array Slot} {i : Nat} {v : Value} (hF : gF G = .null ∨ ∃ q, gF G = .ref q) (h : Lc G md ls L) (hlng : md.2.2.2.2.2.1 = false ∨ noL L i = true) (hi : i < L.length) (hc : v.category = 1)
    (hn : lv_has ls' md.2.2.2.1 ((i, shv G v) :: (lvl G L).filter (fun q => !(q.1 == i) && !(q.1 + 1 == i && q.2.category == 2)))) : Lc G md ls' (L.set i v) := by
  obtain ⟨h1, h2, h3, h4, h5⟩ := h
  refine ⟨hn.1, by rw [List.length_set]; exact h2, hn.2.1, fun hl0 u hu => ?_, fun j u hj hu => ?_⟩
  · rcases List.mem_or_eq_of_mem_set hu with q | q
    · exact h4 hl0 u q
    · rw [q]; exact hc
  · rw [List.getElem?_set] at hj
    by_cases e : i = j
    · subst e
      rw [if_pos rfl, if_pos hi] at hj
      cases hj
      exact hn.2.2 (i, shv G _) List.mem_cons_self
    · rw [if_neg e] at hj
      refine hn.2.2 (j, shv G u) (List.mem_cons_of_mem _ (List.mem_filter.mpr ⟨lvl_mem hj hu, ?_⟩))
      by_cases e2 : j + 1 = i
      · have hcat : (shv G u).category = 1 := by
          rw [shv_cat G hF]
          rcases hlng with q | q
          · exact h4 q u (List.mem_of_getElem? hj)
          · subst e2
            simp only [noL, hj] at q
            cases u <;> first | rfl | (cases q; done)
        simp [hcat, Ne.symm e]
      · simp [e2, Ne.symm e]
theorem g_store {i len : Nat} (hF : gF G = .null ∨ ∃ q, gF G = .ref q) (row : ∀ (H : Heap) (locs : List Loc) (ls : Array Slot) (rest : List Value) (x : Int32) (lv : List (Nat × Value)), lv_has ls md.2.2.2.1 lv → i < md.2.2.2.1 → (∀ ls' : Array Slot, lv_has ls' md.2.2.2.1 ((i, .int x) :: lv.filter (fun q => !(q.1 == i) && !(q.1 + 1 == i && q.2.category == 2))) → W p l e R s m args below meth c H locs cells slots Q (F0 m (pc + len) ls' rest)) → W p l e R s m args below meth c H locs cells slots Q (F0 m pc ls (.int x :: rest)))
    (h : s_store md i len pc L st w = nx pc' L' st' w') (k : Wg G p l e R s m args below meth c md pc' L' st' w' cells slots Q) : Wg G p l e R s m args below meth c md pc L st w cells slots Q := by
  unfold s_store at h
  split at h
  · rename_i x rr
    by_cases hc : (md.2.2.2.2.2.1 = false ∨ noL L i = true) ∧ i < L.length
    · rw [if_pos hc] at h
      obtain ⟨rfl, rfl, rfl, rfl⟩ := nx_inj h
      exact fun H locs ls a b d => row _ _ _ _ _ _ a.has (by rw [← a.2.1]; exact hc.2) (fun ls' hl => k H locs ls' (a.set hF hc.1 hc.2 rfl hl) b d)
    · rw [if_neg hc] at h; cases h
  · cases h
theorem g_astore {i len : Nat} (hF : gF G = .null ∨ ∃ q, gF G = .ref q) (row : ∀ (H : Heap) (locs : List Loc) (ls : Array Slot) (rest : List Value) (x : Nat) (lv : List (Nat × Value)), lv_has ls md.2.2.2.1 lv → i < md.2.2.2.1 → (∀ ls' : Array Slot, lv_has ls' md.2.2.2.1 ((i, .ref x) :: lv.filter (fun q => !(q.1 == i) && !(q.1 + 1 == i && q.2.category == 2))) → W p l e R s m args below meth c H locs cells slots Q (F0 m (pc + len) ls' rest)) → W p l e R s m args below meth c H locs cells slots Q (F0 m pc ls (.ref x :: rest)))
    (h : s_astore md i len pc L st w = nx pc' L' st' w') (k : Wg G p l e R s m args below meth c md pc' L' st' w' cells slots Q) : Wg G p l e R s m args below meth c md pc L st w cells slots Q := by
  unfold s_astore at h
  split at h
  · rename_i x rr
    by_cases hc : (md.2.2.2.2.2.1 = false ∨ noL L i = true) ∧ i < L.length
    · rw [if_pos hc] at h
      obtain ⟨rfl, rfl, rfl, rfl⟩ := nx_inj h
      exact fun H locs ls a b d => row _ _ _ _ _ _ a.has (by rw [← a.2.1]; exact hc.2) (fun ls' hl => k H locs ls' (a.set (v := .ref x) hF hc.1 hc.2 rfl hl) b d)
    · rw [if_neg hc] at h; cases h
  · cases h
theorem g_iinc {i : Nat} {n : Int} (hF : gF G = .null ∨ ∃ q, gF G = .ref q) (hx : p.tables.exec = Jvm.exec) (hb : c.code = md.2.2.1) (hd : decode md.2.2.1 pc = .ok (.iinc i n, 3))
    (h : s_iinc md i n pc L st w = nx pc' L' st' w') (k : Wg G p l e R s m args below meth c md pc' L' st' w' cells slots Q) : Wg G p l e R s m args below meth c md pc L st w cells slots Q := by
  unfold s_iinc at h
  split at h
  · rename_i x hv
    by_cases hc : (md.2.2.2.2.2.1 = false ∨ noL L i = true) ∧ i < L.length
    · rw [if_pos hc] at h
      obtain ⟨rfl, rfl, rfl, rfl⟩ := nx_inj h
      intro H locs ls a b d
      obtain ⟨j, hj⟩ := List.getElem?_of_mem (lvl_mem (G := G) hv (by simp))
      exact lv_iinc hx hb hd a.has (k := j) (x := x) hj rfl (by rw [← a.2.1]; exact hc.2) rfl (fun ls' hl => k H locs ls' (a.set (v := .int (x + Int32.ofInt n)) hF hc.1 hc.2 rfl hl) b d)
    · rw [if_neg hc] at h; cases h
  · cases h
theorem jok_t {off : Int} (h : jok pc off = true) : (pc : Int) + off = ((jt pc off : Nat) : Int) := by
  unfold jok at h
  unfold jt
  have := of_decide_eq_true h
  omega
theorem g_if {cf : Int32 → Int32 → Bool} {off : Int} (row : ∀ (H : Heap) (locs : List Loc) (ls : Array Slot) (rest : List Value) (x : Int32) (tgt : Nat), (pc : Int) + off = (tgt : Int) → (cf x 0 = true → W p l e R s m args below meth c H locs cells slots Q (F0 m tgt ls rest)) → (cf x 0 = false → W p l e R s m args below meth c H locs cells slots Q (F0 m (pc + 3) ls rest)) → W p l e R s m args below meth c H locs cells slots Q (F0 m pc ls (.int x :: rest)))
    (h : s_if cf off pc L st w = nx pc' L' st' w') (k : Wg G p l e R s m args below meth c md pc' L' st' w' cells slots Q) : Wg G p l e R s m args below meth c md pc L st w cells slots Q := by
  unfold s_if at h
  split at h
  · rename_i x rr
    by_cases hj : jok pc off = true
    · rw [if_pos hj] at h
      cases hc : cf x 0 with
      | true =>
        rw [hc, if_pos rfl] at h
        obtain ⟨rfl, rfl, rfl, rfl⟩ := nx_inj h
        exact fun H locs ls a b d => row _ _ _ _ _ _ (jok_t hj) (fun _ => k H locs ls a b d) (fun q => by rw [hc] at q; cases q)
      | false =>
        rw [hc, if_neg (by simp)] at h
        obtain ⟨rfl, rfl, rfl, rfl⟩ := nx_inj h
        exact fun H locs ls a b d => row _ _ _ _ _ _ (jok_t hj) (fun q => by rw [hc] at q; cases q) (fun _ => k H locs ls a b d)
    · rw [if_neg hj] at h; cases h
  · cases h
theorem g_cmp {cf : Int32 → Int32 → Bool} {off : Int} (row : ∀ (H : Heap) (locs : List Loc) (ls : Array Slot) (rest : List Value) (x y : Int32) (tgt : Nat), (pc : Int) + off = (tgt : Int) → (cf x y = true → W p l e R s m args below meth c H locs cells slots Q (F0 m tgt ls rest)) → (cf x y = false → W p l e R s m args below meth c H locs cells slots Q (F0 m (pc + 3) ls rest)) → W p l e R s m args below meth c H locs cells slots Q (F0 m pc ls (.int y :: .int x :: rest)))
    (h : s_cmp cf off pc L st w = nx pc' L' st' w') (k : Wg G p l e R s m args below meth c md pc' L' st' w' cells slots Q) : Wg G p l e R s m args below meth c md pc L st w cells slots Q := by
  unfold s_cmp at h
  split at h
  · rename_i y x rr
    by_cases hj : jok pc off = true
    · rw [if_pos hj] at h
      cases hc : cf x y with
      | true =>
        rw [hc, if_pos rfl] at h
        obtain ⟨rfl, rfl, rfl, rfl⟩ := nx_inj h
        exact fun H locs ls a b d => row _ _ _ _ _ _ _ (jok_t hj) (fun _ => k H locs ls a b d) (fun q => by rw [hc] at q; cases q)
      | false =>
        rw [hc, if_neg (by simp)] at h
        obtain ⟨rfl, rfl, rfl, rfl⟩ := nx_inj h
        exact fun H locs ls a b d => row _ _ _ _ _ _ _ (jok_t hj) (fun q => by rw [hc] at q; cases q) (fun _ => k H locs ls a b d)
    · rw [if_neg hj] at h; cases h
  · cases h
theorem g_goto {off : Int} (hx : p.tables.exec = Jvm.exec) (hb : c.code = md.2.2.1) (hd : decode md.2.2.1 pc = .ok (.goto off, 3)) (h : (if jok pc off then nx (jt pc off) L st w else none) = nx pc' L' st' w') (k : Wg G p l e R s m args below meth c md pc' L' st' w' cells slots Q) : Wg G p l e R s m args below meth c md pc L st w cells slots Q := by
  by_cases hj : jok pc off = true
  · rw [if_pos hj] at h
    obtain ⟨rfl, rfl, rfl, rfl⟩ := nx_inj h
    exact fun H locs ls a b d => lv_goto hx hb hd (jok_t hj) (k H locs ls a b d)
  · rw [if_neg hj] at h; cases h
theorem g_null {b0 : Bool} {off : Int} (hx : p.tables.exec = Jvm.exec) (hb : c.code = md.2.2.1) (hd : decode md.2.2.1 pc = .ok (if b0 then .ifnull off else .ifnonnull off, 3)) (h : s_null b0 off pc L st w = nx pc' L' st' w') (k : Wg G p l e R s m args below meth c md pc' L' st' w' cells slots Q) : Wg G p l e R s m args below meth c md pc L st w cells slots Q := by
  unfold s_null at h
  split at h
  · by_cases hj : jok pc off = true
    · rw [if_pos hj] at h
      cases b0
      · rw [if_neg (by simp)] at h
        obtain ⟨rfl, rfl, rfl, rfl⟩ := nx_inj h
        exact fun H locs ls a b d => lv_ifnonnullN hx hb hd (k H locs ls a b d)
      · rw [if_pos rfl] at h
        obtain ⟨rfl, rfl, rfl, rfl⟩ := nx_inj h
        exact fun H locs ls a b d => lv_ifnullN hx hb hd (jok_t hj) (k H locs ls a b d)
    · rw [if_neg hj] at h; cases h
  · by_cases hj : jok pc off = true
    · rw [if_pos hj] at h
      cases b0
      · rw [if_neg (by simp)] at h
        obtain ⟨rfl, rfl, rfl, rfl⟩ := nx_inj h
        exact fun H locs ls a b d => lv_ifnonnull hx hb hd (jok_t hj) (k H locs ls a b d)
      · rw [if_pos rfl] at h
        obtain ⟨rfl, rfl, rfl, rfl⟩ := nx_inj h
        exact fun H locs ls a b d => lv_ifnull hx hb hd (k H locs ls a b d)
    · rw [if_neg hj] at h; cases h
  · cases h
theorem g_tsw {dflt lo hi : Int} {offs : Array Int} {len : Nat} (hx : p.tables.exec = Jvm.exec) (hb : c.code = md.2.2.1) (hd : decode md.2.2.1 pc = .ok (.tableswitch dflt lo hi offs, len)) (h : s_tsw dflt lo hi offs pc L st w = nx pc' L' st' w') (k : Wg G p l e R s m args below meth c md pc' L' st' w' cells slots Q) : Wg G p l e R s m args below meth c md pc L st w cells slots Q := by
  unfold s_tsw at h
  split at h
  · rename_i x rr
    split at h
    · rename_i off ht
      by_cases hj : jok pc off = true
      · rw [if_pos hj] at h
        obtain ⟨rfl, rfl, rfl, rfl⟩ := nx_inj h
        unfold tsw at ht
        by_cases q : x.toInt < lo ∨ hi < x.toInt
        · rw [if_pos q] at ht
          cases ht
          exact fun H locs ls a b d => lv_tableOut hx hb hd q (jok_t hj) (k H locs ls a b d)
        · rw [if_neg q] at ht
          exact fun H locs ls a b d => lv_tableIn hx hb hd (fun z => q (Or.inl z)) (fun z => q (Or.inr z)) ht (jok_t hj) (k H locs ls a b d)
      · rw [if_neg hj] at h; cases h
    · cases h
  · cases h
theorem g_lsw {dflt : Int} {ps : Array (Int × Int)} {len : Nat} (hx : p.tables.exec = Jvm.exec) (hb : c.code = md.2.2.1) (hd : decode md.2.2.1 pc = .ok (.lookupswitch dflt ps, len)) (h : s_lsw dflt ps pc L st w = nx pc' L' st' w') (k : Wg G p l e R s m args below meth c md pc' L' st' w' cells slots Q) : Wg G p l e R s m args below meth c md pc L st w cells slots Q := by
  unfold s_lsw at h
  split at h
  · rename_i x rr
    split at h
    · rename_i hq
      obtain ⟨rfl, rfl, rfl, rfl⟩ := nx_inj h
      exact fun H locs ls a b d => lv_lookup hx hb hd hq.1 rfl (jok_t hq.2) (k H locs ls a b d)
    · cases h
  · cases h
end ROW
