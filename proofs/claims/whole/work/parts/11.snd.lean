/-! The pure machine and the JVM: what a heap must hold, what a method's run must find. -/
abbrev Gl : Type := Nat × va_G × (Nat → ClassId) × (Nat → Nat) × Value × Nat × (Nat → Int32)
abbrev gB (G : Gl) : Nat := G.1
abbrev gD (G : Gl) : va_G := G.2.1
abbrev gT (G : Gl) : Nat → ClassId := G.2.2.1
abbrev gP (G : Gl) : Nat → Nat := G.2.2.2.1
abbrev gF (G : Gl) : Value := G.2.2.2.2.1
abbrev gN (G : Gl) : Nat := G.2.2.2.2.2.1
abbrev gX (G : Gl) : Nat → Int32 := G.2.2.2.2.2.2
def gA (G : Gl) : Nat → Prop := fun q => gB G ≤ q
/-- where a cell is -/
def adr (G : Gl) (a : Nat) : Nat := if a < 16 then gP G a else gB G + (a - 16)
def shv (G : Gl) (v : Value) : Value := match v with
  | .ref a => .ref (adr G a)
  | .retAddr _ => gF G
  | v => v
def enA (G : Gl) (x : vp_A) : vp_A := match x with
  | (n, .inr (.inr (.inr (.inr f)))) => (n, .inr (.inr (.inr (.inr (fun j => (f j).map (adr G))))))
  | x => x
def enc (G : Gl) (c : Cl) : va_E := match c with
  | .inl (t, x) => .inl (gT G t, enA G x)
  | .inr (ci, f) => .inr (ci, (List.range (fnum ci)).map (fun k => shv G (f k)))
def wl (G : Gl) (h : Nat → Cl) (n : Nat) : va_W := (List.range (n - 16)).map (fun i => (gB G + i, enc G (h (16 + i))))
def tyl (G : Gl) : List (ClassId × FieldType) := [(gT G 0, .int), (gT G 1, .byte), (gT G 2, .char), (gT G 3, .boolean), (gT G 4, .long), (gT G 5, .array .int), (gT G 6, .array .long), (gT G 7, .object RX5)]
def ownc (c : Cl) : Bool := match c with
  | .inl x => decide (kd (.inl x) < 8)
  | .inr (ci, _) => decide (ci < 13)
def abv (j : Nat) : Int32 := ([-1, 0, 0, 0, 1, 2, 3] : List Int32).getD j 0
def txs : List (List Int32) := [[114, 105, 112, 101], [115, 104, 97, 100, 101], [115, 117, 110], [112, 107, 118, 104, 114, 100]]
def txl : List Nat := [4, 5, 3, 6]
/-- the cells that were there: the script, a table, texts and their bytes -/
def pcl (G : Gl) (a : Nat) : Cl :=
  if a = 0 then iA 10 (gN G) (gX G) else if a = 1 then iA 10 7 abv else if a < 6 then ob 20 (fun k => if k = 0 then .ref (a + 4) else .int 0) else iA 11 (txl.getD (a - 6) 0) (fun j => (txs.getD (a - 6) []).getD j 0)
def HpG (G : Gl) (h : Nat → Cl) (n : Nat) (H : Heap) : Prop :=
  16 ≤ n ∧ H.size = gB G + (n - 16) ∧ va_P (gD G) kcl (wl G h n) H ∧ (∀ a, 16 ≤ a → a < n → ownc (h a) = true) ∧ (∀ a, a < 10 → h a = pcl G a) ∧ ∀ a, (10 ≤ a ∧ a < 16) ∨ n ≤ a → h a = em
def tbg : List Cond := lw_tbl.filter goodWord
def nwl : List Cond := [.methodLinkNest RX11 13 yX5_init RX11, .methodLinkNest RX11 16 yX2_init RX11, .methodLinkNest RX2 1 yX5_init RX11, .methodLinkNest RX11 19 yX4_init RX11, .methodLinkNest RX4 1 yX5_init RX11, .methodLinkNest RX11 22 yX0_init RX11, .methodLinkNest RX0 1 yX5_init RX11, .methodLinkNest RX11 25 yX9_init RX11, .methodLinkNest RX9 1 yX2_init RX11, .methodLinkNest RX11 28 yX3_init RX11, .methodLinkNest RX3 1 yX4_init RX11, .methodLinkNest RX11 31 yX7_init RX11, .methodLinkNest RX7 1 yX0_init RX11, .methodLinkNest RX11 55 yX1_init RX11, .castable "[B" "java/lang/Cloneable", .castable RX2 RX5, .castable RX4 RX5, .castable RX0 RX5, .castable RX9 RX5, .castable RX3 RX5, .castable RX7 RX5]
def fmtD : String := "Ljava/util/function/BiFunction;"
/-- what stands in the tables and in the cells that nobody writes -/
def Sg (G : Gl) (U : State) : Prop :=
  gB G ≤ U.heap.size ∧ va_K (gD G) kcl (tyl G) U ∧ (∀ w ∈ nwl, va_Nw w U) ∧ va_AO RX5 U ∧ (Cond.arrayOver (.array .int)).before #[] U = true ∧ (Cond.arrayOver (.array .long)).before #[] U = true ∧
  va_Z "PearSummer" "ABOVE" "[I" (.ref (gP G 1)) (gA G) U U.heap ∧ va_Z "java/lang/String" "COMPACT_STRINGS" "Z" (.int 1) (gA G) U U.heap ∧ va_Z "jdk/internal/util/Preconditions" "SIOOBE_FORMATTER" fmtD (gF G) (gA G) U U.heap ∧ (gF G = .null ∨ ∃ q, gF G = .ref q) ∧
  va_T .int (gP G 0) (gN G) (fun j => .int (gX G j)) (gA G) U U.heap ∧ va_T .int (gP G 1) 7 (fun j => .int (abv j)) (gA G) U U.heap ∧
  vk_S 4 txl txs (fun i => gP G (2 + i)) (fun i => gP G (6 + i)) (gA G) U U.heap ∧ vk_R "PearSummer$Wall" 62 "ripe" (gP G 2) U ∧ vk_R "PearSummer$Wall" 71 "shade" (gP G 3) U ∧ vk_R "PearSummer$Wall" 73 "sun" (gP G 4) U ∧ vk_R "PearSummer$Wall" 92 "pkvhrd" (gP G 5) U
/-- a method at work -/
def Cx (G : Gl) (p : Program) (R : Room) (s : State) (m : MethodId) (args : Array Value) (meth : Method) (c : Code) (md : Md) (r : Nat) : Prop :=
  p.tables.exec = Jvm.exec ∧ c.code = md.2.2.1 ∧ meth.sig.returnType = md.2.2.2.2.1 ∧ meth.locks = false ∧ c.maxLocals = md.2.2.2.1 ∧ s.vm.findClass (on md.1) = some m.cls ∧ meth.name = md.2.1.name ∧ (∀ w ∈ tbg, w.before args s = true) ∧ Sg G s ∧ r ≤ R.frames ∧ 64 * r ≤ R.locals
/-- its locals -/
def Lc (G : Gl) (md : Md) (ls : Array Slot) (L : List Value) : Prop :=
  ls.size = md.2.2.2.1 ∧ L.length = md.2.2.2.1 ∧ lv_wf ls ∧ (md.2.2.2.2.2.1 = false → ∀ v ∈ L, v.category = 1) ∧ ∀ (i : Nat) (v : Value), L[i]? = some v → v ≠ .null → ls[i]? = some (.val (shv G v))
def Wg (G : Gl) (p : Program) (l : Launch) (e : Env) (R : Room) (s : State) (m : MethodId) (args : Array Value) (below : List Frame) (meth : Method) (c : Code) (md : Md) (pc : Nat) (L st : List Value) (w : Wd) (cells slots : Nat) (Q : State → Prop) : Prop :=
  ∀ (H : Heap) (locs : List Loc) (ls : Array Slot), Lc G md ls L → HpG G w.1 w.2.1 H → va_S (gA G) s.heap H locs → W p l e R s m args below meth c H locs cells slots Q (F0 m pc ls (st.map (shv G)))
theorem nx_inj {a a' : Nat} {b b' d d' : List Value} {w w' : Wd} (h : nx a b d w = nx a' b' d' w') : a = a' ∧ b = b' ∧ d = d' ∧ w = w' := by
  unfold nx at h
  injection h with h
  injection h with h
  injection h with h1 h
  injection h with h2 h
  injection h with h3 h4
  exact ⟨h1, h2, h3, h4⟩
theorem ln_eq {len k : Nat} {a : Act} {q : (Nat × List Value × List Value × Wd) ⊕ Ot ⊕ (Nat × Md × List Value × Nat × List Value)} (h : ln len k a = some q) : len = k ∧ a = some q := by
  unfold ln at h
  by_cases e : len = k
  · rw [if_pos e] at h; exact ⟨e, h⟩
  · rw [if_neg e] at h; cases h
theorem shv_cat (G : Gl) (hF : gF G = .null ∨ ∃ q, gF G = .ref q) (v : Value) : (shv G v).category = v.category := by
  cases v with
  | retAddr k =>
    show (gF G).category = _
    rcases hF with h | ⟨q, h⟩ <;> rw [h] <;> rfl
  | _ => rfl
theorem wl_len (G : Gl) (h : Nat → Cl) (n : Nat) : (wl G h n).length = n - 16 := by simp [wl]
theorem wl_at {G : Gl} {h : Nat → Cl} {n a : Nat} (h1 : 16 ≤ a) (h2 : a < n) : (wl G h n)[a - 16]? = some (adr G a, enc G (h a)) := by
  unfold wl
  rw [List.getElem?_map, List.getElem?_range (by omega)]
  simp only [Option.map_some]
  rw [show 16 + (a - 16) = a by omega]
  unfold adr
  rw [if_neg (by omega)]
theorem wl_set {G : Gl} {h : Nat → Cl} {n a : Nat} {c : Cl} (h1 : 16 ≤ a) (h2 : a < n) : (wl G h n).set (a - 16) (adr G a, enc G c) = wl G (uph h a c) n := by
  apply List.ext_getElem?
  intro i
  rw [List.getElem?_set]
  by_cases hi : i < n - 16
  · by_cases e : a - 16 = i
    · subst e
      rw [if_pos rfl, if_pos (by rw [wl_len]; omega), wl_at h1 h2]
      simp [uph]
    · rw [if_neg e]
      unfold wl
      rw [List.getElem?_map, List.getElem?_map, List.getElem?_range hi]
      simp only [Option.map_some]
      unfold uph
      rw [if_neg (by omega)]
  · have e1 : (wl G h n)[i]? = none := List.getElem?_eq_none (by rw [wl_len]; omega)
    have e2 : (wl G (uph h a c) n)[i]? = none := List.getElem?_eq_none (by rw [wl_len]; omega)
    rw [e2, e1, wl_len]
    by_cases e : a - 16 = i
    · rw [if_pos e, if_neg (by omega)]
    · rw [if_neg e]
theorem wl_push {G : Gl} {h : Nat → Cl} {n : Nat} {c : Cl} (h1 : 16 ≤ n) : wl G h n ++ [(adr G n, enc G c)] = wl G (uph h n c) (n + 1) := by
  unfold wl
  rw [show n + 1 - 16 = (n - 16) + 1 by omega, List.range_succ, List.map_append]
  congr 1
  · apply List.map_congr_left
    intro i hi
    have := List.mem_range.mp hi
    unfold uph
    rw [if_neg (by omega)]
  · simp only [List.map_cons, List.map_nil]
    rw [show 16 + (n - 16) = n by omega]
    unfold uph adr
    rw [if_neg (by omega), if_pos rfl]
theorem wl_D {G : Gl} {h : Nat → Cl} {n : Nat} : va_D (gA G) (wl G h n) := by
  refine ⟨fun i j p q hp hq e => ?_, fun k q hq => ?_⟩
  · unfold wl at hp hq
    rw [List.getElem?_map] at hp hq
    cases h1 : (List.range (n - 16))[i]? with
    | none => rw [h1] at hp; cases hp
    | some a =>
      cases h2 : (List.range (n - 16))[j]? with
      | none => rw [h2] at hq; cases hq
      | some b =>
        rw [h1] at hp; rw [h2] at hq
        cases hp; cases hq
        have e1 := List.getElem?_eq_some_iff.mp h1
        have e2 := List.getElem?_eq_some_iff.mp h2
        obtain ⟨q1, e1⟩ := e1
        obtain ⟨q2, e2⟩ := e2
        rw [List.getElem_range] at e1 e2
        simp only at e
        omega
  · unfold wl at hq
    rw [List.getElem?_map] at hq
    cases h1 : (List.range (n - 16))[k]? with
    | none => rw [h1] at hq; cases hq
    | some a => rw [h1] at hq; cases hq; exact Nat.le_add_right _ _
theorem em_own : ownc em = false := rfl
/-- a cell that is an object or an array of ours is a cell of ours -/
theorem HpG.own {G : Gl} {h : Nat → Cl} {n : Nat} {H : Heap} (hh : HpG G h n H) {a : Nat} (ho : ownc (h a) = true) : 16 ≤ a ∧ a < n := by
  obtain ⟨h0, h1, h2, h3, h4, h5⟩ := hh
  rcases Nat.lt_or_ge a 10 with q | q
  · exfalso
    rw [h4 a q] at ho
    unfold pcl at ho
    repeat' split at ho
    all_goals first | (simp [ownc, iA, ob, kd] at ho; done) | (cases ho; done)
  · rcases Nat.lt_or_ge a 16 with q2 | q2
    · rw [h5 a (Or.inl ⟨q, q2⟩)] at ho; cases ho
    · rcases Nat.lt_or_ge a n with q3 | q3
      · exact ⟨q2, q3⟩
      · rw [h5 a (Or.inr q3)] at ho; cases ho
theorem HpG.pre {G : Gl} {h : Nat → Cl} {n : Nat} {H : Heap} (hh : HpG G h n H) {a : Nat} (ho : ownc (h a) = false) (he : h a ≠ em) : a < 10 ∧ h a = pcl G a := by
  obtain ⟨h0, h1, h2, h3, h4, h5⟩ := hh
  rcases Nat.lt_or_ge a 10 with q | q
  · exact ⟨q, h4 a q⟩
  · rcases Nat.lt_or_ge a 16 with q2 | q2
    · exact absurd (h5 a (Or.inl ⟨q, q2⟩)) he
    · rcases Nat.lt_or_ge a n with q3 | q3
      · rw [h3 a q2 q3] at ho; cases ho
      · exact absurd (h5 a (Or.inr q3)) he
