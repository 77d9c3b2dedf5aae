/-! What holds at the law's entry. -/
theorem wd_in {i : Nat} {w : Cond} (h : lw_tbl[i]? = some w) : w ∈ lw_tbl := List.mem_of_getElem? h
theorem nst_0 : Cond.methodLinkNest RX11 13 yX5_init RX11 ∈ lw_tbl := wd_in (i := 112) (by decide +kernel)
theorem nst_1 : Cond.methodLinkNest RX11 16 yX2_init RX11 ∈ lw_tbl := wd_in (i := 119) (by decide +kernel)
theorem nst_2 : Cond.methodLinkNest RX2 1 yX5_init RX11 ∈ lw_tbl := wd_in (i := 122) (by decide +kernel)
theorem nst_3 : Cond.methodLinkNest RX11 19 yX4_init RX11 ∈ lw_tbl := wd_in (i := 126) (by decide +kernel)
theorem nst_4 : Cond.methodLinkNest RX4 1 yX5_init RX11 ∈ lw_tbl := wd_in (i := 129) (by decide +kernel)
theorem nst_5 : Cond.methodLinkNest RX11 22 yX0_init RX11 ∈ lw_tbl := wd_in (i := 133) (by decide +kernel)
theorem nst_6 : Cond.methodLinkNest RX0 1 yX5_init RX11 ∈ lw_tbl := wd_in (i := 136) (by decide +kernel)
theorem nst_7 : Cond.methodLinkNest RX11 25 yX9_init RX11 ∈ lw_tbl := wd_in (i := 140) (by decide +kernel)
theorem nst_8 : Cond.methodLinkNest RX9 1 yX2_init RX11 ∈ lw_tbl := wd_in (i := 143) (by decide +kernel)
theorem nst_9 : Cond.methodLinkNest RX11 28 yX3_init RX11 ∈ lw_tbl := wd_in (i := 147) (by decide +kernel)
theorem nst_10 : Cond.methodLinkNest RX3 1 yX4_init RX11 ∈ lw_tbl := wd_in (i := 150) (by decide +kernel)
theorem nst_11 : Cond.methodLinkNest RX11 31 yX7_init RX11 ∈ lw_tbl := wd_in (i := 154) (by decide +kernel)
theorem nst_12 : Cond.methodLinkNest RX7 1 yX0_init RX11 ∈ lw_tbl := wd_in (i := 157) (by decide +kernel)
theorem nst_13 : Cond.methodLinkNest RX11 55 yX1_init RX11 ∈ lw_tbl := wd_in (i := 258) (by decide +kernel)
theorem nst_14 : Cond.castable "[B" "java/lang/Cloneable" ∈ lw_tbl := wd_in (i := 493) (by decide +kernel)
theorem nst_15 : Cond.castable RX2 RX5 ∈ lw_tbl := wd_in (i := 1560) (by decide +kernel)
theorem nst_16 : Cond.castable RX4 RX5 ∈ lw_tbl := wd_in (i := 1561) (by decide +kernel)
theorem nst_17 : Cond.castable RX0 RX5 ∈ lw_tbl := wd_in (i := 1562) (by decide +kernel)
theorem nst_18 : Cond.castable RX9 RX5 ∈ lw_tbl := wd_in (i := 1563) (by decide +kernel)
theorem nst_19 : Cond.castable RX3 RX5 ∈ lw_tbl := wd_in (i := 1564) (by decide +kernel)
theorem nst_20 : Cond.castable RX7 RX5 ∈ lw_tbl := wd_in (i := 1565) (by decide +kernel)
theorem nwl_in : ∀ w ∈ nwl, w ∈ lw_tbl := List.forall_mem_cons.mpr ⟨nst_0, List.forall_mem_cons.mpr ⟨nst_1, List.forall_mem_cons.mpr ⟨nst_2, List.forall_mem_cons.mpr ⟨nst_3, List.forall_mem_cons.mpr ⟨nst_4, List.forall_mem_cons.mpr ⟨nst_5, List.forall_mem_cons.mpr ⟨nst_6, List.forall_mem_cons.mpr ⟨nst_7, List.forall_mem_cons.mpr ⟨nst_8, List.forall_mem_cons.mpr ⟨nst_9, List.forall_mem_cons.mpr ⟨nst_10, List.forall_mem_cons.mpr ⟨nst_11, List.forall_mem_cons.mpr ⟨nst_12, List.forall_mem_cons.mpr ⟨nst_13, List.forall_mem_cons.mpr ⟨nst_14, List.forall_mem_cons.mpr ⟨nst_15, List.forall_mem_cons.mpr ⟨nst_16, List.forall_mem_cons.mpr ⟨nst_17, List.forall_mem_cons.mpr ⟨nst_18, List.forall_mem_cons.mpr ⟨nst_19, List.forall_mem_cons.mpr ⟨nst_20, fun _ h => absurd h List.not_mem_nil⟩⟩⟩⟩⟩⟩⟩⟩⟩⟩⟩⟩⟩⟩⟩⟩⟩⟩⟩⟩⟩
theorem wd_ao : Cond.arrayOver (.object RX5) ∈ lw_tbl := wd_in (i := 110) (by decide +kernel)
theorem wd_ai : Cond.arrayOver (.array .int) ∈ lw_tbl := wd_in (i := 166) (by decide +kernel)
theorem wd_aj : Cond.arrayOver (.array .long) ∈ lw_tbl := wd_in (i := 284) (by decide +kernel)
theorem wd_lab : Cond.laysStatic "PearSummer" "ABOVE" "[I" ∈ lw_tbl := wd_in (i := 937) (by decide +kernel)
theorem wd_iab : Cond.initialized "PearSummer" ∈ lw_tbl := wd_in (i := 79) (by decide +kernel)
theorem wd_lcs : Cond.laysStatic "java/lang/String" "COMPACT_STRINGS" "Z" ∈ lw_tbl := wd_in (i := 558) (by decide +kernel)
theorem wd_ics : Cond.initialized "java/lang/String" ∈ lw_tbl := wd_in (i := 96) (by decide +kernel)
theorem wd_lsf : Cond.laysStatic "jdk/internal/util/Preconditions" "SIOOBE_FORMATTER" fmtD ∈ lw_tbl := wd_in (i := 574) (by decide +kernel)
theorem wd_isf : Cond.initialized "jdk/internal/util/Preconditions" ∈ lw_tbl := wd_in (i := 98) (by decide +kernel)
theorem wd_s62 : Cond.stringRef "PearSummer$Wall" 62 "ripe" ∈ lw_tbl := wd_in (i := 544) (by decide +kernel)
theorem wd_s71 : Cond.stringRef "PearSummer$Wall" 71 "shade" ∈ lw_tbl := wd_in (i := 605) (by decide +kernel)
theorem wd_s73 : Cond.stringRef "PearSummer$Wall" 73 "sun" ∈ lw_tbl := wd_in (i := 606) (by decide +kernel)
theorem wd_s92 : Cond.stringRef "PearSummer$Wall" 92 "pkvhrd" ∈ lw_tbl := wd_in (i := 623) (by decide +kernel)
def gvl : List Cond := flatC (Jvm.Cond.and given_1 narrow_1)
def stm (i : Nat) : Term := .string "PearSummer$Wall" (([62, 71, 73, 92] : List Nat).getD i 0)
theorem gv_ab : ∀ j, j < 7 → Cond.eq (.elem (.static "PearSummer" "ABOVE" "[I") (.int (Int32.ofNat j))) (.int (abv j)) ∈ gvl := by decide +kernel
theorem gv_aa : Cond.arrayOf (.static "PearSummer" "ABOVE" "[I") .int ∈ gvl := by decide +kernel
theorem gv_al : Cond.eq (.length (.static "PearSummer" "ABOVE" "[I")) (.int (Int32.ofNat 7)) ∈ gvl := by decide +kernel
theorem gv_cs : Cond.eq (.static "java/lang/String" "COMPACT_STRINGS" "Z") (.int 1) ∈ gvl := by decide +kernel
theorem gv_sf : Cond.isRef (.static "jdk/internal/util/Preconditions" "SIOOBE_FORMATTER" fmtD) ∈ gvl := by decide +kernel
theorem gv_sx : ∀ i, i < 4 → Cond.exactly (stm i) "java/lang/String" ∈ gvl := by decide +kernel
theorem gv_sc : ∀ i, i < 4 → Cond.eq (.field (stm i) "java/lang/String" "code\x72" "B") (.int 0) ∈ gvl := by decide +kernel
theorem gv_sa : ∀ i, i < 4 → Cond.arrayOf (.field (stm i) "java/lang/String" "value" "[B") .byte ∈ gvl := by decide +kernel
theorem gv_sl : ∀ i, i < 4 → Cond.eq (.length (.field (stm i) "java/lang/String" "value" "[B")) (.int (Int32.ofNat (txl.getD i 0))) ∈ gvl := by decide +kernel
theorem gv_se : ∀ i, i < 4 → ∀ j, j < txl.getD i 0 → Cond.eq (.elem (.field (stm i) "java/lang/String" "value" "[B") (.int (Int32.ofNat j))) (.int ((txs.getD i []).getD j 0)) ∈ gvl := by decide +kernel
theorem gv_sn : ∀ i, i < 4 → ∀ j, j < 4 → i ≠ j → Cond.not (Cond.eq (stm i) (stm j)) ∈ gvl ∨ Cond.not (Cond.eq (stm j) (stm i)) ∈ gvl := by decide +kernel
theorem txl_lt : ∀ i, i < 4 → txl.getD i 0 < 2 ^ 31 := by decide +kernel
theorem vkS_congr {N : Nat} {len : List Nat} {byt : List (List Int32)} {aK aV bK bV : Nat → Nat} {A : Nat → Prop} {U : State} {H : Heap} (h1 : ∀ i, i < N → bK i = aK i) (h2 : ∀ i, i < N → bV i = aV i) (h : vk_S N len byt aK aV A U H) : vk_S N len byt bK bV A U H := by
  refine ⟨fun i hi => ?_, fun i j hi hj e => h.2 i j hi hj ?_⟩
  · rw [h1 i hi, h2 i hi]
    exact h.1 i hi
  · rw [← h1 i hi, ← h1 j hj]
    exact e
theorem ar_of {s : State} {args : Array Value} {ty : FieldType} (hty : ∀ C, ty ≠ .object C) (h : (Cond.arrayClass ty).before args s = true) : ∃ cA : ClassId, ArrOfT s cA ty ∧ va_RA s cA ty := by
  obtain ⟨c, k, comp, h1, h2, h3⟩ := Cond.arrayClass_spec h
  refine ⟨c, fun n z => ⟨fun k h => (by cases h), k, h2, comp, h3⟩, ?_⟩
  cases ty with
  | object C => exact absurd rfl (hty C)
  | _ => exact h1
theorem ar_ofA {s : State} {args : Array Value} {t : FieldType} (h : (Cond.arrayOver (.array t)).before args s = true) : ∃ cA : ClassId, ArrOfT s cA (.array t) ∧ va_RA s cA (.array t) := by
  obtain ⟨comp, c, k, h1, h2, h3, h4, h5⟩ := arrayOverA_spec h
  exact ⟨c, fun n z => ⟨fun k h => (by cases h), k, h3, comp, h4⟩, h5⟩
theorem ar_ofO {s : State} {args : Array Value} {C : String} (h : (Cond.arrayOver (.object C)).before args s = true) : ∃ cA : ClassId, ArrOfT s cA (.object C) ∧ va_RA s cA (.object C) := by
  obtain ⟨comp, c, k, h1, h2, h3, h4, h5⟩ := Cond.arrayOver_spec h
  exact ⟨c, fun n z => ⟨fun k h => (by cases h), k, h3, comp, h4⟩, k, comp, h3, h4, h1, h5⟩
theorem kn_all {s : State} {args : Array Value} (htg : ∀ w ∈ tbg, w.before args s = true) : ∃ d : Nat → ClassId × (Nat → Nat), ∀ (ci : Nat) (q : vw_C), kcl[ci]? = some q → u_Kn s q.1 q.2.1 q.2.2 (d ci).1 (d ci).2 := by
  have hk : ∀ ci : Nat, ∃ d : ClassId × (Nat → Nat), ∀ q : vw_C, kcl[ci]? = some q → u_Kn s q.1 q.2.1 q.2.2 d.1 d.2 := by
    intro ci
    by_cases hc : ci < 13
    · obtain ⟨q, e1, e2, e3, e4, e5, e6, e7, e8, e9⟩ := kw ci hc
      obtain ⟨cC, iS, hK⟩ := u_known (C := q.1) (T := q.2.1) (N := q.2.2) (n := q.2.2) htg e5 (htg _ e8)
      refine ⟨(cC, iS), fun q' h => ?_⟩
      cases e1.symm.trans h
      exact hK
    · refine ⟨((0 : Nat), fun _ => 0), fun q h => ?_⟩
      have hl : kcl.length = 13 := rfl
      have := (List.getElem?_eq_some_iff.mp h).1
      omega
  exact Classical.axiomOfChoice hk
def gPf (b t : Nat) (aK aV : Nat → Nat) : Nat → Nat := fun a => if a = 0 then b else if a = 1 then t else if a < 6 then aK (a - 2) else aV (a - 6)
def gTf (c0 c1 c2 c3 c4 c5 c6 c7 : ClassId) : Nat → ClassId := fun k => match k with
  | 0 => c0
  | 1 => c1
  | 2 => c2
  | 3 => c3
  | 4 => c4
  | 5 => c5
  | 6 => c6
  | _ => c7
theorem gPf_k {b t : Nat} {aK aV : Nat → Nat} {i : Nat} (h : i < 4) : gPf b t aK aV (2 + i) = aK i := by
  unfold gPf
  rw [if_neg (by omega), if_neg (by omega), if_pos (by omega), Nat.add_sub_cancel_left]
theorem gPf_v {b t : Nat} {aK aV : Nat → Nat} {i : Nat} : gPf b t aK aV (6 + i) = aV i := by
  unfold gPf
  rw [if_neg (by omega), if_neg (by omega), if_neg (by omega), Nat.add_sub_cancel_left]
theorem tbl_t {s : State} {b L : Nat} {xs : Nat → Int32} {A : Nat → Prop} (h : va_X b L xs s s.heap) (hA : ¬ A b) : va_T .int b L (fun j => .int (xs j)) A s s.heap := by
  obtain ⟨scr, h1, h2, h3, h4, h5⟩ := h
  exact ⟨scr, h1, h2, h3, Nat.le_of_eq h4.symm, by rw [h4], h5, hA⟩
/-- the cells and tables at the law's entry -/
theorem st_G {s : State} {b L : Nat} {xs : Nat → Int32} (hts : ∀ w ∈ lw_tbl, w.before #[Value.ref b] s = true) (hX : va_X b L xs s s.heap) (hbl : b < s.heap.size) (hgv : (Jvm.Cond.and given_1 narrow_1).before #[Value.ref b] s = true) : ∃ G : Gl, gB G = s.heap.size ∧ gN G = L ∧ gX G = xs ∧ gP G 0 = b ∧ Sg G s := by
  have hs : ∀ w ∈ gvl, w.before #[Value.ref b] s = true := flat_of_before _ hgv
  have htg : ∀ w ∈ tbg, w.before #[Value.ref b] s = true := fun w hw => hts w (List.mem_filter.mp hw).1
  have hA : ∀ a : Nat, a < s.heap.size → ¬ (fun q : Nat => s.heap.size ≤ q) a := fun a h => Nat.not_le.mpr h
  obtain ⟨d, hd⟩ := kn_all htg
  obtain ⟨c0, r0⟩ := ar_of (ty := .int) (fun C h => by cases h) (htg _ aw_int)
  obtain ⟨c1, r1⟩ := ar_of (ty := .byte) (fun C h => by cases h) (htg _ aw_byte)
  obtain ⟨c2, r2⟩ := ar_of (ty := .char) (fun C h => by cases h) (htg _ aw_char)
  obtain ⟨c3, r3⟩ := ar_of (ty := .boolean) (fun C h => by cases h) (htg _ aw_boolean)
  obtain ⟨c4, r4⟩ := ar_of (ty := .long) (fun C h => by cases h) (htg _ aw_long)
  obtain ⟨c5, r5⟩ := ar_ofA (hts _ wd_ai)
  obtain ⟨c6, r6⟩ := ar_ofA (hts _ wd_aj)
  obtain ⟨c7, r7⟩ := ar_ofO (hts _ wd_ao)
  obtain ⟨t, ht, hT⟩ := va_Tof (f := fun j => .int (abv j)) (A := fun q : Nat => s.heap.size ≤ q) (Nat.le_of_ble_eq_true rfl) (hs _ gv_aa) (va_eqt (hs _ gv_al)) (fun j hj => va_eqt (hs _ (gv_ab j hj))) hA
  have hZ1 := va_Zof (A := fun q : Nat => s.heap.size ≤ q) (hts _ wd_lab) (hts _ wd_iab) ht hA
  have hZ2 := va_Zof (A := fun q : Nat => s.heap.size ≤ q) (hts _ wd_lcs) (hts _ wd_ics) (va_eqi (hs _ gv_cs)) hA
  obtain ⟨v, hv, hZ3⟩ : ∃ v : Value, (v = .null ∨ ∃ q, v = .ref q) ∧ va_Z "jdk/internal/util/Preconditions" "SIOOBE_FORMATTER" fmtD v (fun q : Nat => s.heap.size ≤ q) s s.heap := by
    rcases va_Zqof (A := fun q : Nat => s.heap.size ≤ q) (hts _ wd_lsf) (hts _ wd_isf) (hs _ gv_sf) hA with h | ⟨q, h⟩
    · exact ⟨.null, Or.inl rfl, h⟩
    · exact ⟨.ref q, Or.inr ⟨q, rfl⟩, h⟩
  obtain ⟨aK, aV, hV, hev⟩ := vk_Sof (N := 4) (tm := stm) (len := txl) (byt := txs) (A := fun q : Nat => s.heap.size ≤ q) txl_lt (fun i hi => hs _ (gv_sx i hi)) (fun i hi => hs _ (gv_sc i hi)) (fun i hi => hs _ (gv_sa i hi)) (fun i hi => hs _ (gv_sl i hi)) (fun i hi j hj => hs _ (gv_se i hi j hj)) (fun i j hi hj hne => (gv_sn i hi j hj hne).elim (fun h => Or.inl (hs _ h)) (fun h => Or.inr (hs _ h))) hA
  have hK : va_K (fun k => (d k).1, fun k => (d k).2) kcl [(c0, .int), (c1, .byte), (c2, .char), (c3, .boolean), (c4, .long), (c5, .array .int), (c6, .array .long), (c7, .object RX5)] s := by
    refine ⟨fun ci q h => hd ci q h, fun k q h => ?_⟩
    match k, h with
    | 0, h => cases h; exact r0
    | 1, h => cases h; exact r1
    | 2, h => cases h; exact r2
    | 3, h => cases h; exact r3
    | 4, h => cases h; exact r4
    | 5, h => cases h; exact r5
    | 6, h => cases h; exact r6
    | 7, h => cases h; exact r7
    | k + 8, h => simp at h
  refine ⟨(s.heap.size, (fun k => (d k).1, fun k => (d k).2), gTf c0 c1 c2 c3 c4 c5 c6 c7, gPf b t aK aV, v, L, xs), rfl, rfl, rfl, rfl, Nat.le_refl _, hK, ?_, hts _ wd_ao, hts _ wd_ai, hts _ wd_aj, hZ1, hZ2, hZ3, hv, tbl_t hX (hA b hbl), hT, vkS_congr (fun i hi => gPf_k hi) (fun i hi => gPf_v) hV, vk_R.of (hts _ wd_s62) (hev 0 (by decide)), vk_R.of (hts _ wd_s71) (hev 1 (by decide)), vk_R.of (hts _ wd_s73) (hev 2 (by decide)), vk_R.of (hts _ wd_s92) (hev 3 (by decide))⟩
  intro w hw
  have hot : nwl.all (fun w => w.onTables) = true := by decide +kernel
  exact va_Nw.of (List.all_eq_true.mp hot w hw) (hts w (nwl_in w hw))
