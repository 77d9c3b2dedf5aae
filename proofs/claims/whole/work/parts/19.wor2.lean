theorem cpw_0 : Cond.methodLink (on 6) 22 arraycopyName ∈ tbg := tb_in (i := 835) (by decide +kernel) rfl
theorem cpw_1 : Cond.methodLink (on 8) 77 arraycopyName ∈ tbg := tb_in (i := 429) (by decide +kernel) rfl
theorem cpw_2 : Cond.methodLink (on 11) 324 arraycopyName ∈ tbg := tb_in (i := 964) (by decide +kernel) rfl
theorem cpw_3 : Cond.methodLink (on 27) 150 arraycopyName ∈ tbg := tb_in (i := 496) (by decide +kernel) rfl
theorem cpw {o i : Nat} (h : isCopy o i = true) : Cond.methodLink (on o) i arraycopyName ∈ tbg := by
  have h1 : (o, i) ∈ ([(6, 22), (8, 77), (11, 324), (27, 150)] : List (Nat × Nat)) := List.contains_iff_mem.mp h
  simp only [List.mem_cons, Prod.mk.injEq, List.not_mem_nil, or_false] at h1
  rcases h1 with ⟨rfl, rfl⟩ | ⟨rfl, rfl⟩ | ⟨rfl, rfl⟩ | ⟨rfl, rfl⟩
  · exact cpw_0
  · exact cpw_1
  · exact cpw_2
  · exact cpw_3
theorem cpn : Cond.native arraycopyName ∈ tbg := tb_in (i := 431) (by decide +kernel) rfl
theorem cps : Cond.static arraycopyName ∈ tbg := tb_in (i := 430) (by decide +kernel) rfl
theorem cpi0 : Cond.initialized "java/lang/System" ∈ tbg := tb_in (i := 94) (by decide +kernel) rfl
theorem obw_0 : Cond.methodLink (on 1) 1 Lib.objectInit ∈ tbg := tb_in (i := 261) (by decide +kernel) rfl
theorem obw_1 : Cond.methodLink (on 5) 1 Lib.objectInit ∈ tbg := tb_in (i := 115) (by decide +kernel) rfl
theorem obw_2 : Cond.methodLink (on 6) 3 Lib.objectInit ∈ tbg := tb_in (i := 172) (by decide +kernel) rfl
theorem obw_3 : Cond.methodLink (on 8) 3 Lib.objectInit ∈ tbg := tb_in (i := 164) (by decide +kernel) rfl
theorem obw_4 : Cond.methodLink (on 10) 3 Lib.objectInit ∈ tbg := tb_in (i := 500) (by decide +kernel) rfl
theorem obw_5 : Cond.methodLink (on 11) 5 Lib.objectInit ∈ tbg := tb_in (i := 106) (by decide +kernel) rfl
theorem obw_6 : Cond.methodLink (on 12) 1 Lib.objectInit ∈ tbg := tb_in (i := 970) (by decide +kernel) rfl
theorem obw {o i : Nat} (h : isObj o i = true) : Cond.methodLink (on o) i Lib.objectInit ∈ tbg := by
  have h1 : (o, i) ∈ ([(1, 1), (5, 1), (6, 3), (8, 3), (10, 3), (11, 5), (12, 1)] : List (Nat × Nat)) := List.contains_iff_mem.mp h
  simp only [List.mem_cons, Prod.mk.injEq, List.not_mem_nil, or_false] at h1
  rcases h1 with ⟨rfl, rfl⟩ | ⟨rfl, rfl⟩ | ⟨rfl, rfl⟩ | ⟨rfl, rfl⟩ | ⟨rfl, rfl⟩ | ⟨rfl, rfl⟩ | ⟨rfl, rfl⟩
  · exact obw_0
  · exact obw_1
  · exact obw_2
  · exact obw_3
  · exact obw_4
  · exact obw_5
  · exact obw_6
theorem obi : Cond.instanceMethod Lib.objectInit ∈ tbg := tb_in (i := 107) (by decide +kernel) rfl
theorem obc : Cond.code Lib.objectInit ⟨#[0xb1]⟩ 1 none ∈ tbg := tb_in (i := 108) rfl rfl
theorem clw1 : Cond.methodLink (on 27) 310 ⟨"[B", "clone", "()Ljava/lang/Object;"⟩ ∈ tbg := tb_in (i := 488) (by decide +kernel) rfl
theorem clw2 : Cond.sameMethod "[B" "java/lang/Object" "clone" "()Ljava/lang/Object;" ∈ tbg := tb_in (i := 489) (by decide +kernel) rfl
theorem clw3 : Cond.native ⟨"java/lang/Object", "clone", "()Ljava/lang/Object;"⟩ ∈ tbg := tb_in (i := 490) (by decide +kernel) rfl
theorem clw4 : Cond.instanceMethod ⟨"java/lang/Object", "clone", "()Ljava/lang/Object;"⟩ ∈ tbg := tb_in (i := 491) (by decide +kernel) rfl
theorem clw5 : Cond.selects "[B" ⟨"[B", "clone", "()Ljava/lang/Object;"⟩ ⟨"java/lang/Object", "clone", "()Ljava/lang/Object;"⟩ ∈ tbg := tb_in (i := 492) (by decide +kernel) rfl
theorem maxw_0 : Cond.methodLink (on 2) 11 Lib.Math.max.name ∈ tbg := tb_in (i := 382) (by decide +kernel) rfl
theorem maxw_1 : Cond.methodLink (on 4) 11 Lib.Math.max.name ∈ tbg := tb_in (i := 392) (by decide +kernel) rfl
theorem maxw_2 : Cond.methodLink (on 11) 230 Lib.Math.max.name ∈ tbg := tb_in (i := 748) (by decide +kernel) rfl
theorem maxw_3 : Cond.methodLink (on 21) 92 Lib.Math.max.name ∈ tbg := tb_in (i := 639) (by decide +kernel) rfl
theorem maxw {o i : Nat} (h : isMax o i = true) : Cond.methodLink (on o) i Lib.Math.max.name ∈ tbg := by
  have h1 : (o, i) ∈ ([(2, 11), (4, 11), (11, 230), (21, 92)] : List (Nat × Nat)) := List.contains_iff_mem.mp h
  simp only [List.mem_cons, Prod.mk.injEq, List.not_mem_nil, or_false] at h1
  rcases h1 with ⟨rfl, rfl⟩ | ⟨rfl, rfl⟩ | ⟨rfl, rfl⟩ | ⟨rfl, rfl⟩
  · exact maxw_0
  · exact maxw_1
  · exact maxw_2
  · exact maxw_3
theorem maxs : Cond.static Lib.Math.max.name ∈ tbg := tb_in (i := 383) (by decide +kernel) rfl
theorem maxc : Cond.code Lib.Math.max.name Lib.Math.max.code 2 (some .int) ∈ tbg := tb_in (i := 384) (by decide +kernel) rfl
theorem minw_0 : Cond.methodLink (on 8) 125 Lib.Math.min.name ∈ tbg := tb_in (i := 457) (by decide +kernel) rfl
theorem minw_1 : Cond.methodLink (on 11) 308 Lib.Math.min.name ∈ tbg := tb_in (i := 931) (by decide +kernel) rfl
theorem minw_2 : Cond.methodLink (on 21) 38 Lib.Math.min.name ∈ tbg := tb_in (i := 640) (by decide +kernel) rfl
theorem minw_3 : Cond.methodLink (on 27) 304 Lib.Math.min.name ∈ tbg := tb_in (i := 495) (by decide +kernel) rfl
theorem minw {o i : Nat} (h : isMin o i = true) : Cond.methodLink (on o) i Lib.Math.min.name ∈ tbg := by
  have h1 : (o, i) ∈ ([(8, 125), (11, 308), (21, 38), (27, 304)] : List (Nat × Nat)) := List.contains_iff_mem.mp h
  simp only [List.mem_cons, Prod.mk.injEq, List.not_mem_nil, or_false] at h1
  rcases h1 with ⟨rfl, rfl⟩ | ⟨rfl, rfl⟩ | ⟨rfl, rfl⟩ | ⟨rfl, rfl⟩
  · exact minw_0
  · exact minw_1
  · exact minw_2
  · exact minw_3
theorem mins : Cond.static Lib.Math.min.name ∈ tbg := tb_in (i := 458) (by decide +kernel) rfl
theorem minc : Cond.code Lib.Math.min.name Lib.Math.min.code 2 (some .int) ∈ tbg := tb_in (i := 459) (by decide +kernel) rfl
theorem mthi : Cond.initialized "java/lang/Math" ∈ tbg := tb_in (i := 93) (by decide +kernel) rfl
