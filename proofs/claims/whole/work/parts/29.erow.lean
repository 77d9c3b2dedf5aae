theorem ln_same (k : Nat) (a : Act) : ln k k a = a := if_pos rfl
section EROW
variable {r : Nat} {md : Md} {pc : Nat} {L st : List Value} {w : Wd} {h : Nat → Cl} {n z : Nat} {cc : ByteArray}
theorem e_iconst {k : Int} {v : Int32} (hb : md.2.2.1 = cc) (hd : decode cc pc = .ok (.iconst k, 1)) (hv : Int32.ofInt k = v) : E r md pc L st w = E r md (pc + 1) L (.int v :: st) w := by subst hv; exact E_nx (by unfold stp; rw [hb, hd]; rfl)
theorem e_bipush {k : Int} {v : Int32} (hb : md.2.2.1 = cc) (hd : decode cc pc = .ok (.bipush k, 2)) (hv : (Int8.ofInt k).toInt32 = v) : E r md pc L st w = E r md (pc + 2) L (.int v :: st) w := by subst hv; exact E_nx (by unfold stp; rw [hb, hd]; rfl)
theorem e_sipush {k : Int} {v : Int32} (hb : md.2.2.1 = cc) (hd : decode cc pc = .ok (.sipush k, 3)) (hv : (Int16.ofInt k).toInt32 = v) : E r md pc L st w = E r md (pc + 3) L (.int v :: st) w := by subst hv; exact E_nx (by unfold stp; rw [hb, hd]; rfl)
theorem e_lconst {k : Fin 2} {v : Int64} (hb : md.2.2.1 = cc) (hd : decode cc pc = .ok (.lconst k, 1)) (hv : Int64.ofNat (k : Nat) = v) : E r md pc L st w = E r md (pc + 1) L (.long v :: st) w := by subst hv; exact E_nx (by unfold stp; rw [hb, hd]; rfl)
theorem e_iload_n {k : Fin 4} {x : Int32} (hb : md.2.2.1 = cc) (hd : decode cc pc = .ok (.iload_n k, 1)) (hl : L[(k : Nat)]? = some (.int x)) : E r md pc L st w = E r md (pc + 1) L (.int x :: st) w := E_nx (by unfold stp; rw [hb, hd]; show ln _ _ (s_load _ _ _ _ _ _) = _; unfold s_load; rw [hl]; rfl)
theorem e_iload {k : Nat} {x : Int32} (hb : md.2.2.1 = cc) (hd : decode cc pc = .ok (.iload k, 2)) (hl : L[(k : Nat)]? = some (.int x)) : E r md pc L st w = E r md (pc + 2) L (.int x :: st) w := E_nx (by unfold stp; rw [hb, hd]; show ln _ _ (s_load _ _ _ _ _ _) = _; unfold s_load; rw [hl]; rfl)
theorem e_aload_n {k : Fin 4} {x : Nat} (hb : md.2.2.1 = cc) (hd : decode cc pc = .ok (.aload_n k, 1)) (hl : L[(k : Nat)]? = some (.ref x)) : E r md pc L st w = E r md (pc + 1) L (.ref x :: st) w := E_nx (by unfold stp; rw [hb, hd]; show ln _ _ (s_aload _ _ _ _ _ _) = _; unfold s_aload; rw [hl]; rfl)
theorem e_aload {k : Nat} {x : Nat} (hb : md.2.2.1 = cc) (hd : decode cc pc = .ok (.aload k, 2)) (hl : L[(k : Nat)]? = some (.ref x)) : E r md pc L st w = E r md (pc + 2) L (.ref x :: st) w := E_nx (by unfold stp; rw [hb, hd]; show ln _ _ (s_aload _ _ _ _ _ _) = _; unfold s_aload; rw [hl]; rfl)
theorem e_lload_n {k : Fin 4} {x : Int64} (hb : md.2.2.1 = cc) (hd : decode cc pc = .ok (.lload_n k, 1)) (hl : L[(k : Nat)]? = some (.long x)) : E r md pc L st w = E r md (pc + 1) L (.long x :: st) w := E_nx (by unfold stp; rw [hb, hd]; show ln _ _ (s_lload _ _ _ _ _ _) = _; unfold s_lload; rw [hl]; rfl)
theorem e_istore_n {k : Fin 4} {x : Int32} {L' : List Value} (hb : md.2.2.1 = cc) (hd : decode cc pc = .ok (.istore_n k, 1)) (hg : md.2.2.2.2.2.1 = false ∨ noL L k = true) (hk : (k : Nat) < L.length) (hL : L.set k (.int x) = L') : E r md pc L (.int x :: st) w = E r md (pc + 1) L' st w := by
  subst hL
  exact E_nx (by unfold stp; rw [hb, hd]; show ln _ _ (s_store _ _ _ _ _ _ _) = _; rw [ln_same]; unfold s_store; exact if_pos ⟨hg, hk⟩)
theorem e_istore {k : Nat} {x : Int32} {L' : List Value} (hb : md.2.2.1 = cc) (hd : decode cc pc = .ok (.istore k, 2)) (hg : md.2.2.2.2.2.1 = false ∨ noL L k = true) (hk : (k : Nat) < L.length) (hL : L.set k (.int x) = L') : E r md pc L (.int x :: st) w = E r md (pc + 2) L' st w := by
  subst hL
  exact E_nx (by unfold stp; rw [hb, hd]; show ln _ _ (s_store _ _ _ _ _ _ _) = _; rw [ln_same]; unfold s_store; exact if_pos ⟨hg, hk⟩)
theorem e_astore_n {k : Fin 4} {x : Nat} {L' : List Value} (hb : md.2.2.1 = cc) (hd : decode cc pc = .ok (.astore_n k, 1)) (hg : md.2.2.2.2.2.1 = false ∨ noL L k = true) (hk : (k : Nat) < L.length) (hL : L.set k (.ref x) = L') : E r md pc L (.ref x :: st) w = E r md (pc + 1) L' st w := by
  subst hL
  exact E_nx (by unfold stp; rw [hb, hd]; show ln _ _ (s_astore _ _ _ _ _ _ _) = _; rw [ln_same]; unfold s_astore; exact if_pos ⟨hg, hk⟩)
theorem e_astore {k : Nat} {x : Nat} {L' : List Value} (hb : md.2.2.1 = cc) (hd : decode cc pc = .ok (.astore k, 2)) (hg : md.2.2.2.2.2.1 = false ∨ noL L k = true) (hk : (k : Nat) < L.length) (hL : L.set k (.ref x) = L') : E r md pc L (.ref x :: st) w = E r md (pc + 2) L' st w := by
  subst hL
  exact E_nx (by unfold stp; rw [hb, hd]; show ln _ _ (s_astore _ _ _ _ _ _ _) = _; rw [ln_same]; unfold s_astore; exact if_pos ⟨hg, hk⟩)
theorem e_iinc {k : Nat} {d : Int} {x v : Int32} {L' : List Value} (hb : md.2.2.1 = cc) (hd : decode cc pc = .ok (.iinc k d, 3)) (hg : md.2.2.2.2.2.1 = false ∨ noL L k = true) (hl : L[k]? = some (.int x)) (hk : k < L.length) (hv : Int32.ofInt d = v) (hL : L.set k (.int (x + v)) = L') : E r md pc L st w = E r md (pc + 3) L' st w := by
  subst hv
  subst hL
  exact E_nx (by unfold stp; rw [hb, hd]; show ln _ _ (s_iinc _ _ _ _ _ _ _) = _; rw [ln_same]; unfold s_iinc; rw [hl]; exact if_pos ⟨hg, hk⟩)
theorem e_iadd {x y : Int32} (hb : md.2.2.1 = cc) (hd : decode cc pc = .ok (.iadd, 1)) : E r md pc L (.int y :: .int x :: st) w = E r md (pc + 1) L (.int (x + y) :: st) w := E_nx (by unfold stp; rw [hb, hd]; rfl)
theorem e_isub {x y : Int32} (hb : md.2.2.1 = cc) (hd : decode cc pc = .ok (.isub, 1)) : E r md pc L (.int y :: .int x :: st) w = E r md (pc + 1) L (.int (x - y) :: st) w := E_nx (by unfold stp; rw [hb, hd]; rfl)
theorem e_imul {x y : Int32} (hb : md.2.2.1 = cc) (hd : decode cc pc = .ok (.imul, 1)) : E r md pc L (.int y :: .int x :: st) w = E r md (pc + 1) L (.int (x * y) :: st) w := E_nx (by unfold stp; rw [hb, hd]; rfl)
theorem e_iand {x y : Int32} (hb : md.2.2.1 = cc) (hd : decode cc pc = .ok (.iand, 1)) : E r md pc L (.int y :: .int x :: st) w = E r md (pc + 1) L (.int (x &&& y) :: st) w := E_nx (by unfold stp; rw [hb, hd]; rfl)
theorem e_ior {x y : Int32} (hb : md.2.2.1 = cc) (hd : decode cc pc = .ok (.ior, 1)) : E r md pc L (.int y :: .int x :: st) w = E r md (pc + 1) L (.int (x ||| y) :: st) w := E_nx (by unfold stp; rw [hb, hd]; rfl)
theorem e_ixor {x y : Int32} (hb : md.2.2.1 = cc) (hd : decode cc pc = .ok (.ixor, 1)) : E r md pc L (.int y :: .int x :: st) w = E r md (pc + 1) L (.int (x ^^^ y) :: st) w := E_nx (by unfold stp; rw [hb, hd]; rfl)
theorem e_ishl {x y : Int32} (hb : md.2.2.1 = cc) (hd : decode cc pc = .ok (.ishl, 1)) : E r md pc L (.int y :: .int x :: st) w = E r md (pc + 1) L (.int (x <<< (y &&& 31)) :: st) w := E_nx (by unfold stp; rw [hb, hd]; rfl)
theorem e_ishr {x y : Int32} (hb : md.2.2.1 = cc) (hd : decode cc pc = .ok (.ishr, 1)) : E r md pc L (.int y :: .int x :: st) w = E r md (pc + 1) L (.int (x >>> (y &&& 31)) :: st) w := E_nx (by unfold stp; rw [hb, hd]; rfl)
theorem e_iushr {x y : Int32} (hb : md.2.2.1 = cc) (hd : decode cc pc = .ok (.iushr, 1)) : E r md pc L (.int y :: .int x :: st) w = E r md (pc + 1) L (.int ((x.toUInt32 >>> (y.toUInt32 &&& Int32.toUInt32 31)).toInt32) :: st) w := E_nx (by unfold stp; rw [hb, hd]; rfl)
theorem e_idiv {x y : Int32} (hb : md.2.2.1 = cc) (hd : decode cc pc = .ok (.idiv, 1)) (hy : ¬ y = 0) : E r md pc L (.int y :: .int x :: st) w = E r md (pc + 1) L (.int (x / y) :: st) w := E_nx (by unfold stp; rw [hb, hd]; show ln _ _ (s_div _ _ _ _ _) = _; rw [ln_same]; exact if_neg hy)
theorem e_irem {x y : Int32} (hb : md.2.2.1 = cc) (hd : decode cc pc = .ok (.irem, 1)) (hy : ¬ y = 0) : E r md pc L (.int y :: .int x :: st) w = E r md (pc + 1) L (.int (x - x / y * y) :: st) w := E_nx (by unfold stp; rw [hb, hd]; show ln _ _ (s_div _ _ _ _ _) = _; rw [ln_same]; exact if_neg hy)
theorem e_ineg {x : Int32} (hb : md.2.2.1 = cc) (hd : decode cc pc = .ok (.ineg, 1)) : E r md pc L (.int x :: st) w = E r md (pc + 1) L (.int (-x) :: st) w := E_nx (by unfold stp; rw [hb, hd]; rfl)
theorem e_i2b {x : Int32} (hb : md.2.2.1 = cc) (hd : decode cc pc = .ok (.i2b, 1)) : E r md pc L (.int x :: st) w = E r md (pc + 1) L (.int (x.toInt8.toInt32) :: st) w := E_nx (by unfold stp; rw [hb, hd]; rfl)
theorem e_i2s {x : Int32} (hb : md.2.2.1 = cc) (hd : decode cc pc = .ok (.i2s, 1)) : E r md pc L (.int x :: st) w = E r md (pc + 1) L (.int (x.toInt16.toInt32) :: st) w := E_nx (by unfold stp; rw [hb, hd]; rfl)
theorem e_i2c {x : Int32} (hb : md.2.2.1 = cc) (hd : decode cc pc = .ok (.i2c, 1)) : E r md pc L (.int x :: st) w = E r md (pc + 1) L (.int ((x.toUInt32 % 65536).toInt32) :: st) w := E_nx (by unfold stp; rw [hb, hd]; rfl)
theorem e_land {x y : Int64} (hb : md.2.2.1 = cc) (hd : decode cc pc = .ok (.land, 1)) : E r md pc L (.long y :: .long x :: st) w = E r md (pc + 1) L (.long (x &&& y) :: st) w := E_nx (by unfold stp; rw [hb, hd]; rfl)
theorem e_lor {x y : Int64} (hb : md.2.2.1 = cc) (hd : decode cc pc = .ok (.lor, 1)) : E r md pc L (.long y :: .long x :: st) w = E r md (pc + 1) L (.long (x ||| y) :: st) w := E_nx (by unfold stp; rw [hb, hd]; rfl)
theorem e_i2l {x : Int32} (hb : md.2.2.1 = cc) (hd : decode cc pc = .ok (.i2l, 1)) : E r md pc L (.int x :: st) w = E r md (pc + 1) L (.long x.toInt64 :: st) w := E_nx (by unfold stp; rw [hb, hd]; rfl)
theorem e_l2i {x : Int64} (hb : md.2.2.1 = cc) (hd : decode cc pc = .ok (.l2i, 1)) : E r md pc L (.long x :: st) w = E r md (pc + 1) L (.int x.toInt32 :: st) w := E_nx (by unfold stp; rw [hb, hd]; rfl)
theorem e_lshl {x : Int64} {y : Int32} (hb : md.2.2.1 = cc) (hd : decode cc pc = .ok (.lshl, 1)) : E r md pc L (.int y :: .long x :: st) w = E r md (pc + 1) L (.long (x <<< (y.toInt64 &&& 63)) :: st) w := E_nx (by unfold stp; rw [hb, hd]; rfl)
theorem e_lcmp {x y : Int64} (hb : md.2.2.1 = cc) (hd : decode cc pc = .ok (.lcmp, 1)) : E r md pc L (.long y :: .long x :: st) w = E r md (pc + 1) L (.int (lg_cmp x y) :: st) w := E_nx (by unfold stp; rw [hb, hd]; rfl)
theorem e_dupi {x : Int32} (hb : md.2.2.1 = cc) (hd : decode cc pc = .ok (.dup, 1)) : E r md pc L (.int x :: st) w = E r md (pc + 1) L (.int x :: .int x :: st) w := E_nx (by unfold stp; rw [hb, hd]; rfl)
theorem e_dupr {x : Nat} (hb : md.2.2.1 = cc) (hd : decode cc pc = .ok (.dup, 1)) : E r md pc L (.ref x :: st) w = E r md (pc + 1) L (.ref x :: .ref x :: st) w := E_nx (by unfold stp; rw [hb, hd]; rfl)
theorem e_dup2 {x : Nat} {y : Int32} (hb : md.2.2.1 = cc) (hd : decode cc pc = .ok (.dup2, 1)) : E r md pc L (.int y :: .ref x :: st) w = E r md (pc + 1) L (.int y :: .ref x :: .int y :: .ref x :: st) w := E_nx (by unfold stp; rw [hb, hd]; rfl)
theorem e_popi {x : Int32} (hb : md.2.2.1 = cc) (hd : decode cc pc = .ok (.pop, 1)) : E r md pc L (.int x :: st) w = E r md (pc + 1) L st w := E_nx (by unfold stp; rw [hb, hd]; rfl)
theorem e_popr {x : Nat} (hb : md.2.2.1 = cc) (hd : decode cc pc = .ok (.pop, 1)) : E r md pc L (.ref x :: st) w = E r md (pc + 1) L st w := E_nx (by unfold stp; rw [hb, hd]; rfl)
theorem jt_eq {pc : Nat} {off : Int} {tgt : Nat} (h : (pc : Int) + off = (tgt : Int)) : jok pc off = true ∧ jt pc off = tgt := by
  unfold jok jt
  exact ⟨decide_eq_true (by omega), by omega⟩
theorem e_if_eq {x : Int32} {off : Int} {tgt : Nat} (hb : md.2.2.1 = cc) (hd : decode cc pc = .ok (.ifCond .eq off, 3)) (ht : (pc : Int) + off = (tgt : Int)) : E r md pc L (.int x :: st) w = if x = 0 then E r md tgt L st w else E r md (pc + 3) L st w := by
  obtain ⟨h1, h2⟩ := jt_eq ht
  by_cases q : x = 0
  · rw [if_pos q]
    exact E_nx (by unfold stp; rw [hb, hd]; show (if jok pc off then (if c_eq x 0 then nx (jt pc off) L st w else nx (pc + 3) L st w) else none) = _; rw [if_pos h1, if_pos (show c_eq x 0 = true from decide_eq_true q), h2])
  · rw [if_neg q]
    exact E_nx (by unfold stp; rw [hb, hd]; show (if jok pc off then (if c_eq x 0 then nx (jt pc off) L st w else nx (pc + 3) L st w) else none) = _; rw [if_pos h1, if_neg (by unfold c_eq; rw [decide_eq_false q]; decide)])
theorem e_icmp_eq {x y : Int32} {off : Int} {tgt : Nat} (hb : md.2.2.1 = cc) (hd : decode cc pc = .ok (.if_icmp .eq off, 3)) (ht : (pc : Int) + off = (tgt : Int)) : E r md pc L (.int y :: .int x :: st) w = if x = y then E r md tgt L st w else E r md (pc + 3) L st w := by
  obtain ⟨h1, h2⟩ := jt_eq ht
  by_cases q : x = y
  · rw [if_pos q]
    exact E_nx (by unfold stp; rw [hb, hd]; show (if jok pc off then (if c_eq x y then nx (jt pc off) L st w else nx (pc + 3) L st w) else none) = _; rw [if_pos h1, if_pos (show c_eq x y = true from decide_eq_true q), h2])
  · rw [if_neg q]
    exact E_nx (by unfold stp; rw [hb, hd]; show (if jok pc off then (if c_eq x y then nx (jt pc off) L st w else nx (pc + 3) L st w) else none) = _; rw [if_pos h1, if_neg (by unfold c_eq; rw [decide_eq_false q]; decide)])
theorem e_if_ne {x : Int32} {off : Int} {tgt : Nat} (hb : md.2.2.1 = cc) (hd : decode cc pc = .ok (.ifCond .ne off, 3)) (ht : (pc : Int) + off = (tgt : Int)) : E r md pc L (.int x :: st) w = if ¬ x = 0 then E r md tgt L st w else E r md (pc + 3) L st w := by
  obtain ⟨h1, h2⟩ := jt_eq ht
  by_cases q : ¬ x = 0
  · rw [if_pos q]
    exact E_nx (by unfold stp; rw [hb, hd]; show (if jok pc off then (if c_ne x 0 then nx (jt pc off) L st w else nx (pc + 3) L st w) else none) = _; rw [if_pos h1, if_pos (show c_ne x 0 = true from decide_eq_true q), h2])
  · rw [if_neg q]
    exact E_nx (by unfold stp; rw [hb, hd]; show (if jok pc off then (if c_ne x 0 then nx (jt pc off) L st w else nx (pc + 3) L st w) else none) = _; rw [if_pos h1, if_neg (by unfold c_ne; rw [decide_eq_false q]; decide)])
theorem e_icmp_ne {x y : Int32} {off : Int} {tgt : Nat} (hb : md.2.2.1 = cc) (hd : decode cc pc = .ok (.if_icmp .ne off, 3)) (ht : (pc : Int) + off = (tgt : Int)) : E r md pc L (.int y :: .int x :: st) w = if ¬ x = y then E r md tgt L st w else E r md (pc + 3) L st w := by
  obtain ⟨h1, h2⟩ := jt_eq ht
  by_cases q : ¬ x = y
  · rw [if_pos q]
    exact E_nx (by unfold stp; rw [hb, hd]; show (if jok pc off then (if c_ne x y then nx (jt pc off) L st w else nx (pc + 3) L st w) else none) = _; rw [if_pos h1, if_pos (show c_ne x y = true from decide_eq_true q), h2])
  · rw [if_neg q]
    exact E_nx (by unfold stp; rw [hb, hd]; show (if jok pc off then (if c_ne x y then nx (jt pc off) L st w else nx (pc + 3) L st w) else none) = _; rw [if_pos h1, if_neg (by unfold c_ne; rw [decide_eq_false q]; decide)])
theorem e_if_lt {x : Int32} {off : Int} {tgt : Nat} (hb : md.2.2.1 = cc) (hd : decode cc pc = .ok (.ifCond .lt off, 3)) (ht : (pc : Int) + off = (tgt : Int)) : E r md pc L (.int x :: st) w = if x < 0 then E r md tgt L st w else E r md (pc + 3) L st w := by
  obtain ⟨h1, h2⟩ := jt_eq ht
  by_cases q : x < 0
  · rw [if_pos q]
    exact E_nx (by unfold stp; rw [hb, hd]; show (if jok pc off then (if c_lt x 0 then nx (jt pc off) L st w else nx (pc + 3) L st w) else none) = _; rw [if_pos h1, if_pos (show c_lt x 0 = true from decide_eq_true q), h2])
  · rw [if_neg q]
    exact E_nx (by unfold stp; rw [hb, hd]; show (if jok pc off then (if c_lt x 0 then nx (jt pc off) L st w else nx (pc + 3) L st w) else none) = _; rw [if_pos h1, if_neg (by unfold c_lt; rw [decide_eq_false q]; decide)])
theorem e_icmp_lt {x y : Int32} {off : Int} {tgt : Nat} (hb : md.2.2.1 = cc) (hd : decode cc pc = .ok (.if_icmp .lt off, 3)) (ht : (pc : Int) + off = (tgt : Int)) : E r md pc L (.int y :: .int x :: st) w = if x < y then E r md tgt L st w else E r md (pc + 3) L st w := by
  obtain ⟨h1, h2⟩ := jt_eq ht
  by_cases q : x < y
  · rw [if_pos q]
    exact E_nx (by unfold stp; rw [hb, hd]; show (if jok pc off then (if c_lt x y then nx (jt pc off) L st w else nx (pc + 3) L st w) else none) = _; rw [if_pos h1, if_pos (show c_lt x y = true from decide_eq_true q), h2])
  · rw [if_neg q]
    exact E_nx (by unfold stp; rw [hb, hd]; show (if jok pc off then (if c_lt x y then nx (jt pc off) L st w else nx (pc + 3) L st w) else none) = _; rw [if_pos h1, if_neg (by unfold c_lt; rw [decide_eq_false q]; decide)])
theorem e_if_ge {x : Int32} {off : Int} {tgt : Nat} (hb : md.2.2.1 = cc) (hd : decode cc pc = .ok (.ifCond .ge off, 3)) (ht : (pc : Int) + off = (tgt : Int)) : E r md pc L (.int x :: st) w = if 0 ≤ x then E r md tgt L st w else E r md (pc + 3) L st w := by
  obtain ⟨h1, h2⟩ := jt_eq ht
  by_cases q : 0 ≤ x
  · rw [if_pos q]
    exact E_nx (by unfold stp; rw [hb, hd]; show (if jok pc off then (if c_ge x 0 then nx (jt pc off) L st w else nx (pc + 3) L st w) else none) = _; rw [if_pos h1, if_pos (show c_ge x 0 = true from decide_eq_true q), h2])
  · rw [if_neg q]
    exact E_nx (by unfold stp; rw [hb, hd]; show (if jok pc off then (if c_ge x 0 then nx (jt pc off) L st w else nx (pc + 3) L st w) else none) = _; rw [if_pos h1, if_neg (by unfold c_ge; rw [decide_eq_false q]; decide)])
theorem e_icmp_ge {x y : Int32} {off : Int} {tgt : Nat} (hb : md.2.2.1 = cc) (hd : decode cc pc = .ok (.if_icmp .ge off, 3)) (ht : (pc : Int) + off = (tgt : Int)) : E r md pc L (.int y :: .int x :: st) w = if y ≤ x then E r md tgt L st w else E r md (pc + 3) L st w := by
  obtain ⟨h1, h2⟩ := jt_eq ht
  by_cases q : y ≤ x
  · rw [if_pos q]
    exact E_nx (by unfold stp; rw [hb, hd]; show (if jok pc off then (if c_ge x y then nx (jt pc off) L st w else nx (pc + 3) L st w) else none) = _; rw [if_pos h1, if_pos (show c_ge x y = true from decide_eq_true q), h2])
  · rw [if_neg q]
    exact E_nx (by unfold stp; rw [hb, hd]; show (if jok pc off then (if c_ge x y then nx (jt pc off) L st w else nx (pc + 3) L st w) else none) = _; rw [if_pos h1, if_neg (by unfold c_ge; rw [decide_eq_false q]; decide)])
theorem e_if_gt {x : Int32} {off : Int} {tgt : Nat} (hb : md.2.2.1 = cc) (hd : decode cc pc = .ok (.ifCond .gt off, 3)) (ht : (pc : Int) + off = (tgt : Int)) : E r md pc L (.int x :: st) w = if 0 < x then E r md tgt L st w else E r md (pc + 3) L st w := by
  obtain ⟨h1, h2⟩ := jt_eq ht
  by_cases q : 0 < x
  · rw [if_pos q]
    exact E_nx (by unfold stp; rw [hb, hd]; show (if jok pc off then (if c_gt x 0 then nx (jt pc off) L st w else nx (pc + 3) L st w) else none) = _; rw [if_pos h1, if_pos (show c_gt x 0 = true from decide_eq_true q), h2])
  · rw [if_neg q]
    exact E_nx (by unfold stp; rw [hb, hd]; show (if jok pc off then (if c_gt x 0 then nx (jt pc off) L st w else nx (pc + 3) L st w) else none) = _; rw [if_pos h1, if_neg (by unfold c_gt; rw [decide_eq_false q]; decide)])
theorem e_icmp_gt {x y : Int32} {off : Int} {tgt : Nat} (hb : md.2.2.1 = cc) (hd : decode cc pc = .ok (.if_icmp .gt off, 3)) (ht : (pc : Int) + off = (tgt : Int)) : E r md pc L (.int y :: .int x :: st) w = if y < x then E r md tgt L st w else E r md (pc + 3) L st w := by
  obtain ⟨h1, h2⟩ := jt_eq ht
  by_cases q : y < x
  · rw [if_pos q]
    exact E_nx (by unfold stp; rw [hb, hd]; show (if jok pc off then (if c_gt x y then nx (jt pc off) L st w else nx (pc + 3) L st w) else none) = _; rw [if_pos h1, if_pos (show c_gt x y = true from decide_eq_true q), h2])
  · rw [if_neg q]
    exact E_nx (by unfold stp; rw [hb, hd]; show (if jok pc off then (if c_gt x y then nx (jt pc off) L st w else nx (pc + 3) L st w) else none) = _; rw [if_pos h1, if_neg (by unfold c_gt; rw [decide_eq_false q]; decide)])
theorem e_if_le {x : Int32} {off : Int} {tgt : Nat} (hb : md.2.2.1 = cc) (hd : decode cc pc = .ok (.ifCond .le off, 3)) (ht : (pc : Int) + off = (tgt : Int)) : E r md pc L (.int x :: st) w = if x ≤ 0 then E r md tgt L st w else E r md (pc + 3) L st w := by
  obtain ⟨h1, h2⟩ := jt_eq ht
  by_cases q : x ≤ 0
  · rw [if_pos q]
    exact E_nx (by unfold stp; rw [hb, hd]; show (if jok pc off then (if c_le x 0 then nx (jt pc off) L st w else nx (pc + 3) L st w) else none) = _; rw [if_pos h1, if_pos (show c_le x 0 = true from decide_eq_true q), h2])
  · rw [if_neg q]
    exact E_nx (by unfold stp; rw [hb, hd]; show (if jok pc off then (if c_le x 0 then nx (jt pc off) L st w else nx (pc + 3) L st w) else none) = _; rw [if_pos h1, if_neg (by unfold c_le; rw [decide_eq_false q]; decide)])
theorem e_icmp_le {x y : Int32} {off : Int} {tgt : Nat} (hb : md.2.2.1 = cc) (hd : decode cc pc = .ok (.if_icmp .le off, 3)) (ht : (pc : Int) + off = (tgt : Int)) : E r md pc L (.int y :: .int x :: st) w = if x ≤ y then E r md tgt L st w else E r md (pc + 3) L st w := by
  obtain ⟨h1, h2⟩ := jt_eq ht
  by_cases q : x ≤ y
  · rw [if_pos q]
    exact E_nx (by unfold stp; rw [hb, hd]; show (if jok pc off then (if c_le x y then nx (jt pc off) L st w else nx (pc + 3) L st w) else none) = _; rw [if_pos h1, if_pos (show c_le x y = true from decide_eq_true q), h2])
  · rw [if_neg q]
    exact E_nx (by unfold stp; rw [hb, hd]; show (if jok pc off then (if c_le x y then nx (jt pc off) L st w else nx (pc + 3) L st w) else none) = _; rw [if_pos h1, if_neg (by unfold c_le; rw [decide_eq_false q]; decide)])
theorem e_goto {off : Int} {tgt : Nat} (hb : md.2.2.1 = cc) (hd : decode cc pc = .ok (.goto off, 3)) (ht : (pc : Int) + off = (tgt : Int)) : E r md pc L st w = E r md tgt L st w := by
  obtain ⟨h1, h2⟩ := jt_eq ht
  exact E_nx (by unfold stp; rw [hb, hd]; show (if jok pc off then nx (jt pc off) L st w else none) = _; rw [if_pos h1, h2])
theorem e_ifnull_r {a : Nat} {off : Int} {tgt : Nat} (hb : md.2.2.1 = cc) (hd : decode cc pc = .ok (.ifnull off, 3)) (ht : (pc : Int) + off = (tgt : Int)) : E r md pc L (.ref a :: st) w = E r md (pc + 3) L st w := by
  obtain ⟨h1, h2⟩ := jt_eq ht
  exact E_nx (by unfold stp; rw [hb, hd]; show ln _ _ (s_null _ _ _ _ _ _) = _; rw [ln_same]; exact if_pos h1)
theorem e_ifnull_n {off : Int} {tgt : Nat} (hb : md.2.2.1 = cc) (hd : decode cc pc = .ok (.ifnull off, 3)) (ht : (pc : Int) + off = (tgt : Int)) : E r md pc L (.null :: st) w = E r md tgt L st w := by
  obtain ⟨h1, h2⟩ := jt_eq ht
  exact E_nx (by unfold stp; rw [hb, hd]; show (if jok pc off then nx (jt pc off) L st w else none) = _; rw [if_pos h1, h2])
theorem e_ifnonnull_r {a : Nat} {off : Int} {tgt : Nat} (hb : md.2.2.1 = cc) (hd : decode cc pc = .ok (.ifnonnull off, 3)) (ht : (pc : Int) + off = (tgt : Int)) : E r md pc L (.ref a :: st) w = E r md tgt L st w := by
  obtain ⟨h1, h2⟩ := jt_eq ht
  exact E_nx (by unfold stp; rw [hb, hd]; show (if jok pc off then nx (jt pc off) L st w else none) = _; rw [if_pos h1, h2])
theorem e_ifnonnull_n {off : Int} {tgt : Nat} (hb : md.2.2.1 = cc) (hd : decode cc pc = .ok (.ifnonnull off, 3)) (ht : (pc : Int) + off = (tgt : Int)) : E r md pc L (.null :: st) w = E r md (pc + 3) L st w := by
  obtain ⟨h1, h2⟩ := jt_eq ht
  exact E_nx (by unfold stp; rw [hb, hd]; show ln _ _ (s_null _ _ _ _ _ _) = _; rw [ln_same]; exact if_pos h1)
theorem e_get {i a ci k : Nat} (hb : md.2.2.1 = cc) (hd : decode cc pc = .ok (.getfield i, 3)) (hf : fres md.1 i = some (ci, k)) (hk : k < fnum ci ∨ ci = 20) (hc : cls (h a) = ci) : E r md pc L (.ref a :: st) (h, n, z) = E r md (pc + 3) L (fv (h a) k :: st) (h, n, z) :=
  E_nx (by unfold stp; rw [hb, hd]; show ln _ _ (s_get _ _ _ _ _ _) = _; rw [ln_same]; unfold s_get; rw [hf]; exact if_pos ⟨hc, hk⟩)
theorem e_put {i a ci k : Nat} {v : Value} (hb : md.2.2.1 = cc) (hd : decode cc pc = .ok (.putfield i, 3)) (hf : fres md.1 i = some (ci, k)) (hk : k < fnum ci) (hn : narrow (fty ci k) v = v) (hft : fits (fty ci k) v = true) (hfin : ffin ci k = true → md.2.1.name = "<init>" ∧ md.1 = ci) (hc : cls (h a) = ci) : E r md pc L (v :: .ref a :: st) (h, n, z) = E r md (pc + 3) L st (uph h a (stf (h a) k v), n, z) :=
  E_nx (by unfold stp; rw [hb, hd]; show ln _ _ (s_put _ _ _ _ _ _) = _; rw [ln_same]; unfold s_put; rw [hf]; exact if_pos ⟨hc, hk, hn, hft, hfin⟩)
theorem e_sta {i : Nat} {v : Value} (hb : md.2.2.1 = cc) (hd : decode cc pc = .ok (.getstatic i, 3)) (hf : sres md.1 i = some v) : E r md pc L st w = E r md (pc + 3) L (v :: st) w :=
  E_nx (by unfold stp; rw [hb, hd]; show ln _ _ (match sres md.1 i with | some v => nx (pc + 3) L (v :: st) w | none => none) = _; rw [hf]; rfl)
theorem e_ldc {i : Nat} {v : Int32} (hb : md.2.2.1 = cc) (hd : decode cc pc = .ok (.ldc i, 2)) (hf : kres md.1 i = some (.int v)) : E r md pc L st w = E r md (pc + 2) L (.int v :: st) w :=
  E_nx (by unfold stp; rw [hb, hd]; show ln _ _ (match kres md.1 i, xres md.1 i with | some (.int v), _ => nx (pc + 2) L (.int v :: st) w | none, some a => nx (pc + 2) L (.ref a :: st) w | _, _ => none) = _; rw [hf]; rfl)
theorem e_ldcS {i a : Nat} (hb : md.2.2.1 = cc) (hd : decode cc pc = .ok (.ldc i, 2)) (hk : kres md.1 i = none) (hf : xres md.1 i = some a) : E r md pc L st w = E r md (pc + 2) L (.ref a :: st) w :=
  E_nx (by unfold stp; rw [hb, hd]; show ln _ _ (match kres md.1 i, xres md.1 i with | some (.int v), _ => nx (pc + 2) L (.int v :: st) w | none, some a => nx (pc + 2) L (.ref a :: st) w | _, _ => none) = _; rw [hk, hf]; rfl)
theorem e_ldc_w {i : Nat} {v : Int32} (hb : md.2.2.1 = cc) (hd : decode cc pc = .ok (.ldc_w i, 3)) (hf : kres md.1 i = some (.int v)) : E r md pc L st w = E r md (pc + 3) L (.int v :: st) w :=
  E_nx (by unfold stp; rw [hb, hd]; show ln _ _ (match kres md.1 i with | some (.int v) => nx (pc + 3) L (.int v :: st) w | _ => none) = _; rw [hf]; rfl)
theorem e_ldc2_w {i : Nat} {v : Int64} (hb : md.2.2.1 = cc) (hd : decode cc pc = .ok (.ldc2_w i, 3)) (hf : kres md.1 i = some (.long v)) : E r md pc L st w = E r md (pc + 3) L (.long v :: st) w :=
  E_nx (by unfold stp; rw [hb, hd]; show ln _ _ (match kres md.1 i with | some (.long v) => nx (pc + 3) L (.long v :: st) w | _ => none) = _; rw [hf]; rfl)
theorem e_iaload_0 {i : Int32} {a : Nat} (hb : md.2.2.1 = cc) (hd : decode cc pc = .ok (.iaload, 1)) (hk : kd (h a) = 0) (hi : ix i (al (h a)) = true) : E r md pc L (.int i :: .ref a :: st) (h, n, z) = E r md (pc + 1) L (.int (ai (h a) (cx i)) :: st) (h, n, z) :=
  E_nx (by unfold stp; rw [hb, hd]; show ln _ _ (s_ald _ _ _ _ _ _) = _; rw [ln_same]; unfold s_ald; exact if_pos ⟨by simp only [hk]; decide, hi⟩)
theorem e_iaload_10 {i : Int32} {a : Nat} (hb : md.2.2.1 = cc) (hd : decode cc pc = .ok (.iaload, 1)) (hk : kd (h a) = 10) (hi : ix i (al (h a)) = true) : E r md pc L (.int i :: .ref a :: st) (h, n, z) = E r md (pc + 1) L (.int (ai (h a) (cx i)) :: st) (h, n, z) :=
  E_nx (by unfold stp; rw [hb, hd]; show ln _ _ (s_ald _ _ _ _ _ _) = _; rw [ln_same]; unfold s_ald; exact if_pos ⟨by simp only [hk]; decide, hi⟩)
theorem e_baload_1 {i : Int32} {a : Nat} (hb : md.2.2.1 = cc) (hd : decode cc pc = .ok (.baload, 1)) (hk : kd (h a) = 1) (hi : ix i (al (h a)) = true) : E r md pc L (.int i :: .ref a :: st) (h, n, z) = E r md (pc + 1) L (.int (ai (h a) (cx i)) :: st) (h, n, z) :=
  E_nx (by unfold stp; rw [hb, hd]; show ln _ _ (s_ald _ _ _ _ _ _) = _; rw [ln_same]; unfold s_ald; exact if_pos ⟨by simp only [hk]; decide, hi⟩)
theorem e_baload_3 {i : Int32} {a : Nat} (hb : md.2.2.1 = cc) (hd : decode cc pc = .ok (.baload, 1)) (hk : kd (h a) = 3) (hi : ix i (al (h a)) = true) : E r md pc L (.int i :: .ref a :: st) (h, n, z) = E r md (pc + 1) L (.int (ai (h a) (cx i)) :: st) (h, n, z) :=
  E_nx (by unfold stp; rw [hb, hd]; show ln _ _ (s_ald _ _ _ _ _ _) = _; rw [ln_same]; unfold s_ald; exact if_pos ⟨by simp only [hk]; decide, hi⟩)
theorem e_baload_11 {i : Int32} {a : Nat} (hb : md.2.2.1 = cc) (hd : decode cc pc = .ok (.baload, 1)) (hk : kd (h a) = 11) (hi : ix i (al (h a)) = true) : E r md pc L (.int i :: .ref a :: st) (h, n, z) = E r md (pc + 1) L (.int (ai (h a) (cx i)) :: st) (h, n, z) :=
  E_nx (by unfold stp; rw [hb, hd]; show ln _ _ (s_ald _ _ _ _ _ _) = _; rw [ln_same]; unfold s_ald; exact if_pos ⟨by simp only [hk]; decide, hi⟩)
theorem e_caload {i : Int32} {a : Nat} (hb : md.2.2.1 = cc) (hd : decode cc pc = .ok (.caload, 1)) (hk : kd (h a) = 2) (hi : ix i (al (h a)) = true) : E r md pc L (.int i :: .ref a :: st) (h, n, z) = E r md (pc + 1) L (.int (ai (h a) (cx i)) :: st) (h, n, z) :=
  E_nx (by unfold stp; rw [hb, hd]; show ln _ _ (s_ald _ _ _ _ _ _) = _; rw [ln_same]; unfold s_ald; exact if_pos ⟨by simp only [hk]; decide, hi⟩)
theorem e_laload {i : Int32} {a : Nat} (hb : md.2.2.1 = cc) (hd : decode cc pc = .ok (.laload, 1)) (hk : kd (h a) = 4) (hi : ix i (al (h a)) = true) : E r md pc L (.int i :: .ref a :: st) (h, n, z) = E r md (pc + 1) L (.long (aj (h a) (cx i)) :: st) (h, n, z) :=
  E_nx (by unfold stp; rw [hb, hd]; show ln _ _ (s_ald _ _ _ _ _ _) = _; rw [ln_same]; unfold s_ald; exact if_pos ⟨by simp only [hk]; decide, hi⟩)
theorem e_aaload_5 {i : Int32} {a : Nat} (hb : md.2.2.1 = cc) (hd : decode cc pc = .ok (.aaload, 1)) (hk : kd (h a) = 5) (hi : ix i (al (h a)) = true) : E r md pc L (.int i :: .ref a :: st) (h, n, z) = E r md (pc + 1) L (aq (h a) (cx i) :: st) (h, n, z) :=
  E_nx (by unfold stp; rw [hb, hd]; show ln _ _ (s_ald _ _ _ _ _ _) = _; rw [ln_same]; unfold s_ald; exact if_pos ⟨by simp only [hk]; decide, hi⟩)
theorem e_aaload_6 {i : Int32} {a : Nat} (hb : md.2.2.1 = cc) (hd : decode cc pc = .ok (.aaload, 1)) (hk : kd (h a) = 6) (hi : ix i (al (h a)) = true) : E r md pc L (.int i :: .ref a :: st) (h, n, z) = E r md (pc + 1) L (aq (h a) (cx i) :: st) (h, n, z) :=
  E_nx (by unfold stp; rw [hb, hd]; show ln _ _ (s_ald _ _ _ _ _ _) = _; rw [ln_same]; unfold s_ald; exact if_pos ⟨by simp only [hk]; decide, hi⟩)
theorem e_aaload_7 {i : Int32} {a : Nat} (hb : md.2.2.1 = cc) (hd : decode cc pc = .ok (.aaload, 1)) (hk : kd (h a) = 7) (hi : ix i (al (h a)) = true) : E r md pc L (.int i :: .ref a :: st) (h, n, z) = E r md (pc + 1) L (aq (h a) (cx i) :: st) (h, n, z) :=
  E_nx (by unfold stp; rw [hb, hd]; show ln _ _ (s_ald _ _ _ _ _ _) = _; rw [ln_same]; unfold s_ald; exact if_pos ⟨by simp only [hk]; decide, hi⟩)
theorem e_iastore {i x : Int32} {a : Nat} (hb : md.2.2.1 = cc) (hd : decode cc pc = .ok (.iastore, 1)) (hk : kd (h a) = 0) (hi : ix i (al (h a)) = true) : E r md pc L (.int x :: .int i :: .ref a :: st) (h, n, z) = E r md (pc + 1) L st (uph h a (sti (h a) (cx i) x), n, z) :=
  E_nx (by unfold stp; rw [hb, hd]; show ln _ _ (s_ast _ _ _ _ _ _) = _; rw [ln_same]; unfold s_ast; exact if_pos ⟨hk, hi⟩)
theorem e_castore {i x : Int32} {a : Nat} (hb : md.2.2.1 = cc) (hd : decode cc pc = .ok (.castore, 1)) (hk : kd (h a) = 2) (hi : ix i (al (h a)) = true) : E r md pc L (.int x :: .int i :: .ref a :: st) (h, n, z) = E r md (pc + 1) L st (uph h a (sti (h a) (cx i) (vp_nar .char x)), n, z) :=
  E_nx (by unfold stp; rw [hb, hd]; show ln _ _ (s_ast _ _ _ _ _ _) = _; rw [ln_same]; unfold s_ast; exact if_pos ⟨hk, hi⟩)
theorem e_bastore_1 {i x : Int32} {a : Nat} (hb : md.2.2.1 = cc) (hd : decode cc pc = .ok (.bastore, 1)) (hk : kd (h a) = 1) (hi : ix i (al (h a)) = true) : E r md pc L (.int x :: .int i :: .ref a :: st) (h, n, z) = E r md (pc + 1) L st (uph h a (sti (h a) (cx i) (vp_nar .byte x)), n, z) :=
  E_nx (by unfold stp; rw [hb, hd]; show ln _ _ (s_bast _ _ _ _) = _; rw [ln_same]; unfold s_bast s_ast; show (if kd (h a) = 1 then _ else _) = _; rw [if_pos hk]; exact if_pos ⟨hk, hi⟩)
theorem e_bastore_3 {i x : Int32} {a : Nat} (hb : md.2.2.1 = cc) (hd : decode cc pc = .ok (.bastore, 1)) (hk : kd (h a) = 3) (hi : ix i (al (h a)) = true) : E r md pc L (.int x :: .int i :: .ref a :: st) (h, n, z) = E r md (pc + 1) L st (uph h a (sti (h a) (cx i) (vp_nar .boolean x)), n, z) :=
  E_nx (by unfold stp; rw [hb, hd]; show ln _ _ (s_bast _ _ _ _) = _; rw [ln_same]; unfold s_bast s_ast; show (if kd (h a) = 1 then _ else _) = _; rw [if_neg (by omega)]; exact if_pos ⟨hk, hi⟩)
theorem e_lastore {i : Int32} {x : Int64} {a : Nat} (hb : md.2.2.1 = cc) (hd : decode cc pc = .ok (.lastore, 1)) (hk : kd (h a) = 4) (hi : ix i (al (h a)) = true) : E r md pc L (.long x :: .int i :: .ref a :: st) (h, n, z) = E r md (pc + 1) L st (uph h a (stj (h a) (cx i) x), n, z) :=
  E_nx (by unfold stp; rw [hb, hd]; show ln _ _ (s_last _ _ _ _) = _; rw [ln_same]; unfold s_last; exact if_pos ⟨hk, hi⟩)
theorem e_aastore {i : Int32} {a v : Nat} (hb : md.2.2.1 = cc) (hd : decode cc pc = .ok (.aastore, 1)) (hk : kd (h a) = 7) (hi : ix i (al (h a)) = true) (hv : isPear (cls (h v)) = true) : E r md pc L (.ref v :: .int i :: .ref a :: st) (h, n, z) = E r md (pc + 1) L st (uph h a (stq (h a) (cx i) v), n, z) :=
  E_nx (by unfold stp; rw [hb, hd]; show ln _ _ (s_aast _ _ _ _) = _; rw [ln_same]; unfold s_aast; exact if_pos ⟨hk, hi, hv⟩)
theorem e_alen {a : Nat} (hb : md.2.2.1 = cc) (hd : decode cc pc = .ok (.arraylength, 1)) (hk : kd (h a) < 12) : E r md pc L (.ref a :: st) (h, n, z) = E r md (pc + 1) L (.int (Int32.ofNat (al (h a))) :: st) (h, n, z) :=
  E_nx (by unfold stp; rw [hb, hd]; show ln _ _ (s_alen _ _ _ _) = _; rw [ln_same]; unfold s_alen; exact if_pos hk)
theorem e_newa {at0 : ArrayType} {k : Int32} (hb : md.2.2.1 = cc) (hd : decode cc pc = .ok (.newarray at0, 2)) (ha : atag at0 < 5) (hk : ¬ k < 0) (hk2 : cx k ≤ 1000) : E r md pc L (.int k :: st) (h, n, z) = E r md (pc + 2) L (.ref n :: st) (uph h n (zA (atag at0) (cx k)), n + 1, z + cx k) :=
  E_nx (by unfold stp; rw [hb, hd]; show ln _ _ (s_newa _ _ _ _ _) = _; rw [ln_same]; unfold s_newa; exact if_pos ⟨ha, hk, hk2⟩)
theorem e_newq {i : Nat} {k : Int32} (hb : md.2.2.1 = cc) (hd : decode cc pc = .ok (.anewarray i, 3)) (hf : nres md.1 i = some 5) (hk : ¬ k < 0) (hk2 : cx k ≤ 1000) : E r md pc L (.int k :: st) (h, n, z) = E r md (pc + 3) L (.ref n :: st) (uph h n (rA 7 (cx k) (fun _ => none)), n + 1, z + cx k) :=
  E_nx (by unfold stp; rw [hb, hd]; show ln _ _ (s_newq _ _ _ _ _ _) = _; rw [ln_same]; unfold s_newq; exact if_pos ⟨hf, hk, hk2⟩)
theorem e_newmI {i : Nat} {k m : Int32} (hb : md.2.2.1 = cc) (hd : decode cc pc = .ok (.multianewarray i 2, 4)) (hf : nres md.1 i = some 105) (hm : ¬ m < 0) (hk : ¬ k < 0) (hm2 : cx m ≤ 1000) (hk2 : cx k ≤ 1000) : E r md pc L (.int k :: .int m :: st) (h, n, z) = E r md (pc + 4) L (.ref n :: st) (mrows h n (cx m) (zA 0 (cx k)) (rA 5 (cx m) (rows0 n (cx m))), n + 1 + cx m, z + cx m + cx m * cx k) :=
  E_nx (by unfold stp; rw [hb, hd]; show ln _ _ (if 2 = 2 then s_newm _ _ _ _ _ _ else none) = _; rw [ln_same, if_pos rfl]; unfold s_newm; show (if _ then _ else _) = _; rw [if_pos ⟨hm, hk, hm2, hk2⟩, hf]; rfl)
theorem e_newmJ {i : Nat} {k m : Int32} (hb : md.2.2.1 = cc) (hd : decode cc pc = .ok (.multianewarray i 2, 4)) (hf : nres md.1 i = some 106) (hm : ¬ m < 0) (hk : ¬ k < 0) (hm2 : cx m ≤ 1000) (hk2 : cx k ≤ 1000) : E r md pc L (.int k :: .int m :: st) (h, n, z) = E r md (pc + 4) L (.ref n :: st) (mrows h n (cx m) (zA 4 (cx k)) (rA 6 (cx m) (rows0 n (cx m))), n + 1 + cx m, z + cx m + cx m * cx k) :=
  E_nx (by unfold stp; rw [hb, hd]; show ln _ _ (if 2 = 2 then s_newm _ _ _ _ _ _ else none) = _; rw [ln_same, if_pos rfl]; unfold s_newm; show (if _ then _ else _) = _; rw [if_pos ⟨hm, hk, hm2, hk2⟩, hf]; rfl)
theorem e_new {i ci : Nat} (hb : md.2.2.1 = cc) (hd : decode cc pc = .ok (.new i, 3)) (hf : nres md.1 i = some ci) (hc : ci < 13) : E r md pc L st (h, n, z) = E r md (pc + 3) L (.ref n :: st) (uph h n (ob ci (fun k => defaultValue (fty ci k))), n + 1, z + fnum ci) :=
  E_nx (by unfold stp; rw [hb, hd]; show ln _ _ (s_new _ _ _ _ _ _) = _; rw [ln_same]; unfold s_new; rw [hf]; exact if_pos hc)
theorem e_tsw {dflt lo hi off : Int} {offs : Array Int} {len tgt : Nat} {x : Int32} (hb : md.2.2.1 = cc) (hd : decode cc pc = .ok (.tableswitch dflt lo hi offs, len)) (hx : tsw dflt lo hi offs x = some off) (ht : (pc : Int) + off = (tgt : Int)) : E r md pc L (.int x :: st) w = E r md tgt L st w := by
  obtain ⟨h1, h2⟩ := jt_eq ht
  exact E_nx (by unfold stp; rw [hb, hd]; show s_tsw dflt lo hi offs pc L (.int x :: st) w = _; unfold s_tsw; show (match tsw dflt lo hi offs x with | some off => if jok pc off then nx (jt pc off) L st w else none | none => none) = _; rw [hx]; show (if jok pc off then nx (jt pc off) L st w else none) = _; rw [if_pos h1, h2])
theorem tsw_out {dflt lo hi : Int} {offs : Array Int} {x : Int32} (h : x.toInt < lo ∨ hi < x.toInt) : tsw dflt lo hi offs x = some dflt := if_pos h
theorem e_lsw {dflt off : Int} {ps : Array (Int × Int)} {len tgt : Nat} {x : Int32} (hb : md.2.2.1 = cc) (hd : decode cc pc = .ok (.lookupswitch dflt ps, len)) (hp : (ps.toList.zip (ps.toList.drop 1)).all (fun (a, next) => a.1 < next.1) = true) (hx : Op.lookupswitch.offset ps.toList dflt x.toInt = off) (ht : (pc : Int) + off = (tgt : Int)) : E r md pc L (.int x :: st) w = E r md tgt L st w := by
  obtain ⟨h1, h2⟩ := jt_eq ht
  subst hx
  exact E_nx (by unfold stp; rw [hb, hd]; show s_lsw dflt ps pc L (.int x :: st) w = _; unfold s_lsw; show (if _ then nx _ _ _ _ else none) = _; rw [if_pos ⟨hp, h1⟩, h2])
theorem e_iret {x : Int32} {ty : FieldType} (hb : md.2.2.1 = cc) (hd : decode cc pc = .ok (.ireturn, 1)) (hr : md.2.2.2.2.1 = some ty) (hn : narrow ty (.int x) = .int x) : E r md pc L [.int x] w = some (some (.int x), w) :=
  E_rt (by unfold stp; rw [hb, hd]; show ln _ _ (s_iret _ _ _) = _; rw [ln_same]; unfold s_iret; rw [hr]; exact if_pos hn)
theorem e_lret {x : Int64} (hb : md.2.2.1 = cc) (hd : decode cc pc = .ok (.lreturn, 1)) (hr : md.2.2.2.2.1 = some .long) : E r md pc L [.long x] w = some (some (.long x), w) :=
  E_rt (by unfold stp; rw [hb, hd]; show ln _ _ (s_lret _ _ _) = _; rw [ln_same]; unfold s_lret; exact if_pos hr)
theorem e_aret {x : Nat} (hb : md.2.2.1 = cc) (hd : decode cc pc = .ok (.areturn, 1)) (hr : isRefT md.2.2.2.2.1 = true) : E r md pc L [.ref x] w = some (some (.ref x), w) :=
  E_rt (by unfold stp; rw [hb, hd]; show ln _ _ (s_aret _ _ _) = _; rw [ln_same]; unfold s_aret; exact if_pos hr)
theorem e_vret (hb : md.2.2.1 = cc) (hd : decode cc pc = .ok (.return_, 1)) (hr : md.2.2.2.2.1 = none) : E r md pc L [] w = some (none, w) :=
  E_rt (by unfold stp; rw [hb, hd]; show ln _ _ (s_vret _ _ _) = _; rw [ln_same]; unfold s_vret; exact if_pos hr)
theorem e_obj {i a : Nat} (hb : md.2.2.1 = cc) (hd : decode cc pc = .ok (.invokespecial i, 3)) (hi : isObj md.1 i = true) (hl : st.length ≤ 4) (h1 : 1 ≤ r) : E r md pc L (.ref a :: st) w = E r md (pc + 3) L st w :=
  E_nx (by unfold stp; rw [hb, hd]; show ln _ _ (if isObj md.1 i then (if st.length ≤ 4 ∧ 1 ≤ r then nx (pc + 3) L st w else none) else _) = _; rw [ln_same, if_pos hi]; exact if_pos ⟨hl, h1⟩)
theorem e_cast {i a : Nat} (hb : md.2.2.1 = cc) (hd : decode cc pc = .ok (.checkcast i, 3)) (hf : nres md.1 i = some 101) (hk : kd (h a) = 1) : E r md pc L (.ref a :: st) (h, n, z) = E r md (pc + 3) L (.ref a :: st) (h, n, z) :=
  E_nx (by unfold stp; rw [hb, hd]; show ln _ _ (if nres md.1 i = some 101 ∧ kd (h a) = 1 then _ else _) = _; rw [ln_same]; exact if_pos ⟨hf, hk⟩)
theorem e_copy {i : Nat} {sp dp k : Int32} {c d : Nat} (hb : md.2.2.1 = cc) (hd : decode cc pc = .ok (.invokestatic i, 3)) (hi : isCopy md.1 i = true) (hc : cpok (h c) (h d) sp dp k) (hl : st.length ≤ 4) (h1 : 1 ≤ r) : E r md pc L (.int k :: .int dp :: .ref d :: .int sp :: .ref c :: st) (h, n, z) = E r md (pc + 3) L st (uph h d (cpi (h c) (h d) (cx sp) (cx dp) (cx k)), n, z) :=
  E_nx (by unfold stp; rw [hb, hd]; show ln _ _ (if isCopy md.1 i then s_copy _ _ _ _ _ else _) = _; rw [ln_same, if_pos hi]; unfold s_copy; exact if_pos ⟨hc, hl, h1⟩)
theorem e_clone {i c : Nat} (hb : md.2.2.1 = cc) (hd : decode cc pc = .ok (.invokevirtual i, 3)) (hi : isClone md.1 i = true) (hk : kd (h c) = 1) (hl : st.length ≤ 4) (h1 : 1 ≤ r) (hf : ∀ j : Nat, j < al (h c) → fits .byte (.int (ai (h c) j)) = true) : E r md pc L (.ref c :: st) (h, n, z) = E r md (pc + 3) L (.ref n :: st) (uph h n (h c), n + 1, z + al (h c)) :=
  E_nx (by unfold stp; rw [hb, hd]; show ln _ _ (if isClone md.1 i then s_clone _ _ _ _ _ else _) = _; rw [ln_same, if_pos hi]; unfold s_clone; exact if_pos ⟨hk, hl, h1, hf⟩)
theorem e_max {i : Nat} {x y : Int32} (hb : md.2.2.1 = cc) (hd : decode cc pc = .ok (.invokestatic i, 3)) (hn : isCopy md.1 i = false) (hi : isMax md.1 i = true) (hl : st.length ≤ 4) (h1 : 1 ≤ r) : E r md pc L (.int y :: .int x :: st) w = E r md (pc + 3) L (.int (if x < y then y else x) :: st) w :=
  E_nx (by unfold stp; rw [hb, hd]; show ln _ _ (if isCopy md.1 i then _ else if isMax md.1 i then s_mm _ _ _ _ _ _ else _) = _; rw [ln_same, if_neg (by rw [hn]; decide), if_pos hi]; exact if_pos ⟨hl, h1⟩)
theorem e_min {i : Nat} {x y : Int32} (hb : md.2.2.1 = cc) (hd : decode cc pc = .ok (.invokestatic i, 3)) (hn : isCopy md.1 i = false) (hm : isMax md.1 i = false) (hi : isMin md.1 i = true) (hl : st.length ≤ 4) (h1 : 1 ≤ r) : E r md pc L (.int y :: .int x :: st) w = E r md (pc + 3) L (.int (if y < x then y else x) :: st) w :=
  E_nx (by unfold stp; rw [hb, hd]; show ln _ _ (if isCopy md.1 i then _ else if isMax md.1 i then _ else if isMin md.1 i then s_mm _ _ _ _ _ _ else _) = _; rw [ln_same, if_neg (by rw [hn]; decide), if_neg (by rw [hm]; decide), if_pos hi]; exact if_pos ⟨hl, h1⟩)
theorem callV_eq {lo hi i np k rr b r' : Nat} {md' : Md} {as rest : List Value} (hn : cnp md.1 i = some np) (hc : cres md.1 i (if hi = 2 then cls (w.1 b) else 0) = some (k, rr, np, md')) (hl : as.length = np) (hk : lo ≤ k ∧ k ≤ hi) (hr : rest.length ≤ 4) (hrk : rkc rr (.ref b :: as) = r') (hlt : r' < r) (ha : argsOk (np + 1) (.ref b :: as) = true) (hg : lngOk md'.2.2.2.2.2.1 as.reverse = true) (he : (ents (.ref b :: as)).length ≤ md'.2.2.2.1) (h6 : k = 6 → cls (w.1 b) < 13) :
    s_callV r md i pc (as.reverse ++ .ref b :: rest) w lo hi = ca r' md' (.ref b :: as) (pc + 3) rest := by
  have hd : (as.reverse ++ .ref b :: rest).drop np = .ref b :: rest := by rw [List.drop_append_of_le_length (by simp [hl]), List.drop_eq_nil_of_le (by simp [hl]), List.nil_append]
  have ht : (as.reverse ++ .ref b :: rest).take np = as.reverse := by rw [List.take_append_of_le_length (by simp [hl]), List.take_of_length_le (by simp [hl])]
  unfold s_callV
  rw [hn]
  show (match (as.reverse ++ .ref b :: rest).drop np with | .ref b :: rest => _ | _ => none) = _
  rw [hd]
  show (match cres md.1 i (if hi = 2 then cls (w.1 b) else 0) with | some (k, rr, n, md') => _ | none => none) = _
  rw [hc]
  simp only [ht, List.reverse_reverse]
  rw [if_pos ⟨hk.1, hk.2, trivial, by simp [hl], hr, by rw [hrk]; exact hlt, ha, hg, he, h6⟩, hrk]
theorem e_callV {i np k rr b r' : Nat} {md' : Md} {as rest L' : List Value} (hb : md.2.2.1 = cc) (hd : decode cc pc = .ok (.invokevirtual i, 3)) (hcl : isClone md.1 i = false) (hn : cnp md.1 i = some np) {rc : Nat} (hrc : cls (w.1 b) = rc) (hc : cres md.1 i rc = some (k, rr, np, md')) (hl : as.length = np) (hk : k ≤ 2) (hr : rest.length ≤ 4) (hrk : rkc rr (.ref b :: as) = r') (hlt : r' < r) (ha : argsOk (np + 1) (.ref b :: as) = true) (hg : lngOk md'.2.2.2.2.2.1 as.reverse = true) (he : (ents (.ref b :: as)).length ≤ md'.2.2.2.1) (hL : ent md'.2.2.2.1 (.ref b :: as) = L') :
    E r md pc L (as.reverse ++ .ref b :: rest) w = bnd (E r' md' 0 L' [] w) (fun v w' => E r md (pc + 3) L (st2 v rest) w') := by
  subst hL
  subst hrc
  exact E_ca (by unfold stp; rw [hb, hd]; show ln _ _ (if isClone md.1 i then _ else s_callV _ _ _ _ _ _ _ _) = _; rw [ln_same, if_neg (by rw [hcl]; decide)]; exact callV_eq hn hc hl ⟨Nat.zero_le _, hk⟩ hr hrk hlt ha hg he (fun q => by omega))
theorem e_callP {i np k rr b r' : Nat} {md' : Md} {as rest L' : List Value} (hb : md.2.2.1 = cc) (hd : decode cc pc = .ok (.invokespecial i, 3)) (hob : isObj md.1 i = false) (hn : cnp md.1 i = some np) (hc : cres md.1 i 0 = some (k, rr, np, md')) (hl : as.length = np) (hk : 4 ≤ k ∧ k ≤ 6) (hr : rest.length ≤ 4) (hrk : rkc rr (.ref b :: as) = r') (hlt : r' < r) (ha : argsOk (np + 1) (.ref b :: as) = true) (hg : lngOk md'.2.2.2.2.2.1 as.reverse = true) (he : (ents (.ref b :: as)).length ≤ md'.2.2.2.1) (h6 : k = 6 → cls (w.1 b) < 13) (hL : ent md'.2.2.2.1 (.ref b :: as) = L') :
    E r md pc L (as.reverse ++ .ref b :: rest) w = bnd (E r' md' 0 L' [] w) (fun v w' => E r md (pc + 3) L (st2 v rest) w') := by
  subst hL
  exact E_ca (by unfold stp; rw [hb, hd]; show ln _ _ (if isObj md.1 i then _ else s_callV _ _ _ _ _ _ _ _) = _; rw [ln_same, if_neg (by rw [hob]; decide)]; exact callV_eq hn (by rw [if_neg (by decide)]; exact hc) hl hk hr hrk hlt ha hg he h6)
theorem e_callS {i np rr r' : Nat} {md' : Md} {as rest L' : List Value} (hb : md.2.2.1 = cc) (hd : decode cc pc = .ok (.invokestatic i, 3)) (h1 : isCopy md.1 i = false) (h2 : isMax md.1 i = false) (h3 : isMin md.1 i = false) (hn : cnp md.1 i = some np) (hc : cres md.1 i 0 = some (3, rr, np, md')) (hl : as.length = np) (hr : rest.length ≤ 4) (hrk : rkc rr as = r') (hlt : r' < r) (ha : argsOk np as = true) (hg : lngOk md'.2.2.2.2.2.1 as.reverse = true) (he : (ents as).length ≤ md'.2.2.2.1) (hL : ent md'.2.2.2.1 as = L') :
    E r md pc L (as.reverse ++ rest) w = bnd (E r' md' 0 L' [] w) (fun v w' => E r md (pc + 3) L (st2 v rest) w') := by
  subst hL
  apply E_ca
  unfold stp
  rw [hb, hd]
  show ln _ _ (if isCopy md.1 i then _ else if isMax md.1 i then _ else if isMin md.1 i then _ else s_callS _ _ _ _ _ _) = _
  rw [ln_same, if_neg (by rw [h1]; decide), if_neg (by rw [h2]; decide), if_neg (by rw [h3]; decide)]
  have hdr : (as.reverse ++ rest).drop np = rest := by rw [List.drop_append_of_le_length (by simp [hl]), List.drop_eq_nil_of_le (by simp [hl]), List.nil_append]
  have ht : (as.reverse ++ rest).take np = as.reverse := by rw [List.take_append_of_le_length (by simp [hl]), List.take_of_length_le (by simp [hl])]
  show s_callS _ _ _ _ _ _ = _
  unfold s_callS
  rw [hn, hc]
  simp only [ht, hdr, List.reverse_reverse]
  rw [if_pos ⟨trivial, trivial, by simp [hl], hr, by rw [hrk]; exact hlt, ha, hg, he⟩, hrk]
end EROW
/-- an answer of a small type is as it stands -/
def nOk (ty : FieldType) (x : Int32) : Bool := decide (narrow ty (.int x) = .int x)
theorem nOk_e {ty : FieldType} {x : Int32} (h : nOk ty x = true) : narrow ty (.int x) = .int x := of_decide_eq_true h
def pOk (ci k : Nat) (x : Int32) : Bool := decide (narrow (fty ci k) (.int x) = .int x) && fits (fty ci k) (.int x)
theorem pOk_n {ci k : Nat} {x : Int32} (h : pOk ci k x = true) : narrow (fty ci k) (.int x) = .int x := of_decide_eq_true (Bool.and_eq_true_iff.mp h).1
theorem pOk_f {ci k : Nat} {x : Int32} (h : pOk ci k x = true) : fits (fty ci k) (.int x) = true := (Bool.and_eq_true_iff.mp h).2
