/-! Class and reference read an E alike. -/
/-- contracts of the reference -/
def RO (tx : List Int32) (nest p : Nat) (R : PR) : Prop := ∀ (K : KT) (X : Nat → Nat → Int32) (W : List Int32) (B s c n z : Nat) (l3 : Value), RS tx B X p W s → opn W = nest → c < 60 → (R.1 = false → RFail K n z c s R.2.1 X (E 5 mX12_takesE 22 [.ref 141, .int (nI c), .int 1, l3] [] (hp K X, n, z))) ∧ (R.1 = true → ∃ Y l3', E 5 mX12_takesE 22 [.ref 141, .int (nI c), .int 1, l3] [] (hp K X, n, z) = E 5 mX12_takesE 22 [.ref 141, .int (nI c), .int 0, l3'] [] (hp K Y, n, z) ∧ RS tx B Y R.2.1 (st33 W) (s + R.2.2.length + ct33 W) ∧ FE c s X Y ∧ AtM Y s (R.2.2 ++ List.replicate (ct33 W) (-33)))
def neg1 (b : Int32) : Int32 := -b
/-- what waits on the E's own account -/
def pend (ok : List Int32 → Prop) (tx : List Int32) (p : Nat) (R : PR) (w : Int32) (hw : List Int32 → Prop) (A0 : List Int32) (nest : Nat) : Prop :=
  ∀ (K : KT) (X : Nat → Nat → Int32) (W : List Int32) (B s c n z : Nat) (l3 : Value), RS tx B X p (A0 ++ W) s → opn W = nest → c < 60 → hw W → (R.1 = false → RFail K n z c s R.2.1 X (E 5 mX12_takesE 22 [.ref 141, .int (nI c), .int w, l3] [] (hp K X, n, z))) ∧ (R.1 = true → ∃ Y l3' A E1, E 5 mX12_takesE 22 [.ref 141, .int (nI c), .int w, l3] [] (hp K X, n, z) = E 5 mX12_takesE 22 [.ref 141, .int (nI c), .int 0, l3'] [] (hp K Y, n, z) ∧ ok A ∧ A0.map neg1 ++ R.2.2 = E1 ++ A.map neg1 ∧ RS tx B Y R.2.1 (A ++ W) (s + E1.length) ∧ FE c s X Y ∧ AtM Y s E1)
def okB (A : List Int32) : Prop := A = [] ∨ A = [38]
def okE (A : List Int32) : Prop := A = [] ∨ A = [38] ∨ A = [124] ∨ A = [38, 124]
def hwB (W : List Int32) : Prop := W = [] ∨ ∃ r, W = 40 :: r ∨ W = 124 :: r
def hwE (W : List Int32) : Prop := W = [] ∨ ∃ r, W = 40 :: r
def RB (tx : List Int32) (nest p : Nat) (R : PR) : Prop := pend okB tx p R 1 hwB [] nest
def RBr (tx : List Int32) (nest p : Nat) (R : PR) : Prop := ∀ A, okB A → pend okB tx p R 0 hwB A nest
def REi (tx : List Int32) (nest p : Nat) (R : PR) : Prop := pend okE tx p R 1 hwE [] nest
def REr (tx : List Int32) (nest p : Nat) (R : PR) : Prop := ∀ A, okE A → pend okE tx p R 0 hwE A nest
theorem hwB_33 {W : List Int32} (h : hwB W) : st33 W = W ∧ ct33 W = 0 := by
  rcases h with rfl | ⟨r, rfl | rfl⟩
  · exact ⟨rfl, rfl⟩
  · exact ⟨by show (if (40 : Int32) = 33 then _ else _) = _; rw [if_neg (by decide)], by show (if (40 : Int32) = 33 then _ else _) = _; rw [if_neg (by decide)]⟩
  · exact ⟨by show (if (124 : Int32) = 33 then _ else _) = _; rw [if_neg (by decide)], by show (if (124 : Int32) = 33 then _ else _) = _; rw [if_neg (by decide)]⟩
theorem st38_W {W : List Int32} (h : hwB W) : stW 38 W = W ∧ stE 38 W = [] := by
  rcases h with rfl | ⟨r, rfl | rfl⟩
  · exact ⟨rfl, rfl⟩
  · exact ⟨by show (if (40 : Int32) = 38 ∨ _ then _ else _) = _; rw [if_neg (by decide)], by show (if (40 : Int32) = 38 ∨ _ then _ else _) = _; rw [if_neg (by decide)]⟩
  · exact ⟨by show (if (124 : Int32) = 38 ∨ ((124 : Int32) = 124 ∧ (38 : Int32) ≠ 38) then _ else _) = _; rw [if_neg (by decide)], by show (if (124 : Int32) = 38 ∨ ((124 : Int32) = 124 ∧ (38 : Int32) ≠ 38) then _ else _) = _; rw [if_neg (by decide)]⟩
theorem st_cons {x b : Int32} {r : List Int32} (h : b = 38 ∨ (b = 124 ∧ x ≠ 38)) : stW x (b :: r) = stW x r ∧ stE x (b :: r) = -b :: stE x r := by
  constructor
  · show (if b = 38 ∨ (b = 124 ∧ x ≠ 38) then _ else _) = _
    rw [if_pos h]
  · show (if b = 38 ∨ (b = 124 ∧ x ≠ 38) then _ else _) = _
    rw [if_pos h]
theorem st38_A {A W : List Int32} (hA : okB A) (h : hwB W) : stW 38 (A ++ W) = W ∧ stE 38 (A ++ W) = A.map neg1 := by
  rcases hA with rfl | rfl
  · exact st38_W h
  · obtain ⟨a, b⟩ := st_cons (x := 38) (b := 38) (r := W) (Or.inl rfl)
    obtain ⟨c, d⟩ := st38_W h
    exact ⟨a.trans c, by show stE 38 (38 :: W) = _; rw [b, d]; rfl⟩
theorem st124_W {W : List Int32} (h : hwE W) : stW 124 W = W ∧ stE 124 W = [] := by
  rcases h with rfl | ⟨r, rfl⟩
  · exact ⟨rfl, rfl⟩
  · exact ⟨by show (if (40 : Int32) = 38 ∨ ((40 : Int32) = 124 ∧ (124 : Int32) ≠ 38) then _ else _) = _; rw [if_neg (by decide)], by show (if (40 : Int32) = 38 ∨ ((40 : Int32) = 124 ∧ (124 : Int32) ≠ 38) then _ else _) = _; rw [if_neg (by decide)]⟩
theorem st124_A {A W : List Int32} (hA : okE A) (h : hwE W) : stW 124 (A ++ W) = W ∧ stE 124 (A ++ W) = A.map neg1 := by
  obtain ⟨c, d⟩ := st124_W h
  have k : ∀ (b : Int32) (r : List Int32), (b = 38 ∨ b = 124) → stW 124 (b :: r) = stW 124 r ∧ stE 124 (b :: r) = -b :: stE 124 r := fun b r hb => st_cons (x := 124) (b := b) (r := r) (hb.imp id (fun q => ⟨q, by decide⟩))
  rcases hA with rfl | rfl | rfl | rfl
  · exact ⟨c, d⟩
  · obtain ⟨a, b⟩ := k 38 W (Or.inl rfl)
    exact ⟨a.trans c, by show stE 124 (38 :: W) = _; rw [b, d]; rfl⟩
  · obtain ⟨a, b⟩ := k 124 W (Or.inr rfl)
    exact ⟨a.trans c, by show stE 124 (124 :: W) = _; rw [b, d]; rfl⟩
  · obtain ⟨a, b⟩ := k 38 (124 :: W) (Or.inl rfl)
    obtain ⟨a', b'⟩ := k 124 W (Or.inr rfl)
    exact ⟨a.trans (a'.trans c), by show stE 124 (38 :: 124 :: W) = _; rw [b, b', d]; rfl⟩
theorem opn_40 (r : List Int32) : opn (40 :: r) = opn r + 1 := by show (if (40 : Int32) = 33 ∨ (40 : Int32) = 40 then 1 else 0) + opn r = _; rw [if_pos (Or.inr rfl), Nat.add_comm]
theorem opn_33 (r : List Int32) : opn (33 :: r) = opn r + 1 := by show (if (33 : Int32) = 33 ∨ (33 : Int32) = 40 then 1 else 0) + opn r = _; rw [if_pos (Or.inl rfl), Nat.add_comm]
theorem opn_o {b : Int32} (r : List Int32) (h : b = 38 ∨ b = 124) : opn (b :: r) = opn r := by
  show (if b = 33 ∨ b = 40 then 1 else 0) + opn r = _
  rw [if_neg (by rcases h with q | q <;> rw [q] <;> decide), Nat.zero_add]
section PEXP
variable {tx : List Int32} {nest p : Nat} {R R2 : PR}
theorem R_test (h33 : ¬ sg tx p = 33) (h40 : ¬ sg tx p = 40) : RO tx nest p (pT (sg tx) p) := fun K X W B s c n z l3 h _ _ => e_test h h33 h40
theorem R_deep (h : sg tx p = 33 ∨ sg tx p = 40) : RO tx 4 p (false, p, []) := fun K X W B s c n z l3 hr ho _ => ⟨fun _ => e_deep hr rfl h ho, fun q => by cases q⟩
theorem R_not (hn : nest < 4) (h : sg tx p = 33) (hR : RO tx (nest + 1) (p + 1) R) : RO tx nest p (if R.1 = true then (true, R.2.1, R.2.2 ++ [-33]) else (false, R.2.1, [])) := by
  intro K X W B s c n z l3 hr ho hc
  have hlt := sg_len h (by decide)
  have ep := e_push (K := K) (n := n) (z := z) (c := c) (l3 := l3) hr h (Or.inl rfl) (by omega)
  have hp2 := RS_pu (b := 33) (o := opn W + 1) hr hlt (opn_33 W).symm
  obtain ⟨t1, t2⟩ := hR K _ (33 :: W) B s c n z (.int 33) hp2 (by rw [opn_33, ho]) hc
  rw [ep]
  have e1 : st33 (33 :: W) = st33 W := by show (if (33 : Int32) = 33 then _ else _) = _; rw [if_pos rfl]
  have e2 : ct33 (33 :: W) = ct33 W + 1 := by show (if (33 : Int32) = 33 then _ else _) = _; rw [if_pos rfl]
  cases hb : R.1 with
  | false =>
    rw [if_neg (by decide)]
    exact ⟨fun _ => RFail_tr (FE_pu (c := c)) (Nat.le_refl s) (t1 hb), fun q => by cases q⟩
  | true =>
    rw [if_pos rfl]
    refine ⟨(fun q => by cases q), fun _ => ?_⟩
    obtain ⟨Y, l3', e, hY, fY, aY⟩ := t2 hb
    rw [e1, e2] at hY
    rw [e2] at aY
    refine ⟨Y, l3', e, ?_, FE_trans FE_pu fY (Nat.le_refl _), ?_⟩
    · show RS tx B Y R.2.1 (st33 W) (s + (R.2.2 ++ [-33]).length + ct33 W)
      rw [List.length_append, List.length_singleton, show s + (R.2.2.length + 1) + ct33 W = s + R.2.2.length + (ct33 W + 1) by omega]
      exact hY
    · show AtM Y s ((R.2.2 ++ [-33]) ++ List.replicate (ct33 W) (-33))
      rw [List.append_assoc]
      exact aY
theorem R_par (hn : nest < 4) (h : sg tx p = 40) (hR : REi tx (nest + 1) (p + 1) R) (hs : R.1 = true → ¬ sg tx R.2.1 = 38 ∧ ¬ sg tx R.2.1 = 124) : RO tx nest p (if R.1 = true ∧ sg tx R.2.1 = 41 then (true, R.2.1 + 1, R.2.2) else (false, R.2.1, [])) := by
  intro K X W B s c n z l3 hr ho hc
  have hlt := sg_len h (by decide)
  have ep := e_push (K := K) (n := n) (z := z) (c := c) (l3 := l3) hr h (Or.inr rfl) (by omega)
  have hp2 := RS_pu (b := 40) (o := opn W + 1) hr hlt (opn_40 W).symm
  obtain ⟨t1, t2⟩ := hR K _ (40 :: W) B s c n z (.int 40) hp2 (by rw [opn_40, ho]) hc (Or.inr ⟨W, rfl⟩)
  rw [ep]
  cases hb : R.1 with
  | false =>
    rw [if_neg (fun q => by cases q.1)]
    exact ⟨fun _ => RFail_tr (FE_pu (c := c)) (Nat.le_refl s) (t1 hb), fun q => by cases q⟩
  | true =>
    obtain ⟨Y, l3', A, E1, e, oA, eq1, hY, fY, aY⟩ := t2 hb
    obtain ⟨s1, s2⟩ := hs hb
    have eq2 : R.2.2 = E1 ++ A.map neg1 := eq1
    obtain ⟨Z, hZ, fZ, aZ, _, eZ⟩ := e_end (K := K) (n := n) (z := z) (c := c) (l3 := l3') hY (st124_A oA (Or.inr ⟨W, rfl⟩)) s1 s2 hc
    have fXZ : FE c s X Z := FE_trans FE_pu (FE_trans fY fZ (by omega)) (Nat.le_refl s)
    rw [e, eZ]
    have h22 : Z 141 22 = nI (W.length + 1) := hZ.2.2.2.1
    have w0 : ¬ nI (W.length + 1) = 0 := nI_ne0 (by omega) (by have := hZ.1.2.2; have := hZ.2.2.2.2.2.2.2.1; have := hZ.2.2.2.2.2.2.2.2.2; have := hZ.2.2.1; simp at *; omega)
    by_cases g : sg tx R.2.1 = 41
    · rw [if_pos ⟨rfl, g⟩]
      refine ⟨(fun q => by cases q), fun _ => ?_⟩
      have hl2 := sg_len g (by decide)
      let V : Nat → Nat → Int32 := set1 Z 141 (upd (upd (upd (Z 141) 22 (nI W.length)) 23 (nI (opn W))) 11 (nI (R.2.1 + 1)))
      have hV : RS tx B V (R.2.1 + 1) W (s + E1.length + A.length) := by
        obtain ⟨h1, h2, h3, h4, h5, h6, h7, h8, h9, h10⟩ := hZ
        simp only [List.length_cons] at h8
        have v141 : V 141 = upd (upd (upd (Z 141) 22 (nI W.length)) 23 (nI (opn W))) 11 (nI (R.2.1 + 1)) := set1_same _ _ _
        have vq : ∀ q, q ≠ 141 → V q = Z q := fun q hq => set1_ne _ _ hq
        refine ⟨⟨?_, ?_, h1.2.2⟩, ?_, by omega, ?_, ?_, ?_, ?_, by omega, h9, h10⟩
        · rw [v141, pk_un (by decide), pk_un (by decide), pk_un (by decide)]; exact h1.1
        · intro j hj; rw [vq 147 (by decide)]; exact h1.2.1 j hj
        · rw [v141, pk_us]
        · rw [v141, pk_un (by decide), pk_un (by decide), pk_us]
        · rw [vq 154 (by decide)]; exact h5.2
        · rw [v141, pk_un (by decide), pk_us]
        · rw [v141, pk_un (by decide), pk_un (by decide), pk_un (by decide)]; exact h7
      have fV : FE c (s + E1.length + A.length) Z V := by
        refine ⟨fun a ha => set1_ne _ _ (fun e => ha (by rw [e]; decide)), fun k hk => ?_, fun j _ => ?_, fun j _ => ?_⟩
        · show set1 _ 141 _ 141 k = _
          rw [set1_same, pk_un (fun e => hk (by rw [e]; decide)), pk_un (fun e => hk (by rw [e]; decide)), pk_un (fun e => hk (by rw [e]; decide))]
        · show set1 _ 141 _ 152 j = _
          rw [set1_ne _ _ (by decide)]
        · show set1 _ 141 _ 153 j = _
          rw [set1_ne _ _ (by decide)]
      obtain ⟨U, eU, hU, fU, aU⟩ := r_whole (K := K) (n := n) (z := z) (c := c) W V _ hV
      have h23 : Z 141 23 = nI (opn W + 1) := by have := hZ.2.2.2.2.2.1; rw [opn_40] at this; exact this
      have h11 := hZ.2.1
      have ep1 : nI (W.length + 1) - 1 = nI W.length := nI_pred _
      have ep2 : nI (opn W + 1) - 1 = nI (opn W) := nI_pred _
      have eu : set1 Z 141 (upd (upd (upd (Z 141) 22 (nI W.length)) 23 (nI (opn W))) 11 (nI (R.2.1 + 1))) = V := rfl
      refine ⟨U, .int (sg tx R.2.1), ?_, ?_, FE_trans fXZ (FE_trans fV fU (Nat.le_refl _)) (by omega), ?_⟩
      · simp (decide := true) only [pX12_takesE_0, pX12_takesE_1, pX12_takesE_2, pX12_takesE_5, pX12_takesE_6, pX12_takesE_7, pX12_takesE_10, pX12_takesE_11, pX12_takesE_14, pX12_takesE_15, pX12_takesE_16, pX12_takesE_19, pX12_takesE_20, pX12_takesE_21, pX12_takesE_23, pX12_takesE_26, pX12_takesE_27, pX12_takesE_28, pX12_takesE_31, pX12_takesE_32, pX12_takesE_34, pX12_takesE_37, pX12_takesE_38, pX12_takesE_40, pX12_takesE_43, pX12_takesE_44, pX12_takesE_47, pX12_takesE_48, pX12_takesE_51, pX12_takesE_52, pX12_takesE_52t, pX12_takesE_52f, pX12_takesE_53, pX12_takesE_54, pX12_takesE_55, pX12_takesE_58, pX12_takesE_59, pX12_takesE_60, pX12_takesE_63, pX12_takesE_64, pX12_takesE_67, pX12_takesE_68, pX12_takesE_71, pX12_takesE_72, pX12_takesE_73, pX12_takesE_74, pX12_takesE_75, pX12_takesE_78, pX12_takesE_79, pX12_takesE_80, pX12_takesE_83, pX12_takesE_84, pX12_takesE_85, pX12_takesE_88, pX12_takesE_89, pX12_takesE_90, pX12_takesE_93, pX12_takesE_96, pX12_takesE_97, pX12_takesE_100, pX12_takesE_103, pX12_takesE_104, pX12_takesE_105, pX12_takesE_108, pX12_takesE_109, pX12_takesE_109t, pX12_takesE_109f, pX12_takesE_110, pX12_takesE_111, pX12_takesE_113, pX12_takesE_116, pX12_takesE_117, pX12_takesE_119, pX12_takesE_122, pX12_takesE_123, pX12_takesE_124, pX12_takesE_127, pX12_takesE_128, pX12_takesE_131, pX12_takesE_132, pX12_takesE_135, pX12_takesE_136, pX12_takesE_137, pX12_takesE_138, pX12_takesE_139, pX12_takesE_142, pX12_takesE_143, pX12_takesE_144, pX12_takesE_147, pX12_takesE_148, pX12_takesE_149, pX12_takesE_150, pX12_takesE_151, pX12_takesE_154, pX12_takesE_155, pX12_takesE_156, pX12_takesE_159, pX12_takesE_162, pX12_takesE_163, pX12_takesE_165, pX12_takesE_168, pX12_takesE_169, pX12_takesE_172, pX12_takesE_173, pX12_takesE_174, pX12_takesE_177, pX12_takesE_178, pX12_takesE_179, pX12_takesE_182, pX12_takesE_185, pX12_takesE_186, pX12_takesE_186t, pX12_takesE_186f, pX12_takesE_187, pX12_takesE_188, pX12_takesE_190, pX12_takesE_193, pX12_takesE_194, pX12_takesE_194t, pX12_takesE_194f, pX12_takesE_195, pX12_takesE_196, pX12_takesE_197, pX12_takesE_200, pX12_takesE_201, pX12_takesE_202, pX12_takesE_205, pX12_takesE_206, pX12_takesE_207, pX12_takesE_210, pX12_takesE_211, pX12_takesE_212, pX12_takesE_215, pX12_takesE_216, pX12_takesE_217, pX12_takesE_220, pX12_takesE_221, pX12_takesE_222, pX12_takesE_225, pX12_takesE_226, pX12_takesE_229, kd_i0, kd_i1, kd_i2, kd_i3, kd_jA, kd_r5, kd_r6, kd_r7, al_i, al_j, al_r, ai_i, aj_j, aq_r, cls_o, fv_o, sti_i, stj_j, st2_s, st2_n, bnd_some, set1_same, set1_twice, hc_141, of_141_0, ow_141_0, of_141_1, ow_141_1, of_141_2, ow_141_2, of_141_3, of_141_4, of_141_5, of_141_6, of_141_7, of_141_8, ow_141_8, of_141_9, ow_141_9, of_141_10, ow_141_10, of_141_11, ow_141_11, of_141_12, ow_141_12, of_141_13, of_141_14, of_141_15, of_141_16, of_141_17, of_141_18, of_141_19, of_141_20, of_141_21, ow_141_21, of_141_22, ow_141_22, of_141_23, ow_141_23, of_141_24, of_141_25, of_141_26, of_141_27, ow_141_27, of_141_28, ow_141_28, of_141_29, ow_141_29, of_141_30, of_141_31, of_141_32, ow_141_32, of_141_33, of_141_34, of_141_35, of_141_36, ow_141_36, of_141_37, of_141_38, of_141_39, ow_141_39, of_141_40, ow_141_40, of_141_41, of_141_42, of_141_43, of_141_44, of_141_45, ow_141_45, of_141_46, ow_141_46, of_141_47, ow_141_47, of_141_48, ow_141_48, of_141_49, ow_141_49, of_141_50, ow_141_50, of_141_51, ow_141_51, of_141_52, ow_141_52, of_141_53, ow_141_53, of_141_54, of_141_55, of_141_56, of_141_57, of_141_58, of_141_59, of_141_60, of_141_61, of_141_62, of_141_63, of_141_64, of_141_65, of_141_66, ow_141_66, of_141_67, of_141_68, of_141_69, of_141_70, of_141_71, hc_142, hw_142, hc_143, hw_143, hc_144, hw_144, hc_145, hw_145, hc_146, hw_146, hc_147, hw_147, hc_148, hw_148, hc_149, hw_149, hc_150, hw_150, hc_151, hw_151, hc_152, hw_152, hc_153, hw_153, hc_154, hw_154, hc_155, hw_155, hc_156, hw_156, hc_157, hw_157, hc_158, hw_158, hc_159, hw_159, hc_160, hw_160, hc_161, hw_161, hc_162, hw_162, hc_163, hw_163, hc_164, hw_164, hc_165, hw_165, hc_166, hw_166, hc_167, hw_167, hc_168, hw_168, hc_169, hw_169, hc_170, hw_170, hc_171, hw_171, hc_172, hw_172, hc_173, hw_173, hc_174, hw_174, hc_175, hw_175, hc_176, hw_176, hc_177, hw_177, hc_178, hw_178, hc_179, hw_179, hc_180, hw_180, hc_181, hw_181, hc_182, hw_182, hc_183, hw_183, hc_184, hw_184, hc_185, hw_185, ↓reduceIte, set1_ne, ne_eq, Nat.reduceEqDiff, not_false_eq_true, not_true_eq_false, if_true, if_false, ite_Ei, bI_eq0, pk_us, ix4, cx4, ix5, cx5, ix6, cx6, ix7, cx7, ix8, cx8, ix10, cx10, ix11, cx11, ix12, cx12, ix20, cx20, ix24, cx24, ix60, cx60, ix64, cx64, ix100, cx100, ix101, cx101, ix360, cx360, ix600, cx600, h22, w0, g, ep1, h23, ep2, h11, pk_un, nI_1, eu, eU]
      · show RS tx B U (R.2.1 + 1) (st33 W) (s + R.2.2.length + ct33 W)
        rw [eq2, List.length_append, List.length_map, ← Nat.add_assoc]
        exact hU
      · show AtM U s (R.2.2 ++ List.replicate (ct33 W) (-33))
        rw [eq2]
        have a1 : AtM Z s E1 := AtM_keep fZ aY (Nat.le_refl _)
        have a2 : AtM Z s (E1 ++ A.map neg1) := AtM_join a1 aZ
        refine AtM_join (AtM_keep fU (AtM_keep fV a2 (by rw [List.length_append, List.length_map]; omega)) (by rw [List.length_append, List.length_map]; omega)) ?_
        rw [List.length_append, List.length_map, ← Nat.add_assoc]
        exact aU
    · rw [if_neg (fun q => g q.2)]
      refine ⟨fun _ => ⟨Z, ?_, hZ.2.1, fXZ⟩, fun q => by cases q⟩
      simp (decide := true) only [pX12_takesE_0, pX12_takesE_1, pX12_takesE_2, pX12_takesE_5, pX12_takesE_6, pX12_takesE_7, pX12_takesE_10, pX12_takesE_11, pX12_takesE_14, pX12_takesE_15, pX12_takesE_16, pX12_takesE_19, pX12_takesE_20, pX12_takesE_21, pX12_takesE_23, pX12_takesE_26, pX12_takesE_27, pX12_takesE_28, pX12_takesE_31, pX12_takesE_32, pX12_takesE_34, pX12_takesE_37, pX12_takesE_38, pX12_takesE_40, pX12_takesE_43, pX12_takesE_44, pX12_takesE_47, pX12_takesE_48, pX12_takesE_51, pX12_takesE_52, pX12_takesE_52t, pX12_takesE_52f, pX12_takesE_53, pX12_takesE_54, pX12_takesE_55, pX12_takesE_58, pX12_takesE_59, pX12_takesE_60, pX12_takesE_63, pX12_takesE_64, pX12_takesE_67, pX12_takesE_68, pX12_takesE_71, pX12_takesE_72, pX12_takesE_73, pX12_takesE_74, pX12_takesE_75, pX12_takesE_78, pX12_takesE_79, pX12_takesE_80, pX12_takesE_83, pX12_takesE_84, pX12_takesE_85, pX12_takesE_88, pX12_takesE_89, pX12_takesE_90, pX12_takesE_93, pX12_takesE_96, pX12_takesE_97, pX12_takesE_100, pX12_takesE_103, pX12_takesE_104, pX12_takesE_105, pX12_takesE_108, pX12_takesE_109, pX12_takesE_109t, pX12_takesE_109f, pX12_takesE_110, pX12_takesE_111, pX12_takesE_113, pX12_takesE_116, pX12_takesE_117, pX12_takesE_119, pX12_takesE_122, pX12_takesE_123, pX12_takesE_124, pX12_takesE_127, pX12_takesE_128, pX12_takesE_131, pX12_takesE_132, pX12_takesE_135, pX12_takesE_136, pX12_takesE_137, pX12_takesE_138, pX12_takesE_139, pX12_takesE_142, pX12_takesE_143, pX12_takesE_144, pX12_takesE_147, pX12_takesE_148, pX12_takesE_149, pX12_takesE_150, pX12_takesE_151, pX12_takesE_154, pX12_takesE_155, pX12_takesE_156, pX12_takesE_159, pX12_takesE_162, pX12_takesE_163, pX12_takesE_165, pX12_takesE_168, pX12_takesE_169, pX12_takesE_172, pX12_takesE_173, pX12_takesE_174, pX12_takesE_177, pX12_takesE_178, pX12_takesE_179, pX12_takesE_182, pX12_takesE_185, pX12_takesE_186, pX12_takesE_186t, pX12_takesE_186f, pX12_takesE_187, pX12_takesE_188, pX12_takesE_190, pX12_takesE_193, pX12_takesE_194, pX12_takesE_194t, pX12_takesE_194f, pX12_takesE_195, pX12_takesE_196, pX12_takesE_197, pX12_takesE_200, pX12_takesE_201, pX12_takesE_202, pX12_takesE_205, pX12_takesE_206, pX12_takesE_207, pX12_takesE_210, pX12_takesE_211, pX12_takesE_212, pX12_takesE_215, pX12_takesE_216, pX12_takesE_217, pX12_takesE_220, pX12_takesE_221, pX12_takesE_222, pX12_takesE_225, pX12_takesE_226, pX12_takesE_229, kd_i0, kd_i1, kd_i2, kd_i3, kd_jA, kd_r5, kd_r6, kd_r7, al_i, al_j, al_r, ai_i, aj_j, aq_r, cls_o, fv_o, sti_i, stj_j, st2_s, st2_n, bnd_some, set1_same, set1_twice, hc_141, of_141_0, ow_141_0, of_141_1, ow_141_1, of_141_2, ow_141_2, of_141_3, of_141_4, of_141_5, of_141_6, of_141_7, of_141_8, ow_141_8, of_141_9, ow_141_9, of_141_10, ow_141_10, of_141_11, ow_141_11, of_141_12, ow_141_12, of_141_13, of_141_14, of_141_15, of_141_16, of_141_17, of_141_18, of_141_19, of_141_20, of_141_21, ow_141_21, of_141_22, ow_141_22, of_141_23, ow_141_23, of_141_24, of_141_25, of_141_26, of_141_27, ow_141_27, of_141_28, ow_141_28, of_141_29, ow_141_29, of_141_30, of_141_31, of_141_32, ow_141_32, of_141_33, of_141_34, of_141_35, of_141_36, ow_141_36, of_141_37, of_141_38, of_141_39, ow_141_39, of_141_40, ow_141_40, of_141_41, of_141_42, of_141_43, of_141_44, of_141_45, ow_141_45, of_141_46, ow_141_46, of_141_47, ow_141_47, of_141_48, ow_141_48, of_141_49, ow_141_49, of_141_50, ow_141_50, of_141_51, ow_141_51, of_141_52, ow_141_52, of_141_53, ow_141_53, of_141_54, of_141_55, of_141_56, of_141_57, of_141_58, of_141_59, of_141_60, of_141_61, of_141_62, of_141_63, of_141_64, of_141_65, of_141_66, ow_141_66, of_141_67, of_141_68, of_141_69, of_141_70, of_141_71, hc_142, hw_142, hc_143, hw_143, hc_144, hw_144, hc_145, hw_145, hc_146, hw_146, hc_147, hw_147, hc_148, hw_148, hc_149, hw_149, hc_150, hw_150, hc_151, hw_151, hc_152, hw_152, hc_153, hw_153, hc_154, hw_154, hc_155, hw_155, hc_156, hw_156, hc_157, hw_157, hc_158, hw_158, hc_159, hw_159, hc_160, hw_160, hc_161, hw_161, hc_162, hw_162, hc_163, hw_163, hc_164, hw_164, hc_165, hw_165, hc_166, hw_166, hc_167, hw_167, hc_168, hw_168, hc_169, hw_169, hc_170, hw_170, hc_171, hw_171, hc_172, hw_172, hc_173, hw_173, hc_174, hw_174, hc_175, hw_175, hc_176, hw_176, hc_177, hw_177, hc_178, hw_178, hc_179, hw_179, hc_180, hw_180, hc_181, hw_181, hc_182, hw_182, hc_183, hw_183, hc_184, hw_184, hc_185, hw_185, ↓reduceIte, set1_ne, ne_eq, Nat.reduceEqDiff, not_false_eq_true, not_true_eq_false, if_true, if_false, ite_Ei, bI_eq0, pk_us, ix4, cx4, ix5, cx5, ix6, cx6, ix7, cx7, ix8, cx8, ix10, cx10, ix11, cx11, ix12, cx12, ix20, cx20, ix24, cx24, ix60, cx60, ix64, cx64, ix100, cx100, ix101, cx101, ix360, cx360, ix600, cx600, h22, w0, g, nb0]
theorem R_both_end (h : ¬ sg tx p = 38) : RBr tx nest p (true, p, []) := by
  intro A oA K X W B s c n z l3 hr ho hc hw
  refine ⟨(fun q => by cases q), fun _ => ⟨X, l3, A, [], rfl, oA, by rw [List.append_nil, List.nil_append], hr, FE_refl _ _ _, AtM_nil _ _⟩⟩
theorem R_both_step (h : sg tx p = 38) (hR : RO tx nest (p + 1) R) (hR2 : R.1 = true → RBr tx nest R.2.1 R2) : RBr tx nest p (if R.1 = true then (R2.1, R2.2.1, R.2.2 ++ (-38 :: R2.2.2)) else (false, R.2.1, [])) := by
  intro A oA K X W B s c n z l3 hr ho hc hw
  obtain ⟨Y, e, hY, fY, aY⟩ := e_op (K := K) (n := n) (z := z) (c := c) (l3 := l3) hr h (Or.inl rfl)
  obtain ⟨sw, se⟩ := st38_A oA hw
  rw [sw, se, List.length_map] at hY
  rw [se] at aY
  obtain ⟨t1, t2⟩ := hR K Y (38 :: W) B _ c n z (.int 38) hY (by rw [opn_o W (Or.inl rfl), ho]) hc
  have e1 : st33 (38 :: W) = 38 :: W := by show (if (38 : Int32) = 33 then _ else _) = _; rw [if_neg (by decide)]
  have e2 : ct33 (38 :: W) = 0 := by show (if (38 : Int32) = 33 then _ else _) = _; rw [if_neg (by decide)]
  rw [e]
  cases hb : R.1 with
  | false =>
    rw [if_neg (by decide)]
    exact ⟨fun _ => RFail_tr fY (by omega) (t1 hb), fun q => by cases q⟩
  | true =>
    rw [if_pos rfl]
    obtain ⟨Z, l4, eZ, hZ, fZ, aZ⟩ := t2 hb
    rw [e1, e2, Nat.add_zero] at hZ
    rw [e2] at aZ
    rw [List.replicate_zero, List.append_nil] at aZ
    obtain ⟨u1, u2⟩ := hR2 hb [38] (Or.inr rfl) K Z W B _ c n z l4 hZ ho hc hw
    rw [eZ]
    have fYZ : FE c s X Z := FE_trans fY fZ (by omega)
    constructor
    · intro q
      exact RFail_tr fYZ (by omega) (u1 q)
    · intro q
      obtain ⟨V, l5, A', E1, eV, oA', eq1, hV, fV, aV⟩ := u2 q
      refine ⟨V, l5, A', A.map neg1 ++ R.2.2 ++ E1, eV, oA', ?_, ?_, FE_trans fYZ fV (by omega), ?_⟩
      · show A.map neg1 ++ (R.2.2 ++ (-38 :: R2.2.2)) = A.map neg1 ++ R.2.2 ++ E1 ++ A'.map neg1
        have eq2 : (-38 : Int32) :: R2.2.2 = E1 ++ A'.map neg1 := eq1
        rw [eq2]
        simp [List.append_assoc]
      · show RS tx B V R2.2.1 (A' ++ W) (s + (A.map neg1 ++ R.2.2 ++ E1).length)
        rw [List.length_append, List.length_append, List.length_map, show s + (A.length + R.2.2.length + E1.length) = s + A.length + R.2.2.length + E1.length by omega]
        exact hV
      · have a1 : AtM Z s (A.map neg1) := AtM_keep fZ aY (by rw [List.length_map]; exact Nat.le_refl _)
        have a2 : AtM Z s (A.map neg1 ++ R.2.2) := AtM_join a1 (by rw [List.length_map]; exact aZ)
        refine AtM_join (AtM_keep fV a2 (by rw [List.length_append, List.length_map]; omega)) ?_
        rw [List.length_append, List.length_map, ← Nat.add_assoc]
        exact aV
theorem R_both (hR : RO tx nest p R) (hR2 : R.1 = true → RBr tx nest R.2.1 R2) : RB tx nest p (if R.1 = true then (R2.1, R2.2.1, R.2.2 ++ R2.2.2) else (false, R.2.1, [])) := by
  intro K X W B s c n z l3 hr ho hc hw
  obtain ⟨t1, t2⟩ := hR K X W B s c n z l3 hr ho hc
  obtain ⟨e1, e2⟩ := hwB_33 hw
  cases hb : R.1 with
  | false =>
    rw [if_neg (by decide)]
    exact ⟨fun _ => t1 hb, fun q => by cases q⟩
  | true =>
    rw [if_pos rfl]
    obtain ⟨Z, l4, eZ, hZ, fZ, aZ⟩ := t2 hb
    rw [e1, e2, Nat.add_zero] at hZ
    rw [e2] at aZ
    rw [List.replicate_zero, List.append_nil] at aZ
    obtain ⟨u1, u2⟩ := hR2 hb [] (Or.inl rfl) K Z W B _ c n z l4 hZ ho hc hw
    rw [eZ]
    constructor
    · intro q
      exact RFail_tr fZ (by omega) (u1 q)
    · intro q
      obtain ⟨V, l5, A', E1, eV, oA', eq1, hV, fV, aV⟩ := u2 q
      refine ⟨V, l5, A', R.2.2 ++ E1, eV, oA', ?_, ?_, FE_trans fZ fV (by omega), ?_⟩
      · show [] ++ (R.2.2 ++ R2.2.2) = R.2.2 ++ E1 ++ A'.map neg1
        have eq2 : R2.2.2 = E1 ++ A'.map neg1 := eq1
        rw [eq2]
        simp [List.append_assoc]
      · show RS tx B V R2.2.1 (A' ++ W) (s + (R.2.2 ++ E1).length)
        rw [List.length_append, ← Nat.add_assoc]
        exact hV
      · exact AtM_join (AtM_keep fV aZ (Nat.le_refl _)) aV
theorem R_either_end (h : ¬ sg tx p = 124) : REr tx nest p (true, p, []) := by
  intro A oA K X W B s c n z l3 hr ho hc hw
  refine ⟨(fun q => by cases q), fun _ => ⟨X, l3, A, [], rfl, oA, by rw [List.append_nil, List.nil_append], hr, FE_refl _ _ _, AtM_nil _ _⟩⟩
theorem hwE_B {W : List Int32} (h : hwE W) : hwB W := h.imp id (fun ⟨r, e⟩ => ⟨r, Or.inl e⟩)
theorem okB_E {A : List Int32} (h : okB A) : okE A := h.elim Or.inl (fun e => Or.inr (Or.inl e))
theorem R_either_step (h : sg tx p = 124) (hR : RB tx nest (p + 1) R) (hR2 : R.1 = true → REr tx nest R.2.1 R2) : REr tx nest p (if R.1 = true then (R2.1, R2.2.1, R.2.2 ++ (-124 :: R2.2.2)) else (false, R.2.1, [])) := by
  intro A oA K X W B s c n z l3 hr ho hc hw
  obtain ⟨Y, e, hY, fY, aY⟩ := e_op (K := K) (n := n) (z := z) (c := c) (l3 := l3) hr h (Or.inr rfl)
  obtain ⟨sw, se⟩ := st124_A oA hw
  rw [sw, se, List.length_map] at hY
  rw [se] at aY
  obtain ⟨t1, t2⟩ := hR K Y (124 :: W) B _ c n z (.int 124) hY (by rw [opn_o W (Or.inr rfl), ho]) hc (Or.inr ⟨W, Or.inr rfl⟩)
  rw [e]
  cases hb : R.1 with
  | false =>
    rw [if_neg (by decide)]
    exact ⟨fun _ => RFail_tr fY (by omega) (t1 hb), fun q => by cases q⟩
  | true =>
    rw [if_pos rfl]
    obtain ⟨Z, l4, A1, E0, eZ, oA1, eq0, hZ, fZ, aZ⟩ := t2 hb
    have eq0' : R.2.2 = E0 ++ A1.map neg1 := eq0
    have hZ' : RS tx B Z R.2.1 ((A1 ++ [124]) ++ W) (s + A.length + E0.length) := by
      rw [List.append_assoc]
      exact hZ
    have oA2 : okE (A1 ++ [124]) := by
      rcases oA1 with rfl | rfl
      · exact Or.inr (Or.inr (Or.inl rfl))
      · exact Or.inr (Or.inr (Or.inr rfl))
    obtain ⟨u1, u2⟩ := hR2 hb (A1 ++ [124]) oA2 K Z W B _ c n z l4 hZ' ho hc hw
    rw [eZ]
    have fYZ : FE c s X Z := FE_trans fY fZ (by omega)
    constructor
    · intro q
      exact RFail_tr fYZ (by omega) (u1 q)
    · intro q
      obtain ⟨V, l5, A', E1, eV, oA', eq1, hV, fV, aV⟩ := u2 q
      refine ⟨V, l5, A', A.map neg1 ++ E0 ++ E1, eV, oA', ?_, ?_, FE_trans fYZ fV (by omega), ?_⟩
      · show A.map neg1 ++ (R.2.2 ++ (-124 :: R2.2.2)) = A.map neg1 ++ E0 ++ E1 ++ A'.map neg1
        rw [eq0']
        rw [List.map_append] at eq1
        have eq2 : A1.map neg1 ++ ((-124 : Int32) :: R2.2.2) = E1 ++ A'.map neg1 := by
          rw [← eq1]
          show _ = (A1.map neg1 ++ [neg1 124]) ++ R2.2.2
          rw [List.append_assoc]
          rfl
        rw [List.append_assoc E0, eq2]
        simp [List.append_assoc]
      · show RS tx B V R2.2.1 (A' ++ W) (s + (A.map neg1 ++ E0 ++ E1).length)
        rw [List.length_append, List.length_append, List.length_map, show s + (A.length + E0.length + E1.length) = s + A.length + E0.length + E1.length by omega]
        exact hV
      · have a1 : AtM Z s (A.map neg1) := AtM_keep fZ aY (by rw [List.length_map]; exact Nat.le_refl _)
        have a2 : AtM Z s (A.map neg1 ++ E0) := AtM_join a1 (by rw [List.length_map]; exact aZ)
        refine AtM_join (AtM_keep fV a2 (by rw [List.length_append, List.length_map]; omega)) ?_
        rw [List.length_append, List.length_map, ← Nat.add_assoc]
        exact aV
theorem R_either (hR : RB tx nest p R) (hR2 : R.1 = true → REr tx nest R.2.1 R2) : REi tx nest p (if R.1 = true then (R2.1, R2.2.1, R.2.2 ++ R2.2.2) else (false, R.2.1, [])) := by
  intro K X W B s c n z l3 hr ho hc hw
  obtain ⟨t1, t2⟩ := hR K X W B s c n z l3 hr ho hc (hwE_B hw)
  cases hb : R.1 with
  | false =>
    rw [if_neg (by decide)]
    exact ⟨fun _ => t1 hb, fun q => by cases q⟩
  | true =>
    rw [if_pos rfl]
    obtain ⟨Z, l4, A1, E0, eZ, oA1, eq0, hZ, fZ, aZ⟩ := t2 hb
    have eq0' : R.2.2 = E0 ++ A1.map neg1 := eq0
    obtain ⟨u1, u2⟩ := hR2 hb A1 (okB_E oA1) K Z W B _ c n z l4 hZ ho hc hw
    rw [eZ]
    constructor
    · intro q
      exact RFail_tr fZ (by omega) (u1 q)
    · intro q
      obtain ⟨V, l5, A', E1, eV, oA', eq1, hV, fV, aV⟩ := u2 q
      refine ⟨V, l5, A', E0 ++ E1, eV, oA', ?_, ?_, FE_trans fZ fV (by omega), ?_⟩
      · show [] ++ (R.2.2 ++ R2.2.2) = E0 ++ E1 ++ A'.map neg1
        rw [List.nil_append, eq0', List.append_assoc, eq1, List.append_assoc]
      · show RS tx B V R2.2.1 (A' ++ W) (s + (E0 ++ E1).length)
        rw [List.length_append, ← Nat.add_assoc]
        exact hV
      · exact AtM_join (AtM_keep fV aZ (Nat.le_refl _)) aV
end PEXP
