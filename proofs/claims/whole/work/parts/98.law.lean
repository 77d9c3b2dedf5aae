/-! The law: each case, and its loop. -/
def lL (i : Nat) : List Value := [.ref 0, .ref 16, .ref 141, .int (nI i)]
def NX (pc : Nat) (st : List Value) (K : KT) (X : Nat → Nat → Int32) (n z i : Nat) : Prop := ∃ K2 Z n1 z1, E 27 mL_law pc [.ref 0, .ref 16, .ref 141, .int (nI i)] st (hp K X, n, z) = E 27 mL_law 1265 [.ref 0, .ref 16, .ref 141, .int (nI i)] [] (hp K2 Z, n1, z1) ∧ kS K2 = kS K ∧ kN K2 = kN K ∧ n1 = 186 + 6 * kM K2 ∧ kM K2 ≤ kM K + 1 ∧ z1 ≤ z + 420 ∧ ∃ S, Inv K2 Z S
theorem lg_self (x : Int64) : lg_cmp x x = 0 := by
  unfold lg_cmp
  simp
section
variable {K : KT} {X : Nat → Nat → Int32} {n z i : Nat}
theorem l_0 {a : Int32} (h6 : i + 6 ≤ kN K) (hN : kN K ≤ 3072) (h : PairV (.int a) 3 mX11_fruit [.ref 16, .int (kS K (i + 1)), .int (kS K (i + 2))] 2 mX12_fruit [.ref 141, .int (kS K (i + 1)), .int (kS K (i + 2)), .null] K X n z) : NX 184 [] K X n z i := by
  obtain ⟨K1, Y, K2, Z, n1, z1, e1, e2, s1, t1, s2, t2, r⟩ := h
  refine ⟨K2, Z, n1, z1, ?_, s2, t2, r⟩
  have j2 : nI i + 2 = nI (i + 2) := by rw [show (2 : Int32) = nI 2 from rfl, nI_add]
  have j3 : nI i + 3 = nI (i + 3) := by rw [show (3 : Int32) = nI 3 from rfl, nI_add]
  have j4 : nI i + 4 = nI (i + 4) := by rw [show (4 : Int32) = nI 4 from rfl, nI_add]
  have j5 : nI i + 5 = nI (i + 5) := by rw [show (5 : Int32) = nI 5 from rfl, nI_add]
  have i1 : ix (nI (i + 1)) (kN K) = true := ix_nI (by omega) (by omega)
  have i2 : ix (nI (i + 2)) (kN K) = true := ix_nI (by omega) (by omega)
  have i3 : ix (nI (i + 3)) (kN K) = true := ix_nI (by omega) (by omega)
  have i4 : ix (nI (i + 4)) (kN K) = true := ix_nI (by omega) (by omega)
  have i5 : ix (nI (i + 5)) (kN K) = true := ix_nI (by omega) (by omega)
  have c1 : cx (nI (i + 1)) = i + 1 := cx_nI (by omega)
  have c2 : cx (nI (i + 2)) = i + 2 := cx_nI (by omega)
  have c3 : cx (nI (i + 3)) = i + 3 := cx_nI (by omega)
  have c4 : cx (nI (i + 4)) = i + 4 := cx_nI (by omega)
  have c5 : cx (nI (i + 5)) = i + 5 := cx_nI (by omega)
  have k0 : kd (hp K X 0) = 10 := rfl
  have l0 : al (hp K X 0) = kN K := rfl
  have a0 : ∀ j, ai (hp K X 0) j = kS K j := fun _ => rfl
  have k1 : kd (hp K1 Y 0) = 10 := rfl
  have l1 : al (hp K1 Y 0) = kN K := t1
  have a1 : ∀ j, ai (hp K1 Y 0) j = kS K j := fun j => congrFun s1 j
  have x16 : cls (hp K X 16) = 11 := rfl
  have x141 : cls (hp K1 Y 141) = 12 := rfl
  simp (decide := true) only [pL_law_184, pL_law_185, pL_law_186, pL_law_187, pL_law_188, pL_law_189, pL_law_190, pL_law_191, pL_law_192, pL_law_193, pL_law_194, pL_law_195, pL_law_198, pL_law_199, pL_law_200, pL_law_201, pL_law_202, pL_law_203, pL_law_204, pL_law_205, pL_law_206, pL_law_207, pL_law_208, pL_law_209, pL_law_212, pL_law_215, pL_law_216, pL_law_216t, pL_law_216f, st2_s, st2_n, bnd_some, ↓reduceIte, eq_self, if_true, if_false, not_true_eq_false, not_false_eq_true, nI_1, j2, j3, j4, j5, i1, i2, i3, i4, i5, c1, c2, c3, c4, c5, k0, l0, a0, k1, l1, a1, x16, x141, e1, e2, lg_self]
theorem l_1 {a : Int32} (h6 : i + 6 ≤ kN K) (hN : kN K ≤ 3072) (h : PairV (.int a) 8 mX11_of [.ref 16, .int (kS K (i + 1)), .int (kS K (i + 2))] 10 mX12_of [.ref 141, .int (kS K (i + 1)), .int (kS K (i + 2))] K X n z) : NX 217 [] K X n z i := by
  obtain ⟨K1, Y, K2, Z, n1, z1, e1, e2, s1, t1, s2, t2, r⟩ := h
  refine ⟨K2, Z, n1, z1, ?_, s2, t2, r⟩
  have j2 : nI i + 2 = nI (i + 2) := by rw [show (2 : Int32) = nI 2 from rfl, nI_add]
  have j3 : nI i + 3 = nI (i + 3) := by rw [show (3 : Int32) = nI 3 from rfl, nI_add]
  have j4 : nI i + 4 = nI (i + 4) := by rw [show (4 : Int32) = nI 4 from rfl, nI_add]
  have j5 : nI i + 5 = nI (i + 5) := by rw [show (5 : Int32) = nI 5 from rfl, nI_add]
  have i1 : ix (nI (i + 1)) (kN K) = true := ix_nI (by omega) (by omega)
  have i2 : ix (nI (i + 2)) (kN K) = true := ix_nI (by omega) (by omega)
  have i3 : ix (nI (i + 3)) (kN K) = true := ix_nI (by omega) (by omega)
  have i4 : ix (nI (i + 4)) (kN K) = true := ix_nI (by omega) (by omega)
  have i5 : ix (nI (i + 5)) (kN K) = true := ix_nI (by omega) (by omega)
  have c1 : cx (nI (i + 1)) = i + 1 := cx_nI (by omega)
  have c2 : cx (nI (i + 2)) = i + 2 := cx_nI (by omega)
  have c3 : cx (nI (i + 3)) = i + 3 := cx_nI (by omega)
  have c4 : cx (nI (i + 4)) = i + 4 := cx_nI (by omega)
  have c5 : cx (nI (i + 5)) = i + 5 := cx_nI (by omega)
  have k0 : kd (hp K X 0) = 10 := rfl
  have l0 : al (hp K X 0) = kN K := rfl
  have a0 : ∀ j, ai (hp K X 0) j = kS K j := fun _ => rfl
  have k1 : kd (hp K1 Y 0) = 10 := rfl
  have l1 : al (hp K1 Y 0) = kN K := t1
  have a1 : ∀ j, ai (hp K1 Y 0) j = kS K j := fun j => congrFun s1 j
  have x16 : cls (hp K X 16) = 11 := rfl
  have x141 : cls (hp K1 Y 141) = 12 := rfl
  simp (decide := true) only [pL_law_217, pL_law_218, pL_law_219, pL_law_220, pL_law_221, pL_law_222, pL_law_223, pL_law_224, pL_law_225, pL_law_226, pL_law_227, pL_law_228, pL_law_231, pL_law_232, pL_law_233, pL_law_234, pL_law_235, pL_law_236, pL_law_237, pL_law_238, pL_law_239, pL_law_240, pL_law_241, pL_law_242, pL_law_245, pL_law_248, pL_law_249, pL_law_249t, pL_law_249f, st2_s, st2_n, bnd_some, ↓reduceIte, eq_self, if_true, if_false, not_true_eq_false, not_false_eq_true, nI_1, j2, j3, j4, j5, i1, i2, i3, i4, i5, c1, c2, c3, c4, c5, k0, l0, a0, k1, l1, a1, x16, x141, e1, e2, lg_self]
theorem l_2t {a : Int32} (h6 : i + 6 ≤ kN K) (hN : kN K ≤ 3072) (hc : ¬ kS K (i + 2) = 0) (h : PairV (.int a) 2 mX11_cut [.ref 16, .int (kS K (i + 1)), .int 1, .null] 3 mX12_cut [.ref 141, .int (kS K (i + 1)), .int 1, .null] K X n z) : NX 250 [] K X n z i := by
  obtain ⟨K1, Y, K2, Z, n1, z1, e1, e2, s1, t1, s2, t2, r⟩ := h
  refine ⟨K2, Z, n1, z1, ?_, s2, t2, r⟩
  have j2 : nI i + 2 = nI (i + 2) := by rw [show (2 : Int32) = nI 2 from rfl, nI_add]
  have j3 : nI i + 3 = nI (i + 3) := by rw [show (3 : Int32) = nI 3 from rfl, nI_add]
  have j4 : nI i + 4 = nI (i + 4) := by rw [show (4 : Int32) = nI 4 from rfl, nI_add]
  have j5 : nI i + 5 = nI (i + 5) := by rw [show (5 : Int32) = nI 5 from rfl, nI_add]
  have i1 : ix (nI (i + 1)) (kN K) = true := ix_nI (by omega) (by omega)
  have i2 : ix (nI (i + 2)) (kN K) = true := ix_nI (by omega) (by omega)
  have i3 : ix (nI (i + 3)) (kN K) = true := ix_nI (by omega) (by omega)
  have i4 : ix (nI (i + 4)) (kN K) = true := ix_nI (by omega) (by omega)
  have i5 : ix (nI (i + 5)) (kN K) = true := ix_nI (by omega) (by omega)
  have c1 : cx (nI (i + 1)) = i + 1 := cx_nI (by omega)
  have c2 : cx (nI (i + 2)) = i + 2 := cx_nI (by omega)
  have c3 : cx (nI (i + 3)) = i + 3 := cx_nI (by omega)
  have c4 : cx (nI (i + 4)) = i + 4 := cx_nI (by omega)
  have c5 : cx (nI (i + 5)) = i + 5 := cx_nI (by omega)
  have k0 : kd (hp K X 0) = 10 := rfl
  have l0 : al (hp K X 0) = kN K := rfl
  have a0 : ∀ j, ai (hp K X 0) j = kS K j := fun _ => rfl
  have k1 : kd (hp K1 Y 0) = 10 := rfl
  have l1 : al (hp K1 Y 0) = kN K := t1
  have a1 : ∀ j, ai (hp K1 Y 0) j = kS K j := fun j => congrFun s1 j
  have x16 : cls (hp K X 16) = 11 := rfl
  have x141 : cls (hp K1 Y 141) = 12 := rfl
  simp (decide := true) only [pL_law_250, pL_law_251, pL_law_252, pL_law_253, pL_law_254, pL_law_255, pL_law_256, pL_law_257, pL_law_258, pL_law_259, pL_law_260, pL_law_261, pL_law_264, pL_law_265, pL_law_268, pL_law_269, pL_law_272, pL_law_273, pL_law_274, pL_law_275, pL_law_276, pL_law_277, pL_law_278, pL_law_279, pL_law_280, pL_law_281, pL_law_282, pL_law_283, pL_law_286, pL_law_287, pL_law_290, pL_law_291, pL_law_294, pL_law_297, pL_law_298, pL_law_298t, pL_law_298f, st2_s, st2_n, bnd_some, ↓reduceIte, eq_self, if_true, if_false, not_true_eq_false, not_false_eq_true, nI_1, j2, j3, j4, j5, i1, i2, i3, i4, i5, c1, c2, c3, c4, c5, k0, l0, a0, k1, l1, a1, x16, x141, e1, e2, lg_self, hc]
theorem l_2f {a : Int32} (h6 : i + 6 ≤ kN K) (hN : kN K ≤ 3072) (hc : kS K (i + 2) = 0) (h : PairV (.int a) 2 mX11_cut [.ref 16, .int (kS K (i + 1)), .int 0, .null] 3 mX12_cut [.ref 141, .int (kS K (i + 1)), .int 0, .null] K X n z) : NX 250 [] K X n z i := by
  obtain ⟨K1, Y, K2, Z, n1, z1, e1, e2, s1, t1, s2, t2, r⟩ := h
  refine ⟨K2, Z, n1, z1, ?_, s2, t2, r⟩
  have j2 : nI i + 2 = nI (i + 2) := by rw [show (2 : Int32) = nI 2 from rfl, nI_add]
  have j3 : nI i + 3 = nI (i + 3) := by rw [show (3 : Int32) = nI 3 from rfl, nI_add]
  have j4 : nI i + 4 = nI (i + 4) := by rw [show (4 : Int32) = nI 4 from rfl, nI_add]
  have j5 : nI i + 5 = nI (i + 5) := by rw [show (5 : Int32) = nI 5 from rfl, nI_add]
  have i1 : ix (nI (i + 1)) (kN K) = true := ix_nI (by omega) (by omega)
  have i2 : ix (nI (i + 2)) (kN K) = true := ix_nI (by omega) (by omega)
  have i3 : ix (nI (i + 3)) (kN K) = true := ix_nI (by omega) (by omega)
  have i4 : ix (nI (i + 4)) (kN K) = true := ix_nI (by omega) (by omega)
  have i5 : ix (nI (i + 5)) (kN K) = true := ix_nI (by omega) (by omega)
  have c1 : cx (nI (i + 1)) = i + 1 := cx_nI (by omega)
  have c2 : cx (nI (i + 2)) = i + 2 := cx_nI (by omega)
  have c3 : cx (nI (i + 3)) = i + 3 := cx_nI (by omega)
  have c4 : cx (nI (i + 4)) = i + 4 := cx_nI (by omega)
  have c5 : cx (nI (i + 5)) = i + 5 := cx_nI (by omega)
  have k0 : kd (hp K X 0) = 10 := rfl
  have l0 : al (hp K X 0) = kN K := rfl
  have a0 : ∀ j, ai (hp K X 0) j = kS K j := fun _ => rfl
  have k1 : kd (hp K1 Y 0) = 10 := rfl
  have l1 : al (hp K1 Y 0) = kN K := t1
  have a1 : ∀ j, ai (hp K1 Y 0) j = kS K j := fun j => congrFun s1 j
  have x16 : cls (hp K X 16) = 11 := rfl
  have x141 : cls (hp K1 Y 141) = 12 := rfl
  simp (decide := true) only [pL_law_250, pL_law_251, pL_law_252, pL_law_253, pL_law_254, pL_law_255, pL_law_256, pL_law_257, pL_law_258, pL_law_259, pL_law_260, pL_law_261, pL_law_264, pL_law_265, pL_law_268, pL_law_269, pL_law_272, pL_law_273, pL_law_274, pL_law_275, pL_law_276, pL_law_277, pL_law_278, pL_law_279, pL_law_280, pL_law_281, pL_law_282, pL_law_283, pL_law_286, pL_law_287, pL_law_290, pL_law_291, pL_law_294, pL_law_297, pL_law_298, pL_law_298t, pL_law_298f, st2_s, st2_n, bnd_some, ↓reduceIte, eq_self, if_true, if_false, not_true_eq_false, not_false_eq_true, nI_1, j2, j3, j4, j5, i1, i2, i3, i4, i5, c1, c2, c3, c4, c5, k0, l0, a0, k1, l1, a1, x16, x141, e1, e2, lg_self, hc]
theorem l_3 {a : Int32} (h6 : i + 6 ≤ kN K) (hN : kN K ≤ 3072) (h : PairV (.int a) 2 mX11_set [.ref 16, .int (kS K (i + 1)), .int (kS K (i + 2)), .int (kS K (i + 3)), .null, .null] 3 mX12_set [.ref 141, .int (kS K (i + 1)), .int (kS K (i + 2)), .int (kS K (i + 3)), .null] K X n z) : NX 299 [] K X n z i := by
  obtain ⟨K1, Y, K2, Z, n1, z1, e1, e2, s1, t1, s2, t2, r⟩ := h
  refine ⟨K2, Z, n1, z1, ?_, s2, t2, r⟩
  have j2 : nI i + 2 = nI (i + 2) := by rw [show (2 : Int32) = nI 2 from rfl, nI_add]
  have j3 : nI i + 3 = nI (i + 3) := by rw [show (3 : Int32) = nI 3 from rfl, nI_add]
  have j4 : nI i + 4 = nI (i + 4) := by rw [show (4 : Int32) = nI 4 from rfl, nI_add]
  have j5 : nI i + 5 = nI (i + 5) := by rw [show (5 : Int32) = nI 5 from rfl, nI_add]
  have i1 : ix (nI (i + 1)) (kN K) = true := ix_nI (by omega) (by omega)
  have i2 : ix (nI (i + 2)) (kN K) = true := ix_nI (by omega) (by omega)
  have i3 : ix (nI (i + 3)) (kN K) = true := ix_nI (by omega) (by omega)
  have i4 : ix (nI (i + 4)) (kN K) = true := ix_nI (by omega) (by omega)
  have i5 : ix (nI (i + 5)) (kN K) = true := ix_nI (by omega) (by omega)
  have c1 : cx (nI (i + 1)) = i + 1 := cx_nI (by omega)
  have c2 : cx (nI (i + 2)) = i + 2 := cx_nI (by omega)
  have c3 : cx (nI (i + 3)) = i + 3 := cx_nI (by omega)
  have c4 : cx (nI (i + 4)) = i + 4 := cx_nI (by omega)
  have c5 : cx (nI (i + 5)) = i + 5 := cx_nI (by omega)
  have k0 : kd (hp K X 0) = 10 := rfl
  have l0 : al (hp K X 0) = kN K := rfl
  have a0 : ∀ j, ai (hp K X 0) j = kS K j := fun _ => rfl
  have k1 : kd (hp K1 Y 0) = 10 := rfl
  have l1 : al (hp K1 Y 0) = kN K := t1
  have a1 : ∀ j, ai (hp K1 Y 0) j = kS K j := fun j => congrFun s1 j
  have x16 : cls (hp K X 16) = 11 := rfl
  have x141 : cls (hp K1 Y 141) = 12 := rfl
  simp (decide := true) only [pL_law_299, pL_law_300, pL_law_301, pL_law_302, pL_law_303, pL_law_304, pL_law_305, pL_law_306, pL_law_307, pL_law_308, pL_law_309, pL_law_310, pL_law_311, pL_law_312, pL_law_313, pL_law_314, pL_law_315, pL_law_318, pL_law_319, pL_law_320, pL_law_321, pL_law_322, pL_law_323, pL_law_324, pL_law_325, pL_law_326, pL_law_327, pL_law_328, pL_law_329, pL_law_330, pL_law_331, pL_law_332, pL_law_333, pL_law_334, pL_law_337, pL_law_340, pL_law_341, pL_law_341t, pL_law_341f, st2_s, st2_n, bnd_some, ↓reduceIte, eq_self, if_true, if_false, not_true_eq_false, not_false_eq_true, nI_1, j2, j3, j4, j5, i1, i2, i3, i4, i5, c1, c2, c3, c4, c5, k0, l0, a0, k1, l1, a1, x16, x141, e1, e2, lg_self]
theorem l_4 {a : Int32} (h6 : i + 6 ≤ kN K) (hN : kN K ≤ 3072) (h : PairV (.int a) 2 mX11_row [.ref 16, .int (kS K (i + 1)), .int (kS K (i + 2)), .int (kS K (i + 3)), .null] 3 mX12_row [.ref 141, .int (kS K (i + 1)), .int (kS K (i + 2)), .int (kS K (i + 3)), .null] K X n z) : NX 342 [] K X n z i := by
  obtain ⟨K1, Y, K2, Z, n1, z1, e1, e2, s1, t1, s2, t2, r⟩ := h
  refine ⟨K2, Z, n1, z1, ?_, s2, t2, r⟩
  have j2 : nI i + 2 = nI (i + 2) := by rw [show (2 : Int32) = nI 2 from rfl, nI_add]
  have j3 : nI i + 3 = nI (i + 3) := by rw [show (3 : Int32) = nI 3 from rfl, nI_add]
  have j4 : nI i + 4 = nI (i + 4) := by rw [show (4 : Int32) = nI 4 from rfl, nI_add]
  have j5 : nI i + 5 = nI (i + 5) := by rw [show (5 : Int32) = nI 5 from rfl, nI_add]
  have i1 : ix (nI (i + 1)) (kN K) = true := ix_nI (by omega) (by omega)
  have i2 : ix (nI (i + 2)) (kN K) = true := ix_nI (by omega) (by omega)
  have i3 : ix (nI (i + 3)) (kN K) = true := ix_nI (by omega) (by omega)
  have i4 : ix (nI (i + 4)) (kN K) = true := ix_nI (by omega) (by omega)
  have i5 : ix (nI (i + 5)) (kN K) = true := ix_nI (by omega) (by omega)
  have c1 : cx (nI (i + 1)) = i + 1 := cx_nI (by omega)
  have c2 : cx (nI (i + 2)) = i + 2 := cx_nI (by omega)
  have c3 : cx (nI (i + 3)) = i + 3 := cx_nI (by omega)
  have c4 : cx (nI (i + 4)) = i + 4 := cx_nI (by omega)
  have c5 : cx (nI (i + 5)) = i + 5 := cx_nI (by omega)
  have k0 : kd (hp K X 0) = 10 := rfl
  have l0 : al (hp K X 0) = kN K := rfl
  have a0 : ∀ j, ai (hp K X 0) j = kS K j := fun _ => rfl
  have k1 : kd (hp K1 Y 0) = 10 := rfl
  have l1 : al (hp K1 Y 0) = kN K := t1
  have a1 : ∀ j, ai (hp K1 Y 0) j = kS K j := fun j => congrFun s1 j
  have x16 : cls (hp K X 16) = 11 := rfl
  have x141 : cls (hp K1 Y 141) = 12 := rfl
  simp (decide := true) only [pL_law_342, pL_law_343, pL_law_344, pL_law_345, pL_law_346, pL_law_347, pL_law_348, pL_law_349, pL_law_350, pL_law_351, pL_law_352, pL_law_353, pL_law_354, pL_law_355, pL_law_356, pL_law_357, pL_law_358, pL_law_361, pL_law_362, pL_law_363, pL_law_364, pL_law_365, pL_law_366, pL_law_367, pL_law_368, pL_law_369, pL_law_370, pL_law_371, pL_law_372, pL_law_373, pL_law_374, pL_law_375, pL_law_376, pL_law_377, pL_law_380, pL_law_383, pL_law_384, pL_law_384t, pL_law_384f, st2_s, st2_n, bnd_some, ↓reduceIte, eq_self, if_true, if_false, not_true_eq_false, not_false_eq_true, nI_1, j2, j3, j4, j5, i1, i2, i3, i4, i5, c1, c2, c3, c4, c5, k0, l0, a0, k1, l1, a1, x16, x141, e1, e2, lg_self]
theorem l_5 {a : Int32} (h6 : i + 6 ≤ kN K) (hN : kN K ≤ 3072) (h : PairV (.int a) 1 mX11_feed [.ref 16, .int (kS K (i + 1))] 2 mX12_feed [.ref 141, .int (kS K (i + 1))] K X n z) : NX 385 [] K X n z i := by
  obtain ⟨K1, Y, K2, Z, n1, z1, e1, e2, s1, t1, s2, t2, r⟩ := h
  refine ⟨K2, Z, n1, z1, ?_, s2, t2, r⟩
  have j2 : nI i + 2 = nI (i + 2) := by rw [show (2 : Int32) = nI 2 from rfl, nI_add]
  have j3 : nI i + 3 = nI (i + 3) := by rw [show (3 : Int32) = nI 3 from rfl, nI_add]
  have j4 : nI i + 4 = nI (i + 4) := by rw [show (4 : Int32) = nI 4 from rfl, nI_add]
  have j5 : nI i + 5 = nI (i + 5) := by rw [show (5 : Int32) = nI 5 from rfl, nI_add]
  have i1 : ix (nI (i + 1)) (kN K) = true := ix_nI (by omega) (by omega)
  have i2 : ix (nI (i + 2)) (kN K) = true := ix_nI (by omega) (by omega)
  have i3 : ix (nI (i + 3)) (kN K) = true := ix_nI (by omega) (by omega)
  have i4 : ix (nI (i + 4)) (kN K) = true := ix_nI (by omega) (by omega)
  have i5 : ix (nI (i + 5)) (kN K) = true := ix_nI (by omega) (by omega)
  have c1 : cx (nI (i + 1)) = i + 1 := cx_nI (by omega)
  have c2 : cx (nI (i + 2)) = i + 2 := cx_nI (by omega)
  have c3 : cx (nI (i + 3)) = i + 3 := cx_nI (by omega)
  have c4 : cx (nI (i + 4)) = i + 4 := cx_nI (by omega)
  have c5 : cx (nI (i + 5)) = i + 5 := cx_nI (by omega)
  have k0 : kd (hp K X 0) = 10 := rfl
  have l0 : al (hp K X 0) = kN K := rfl
  have a0 : ∀ j, ai (hp K X 0) j = kS K j := fun _ => rfl
  have k1 : kd (hp K1 Y 0) = 10 := rfl
  have l1 : al (hp K1 Y 0) = kN K := t1
  have a1 : ∀ j, ai (hp K1 Y 0) j = kS K j := fun j => congrFun s1 j
  have x16 : cls (hp K X 16) = 11 := rfl
  have x141 : cls (hp K1 Y 141) = 12 := rfl
  simp (decide := true) only [pL_law_385, pL_law_386, pL_law_387, pL_law_388, pL_law_389, pL_law_390, pL_law_391, pL_law_394, pL_law_395, pL_law_396, pL_law_397, pL_law_398, pL_law_399, pL_law_400, pL_law_403, pL_law_406, pL_law_407, pL_law_407t, pL_law_407f, st2_s, st2_n, bnd_some, ↓reduceIte, eq_self, if_true, if_false, not_true_eq_false, not_false_eq_true, nI_1, j2, j3, j4, j5, i1, i2, i3, i4, i5, c1, c2, c3, c4, c5, k0, l0, a0, k1, l1, a1, x16, x141, e1, e2, lg_self]
theorem l_6 {a : Int32} (h6 : i + 6 ≤ kN K) (hN : kN K ≤ 3072) (h : PairV (.int a) 26 mX11_wall [.ref 16, .null] 8 mX12_wall [.ref 141, .null] K X n z) : NX 408 [] K X n z i := by
  obtain ⟨K1, Y, K2, Z, n1, z1, e1, e2, s1, t1, s2, t2, r⟩ := h
  refine ⟨K2, Z, n1, z1, ?_, s2, t2, r⟩
  have j2 : nI i + 2 = nI (i + 2) := by rw [show (2 : Int32) = nI 2 from rfl, nI_add]
  have j3 : nI i + 3 = nI (i + 3) := by rw [show (3 : Int32) = nI 3 from rfl, nI_add]
  have j4 : nI i + 4 = nI (i + 4) := by rw [show (4 : Int32) = nI 4 from rfl, nI_add]
  have j5 : nI i + 5 = nI (i + 5) := by rw [show (5 : Int32) = nI 5 from rfl, nI_add]
  have i1 : ix (nI (i + 1)) (kN K) = true := ix_nI (by omega) (by omega)
  have i2 : ix (nI (i + 2)) (kN K) = true := ix_nI (by omega) (by omega)
  have i3 : ix (nI (i + 3)) (kN K) = true := ix_nI (by omega) (by omega)
  have i4 : ix (nI (i + 4)) (kN K) = true := ix_nI (by omega) (by omega)
  have i5 : ix (nI (i + 5)) (kN K) = true := ix_nI (by omega) (by omega)
  have c1 : cx (nI (i + 1)) = i + 1 := cx_nI (by omega)
  have c2 : cx (nI (i + 2)) = i + 2 := cx_nI (by omega)
  have c3 : cx (nI (i + 3)) = i + 3 := cx_nI (by omega)
  have c4 : cx (nI (i + 4)) = i + 4 := cx_nI (by omega)
  have c5 : cx (nI (i + 5)) = i + 5 := cx_nI (by omega)
  have k0 : kd (hp K X 0) = 10 := rfl
  have l0 : al (hp K X 0) = kN K := rfl
  have a0 : ∀ j, ai (hp K X 0) j = kS K j := fun _ => rfl
  have k1 : kd (hp K1 Y 0) = 10 := rfl
  have l1 : al (hp K1 Y 0) = kN K := t1
  have a1 : ∀ j, ai (hp K1 Y 0) j = kS K j := fun j => congrFun s1 j
  have x16 : cls (hp K X 16) = 11 := rfl
  have x141 : cls (hp K1 Y 141) = 12 := rfl
  simp (decide := true) only [pL_law_408, pL_law_409, pL_law_412, pL_law_413, pL_law_416, pL_law_419, pL_law_420, pL_law_420t, pL_law_420f, st2_s, st2_n, bnd_some, ↓reduceIte, eq_self, if_true, if_false, not_true_eq_false, not_false_eq_true, nI_1, j2, j3, j4, j5, i1, i2, i3, i4, i5, c1, c2, c3, c4, c5, k0, l0, a0, k1, l1, a1, x16, x141, e1, e2, lg_self]
theorem l_7 {a : Int32} (h6 : i + 6 ≤ kN K) (hN : kN K ≤ 3072) (h : PairV (.int a) 5 mX11_told [.ref 16, .int (kS K (i + 1)), .null] 6 mX12_told [.ref 141, .int (kS K (i + 1))] K X n z) : NX 421 [] K X n z i := by
  obtain ⟨K1, Y, K2, Z, n1, z1, e1, e2, s1, t1, s2, t2, r⟩ := h
  refine ⟨K2, Z, n1, z1, ?_, s2, t2, r⟩
  have j2 : nI i + 2 = nI (i + 2) := by rw [show (2 : Int32) = nI 2 from rfl, nI_add]
  have j3 : nI i + 3 = nI (i + 3) := by rw [show (3 : Int32) = nI 3 from rfl, nI_add]
  have j4 : nI i + 4 = nI (i + 4) := by rw [show (4 : Int32) = nI 4 from rfl, nI_add]
  have j5 : nI i + 5 = nI (i + 5) := by rw [show (5 : Int32) = nI 5 from rfl, nI_add]
  have i1 : ix (nI (i + 1)) (kN K) = true := ix_nI (by omega) (by omega)
  have i2 : ix (nI (i + 2)) (kN K) = true := ix_nI (by omega) (by omega)
  have i3 : ix (nI (i + 3)) (kN K) = true := ix_nI (by omega) (by omega)
  have i4 : ix (nI (i + 4)) (kN K) = true := ix_nI (by omega) (by omega)
  have i5 : ix (nI (i + 5)) (kN K) = true := ix_nI (by omega) (by omega)
  have c1 : cx (nI (i + 1)) = i + 1 := cx_nI (by omega)
  have c2 : cx (nI (i + 2)) = i + 2 := cx_nI (by omega)
  have c3 : cx (nI (i + 3)) = i + 3 := cx_nI (by omega)
  have c4 : cx (nI (i + 4)) = i + 4 := cx_nI (by omega)
  have c5 : cx (nI (i + 5)) = i + 5 := cx_nI (by omega)
  have k0 : kd (hp K X 0) = 10 := rfl
  have l0 : al (hp K X 0) = kN K := rfl
  have a0 : ∀ j, ai (hp K X 0) j = kS K j := fun _ => rfl
  have k1 : kd (hp K1 Y 0) = 10 := rfl
  have l1 : al (hp K1 Y 0) = kN K := t1
  have a1 : ∀ j, ai (hp K1 Y 0) j = kS K j := fun j => congrFun s1 j
  have x16 : cls (hp K X 16) = 11 := rfl
  have x141 : cls (hp K1 Y 141) = 12 := rfl
  simp (decide := true) only [pL_law_421, pL_law_422, pL_law_423, pL_law_424, pL_law_425, pL_law_426, pL_law_427, pL_law_430, pL_law_431, pL_law_432, pL_law_433, pL_law_434, pL_law_435, pL_law_436, pL_law_439, pL_law_442, pL_law_443, pL_law_443t, pL_law_443f, st2_s, st2_n, bnd_some, ↓reduceIte, eq_self, if_true, if_false, not_true_eq_false, not_false_eq_true, nI_1, j2, j3, j4, j5, i1, i2, i3, i4, i5, c1, c2, c3, c4, c5, k0, l0, a0, k1, l1, a1, x16, x141, e1, e2, lg_self]
theorem l_8 {a : Int32} (h6 : i + 6 ≤ kN K) (hN : kN K ≤ 3072) (h : PairV (.int a) 7 mX11_pass [.ref 16, .int (kS K (i + 1))] 9 mX12_pass [.ref 141, .int (kS K (i + 1))] K X n z) : NX 444 [] K X n z i := by
  obtain ⟨K1, Y, K2, Z, n1, z1, e1, e2, s1, t1, s2, t2, r⟩ := h
  refine ⟨K2, Z, n1, z1, ?_, s2, t2, r⟩
  have j2 : nI i + 2 = nI (i + 2) := by rw [show (2 : Int32) = nI 2 from rfl, nI_add]
  have j3 : nI i + 3 = nI (i + 3) := by rw [show (3 : Int32) = nI 3 from rfl, nI_add]
  have j4 : nI i + 4 = nI (i + 4) := by rw [show (4 : Int32) = nI 4 from rfl, nI_add]
  have j5 : nI i + 5 = nI (i + 5) := by rw [show (5 : Int32) = nI 5 from rfl, nI_add]
  have i1 : ix (nI (i + 1)) (kN K) = true := ix_nI (by omega) (by omega)
  have i2 : ix (nI (i + 2)) (kN K) = true := ix_nI (by omega) (by omega)
  have i3 : ix (nI (i + 3)) (kN K) = true := ix_nI (by omega) (by omega)
  have i4 : ix (nI (i + 4)) (kN K) = true := ix_nI (by omega) (by omega)
  have i5 : ix (nI (i + 5)) (kN K) = true := ix_nI (by omega) (by omega)
  have c1 : cx (nI (i + 1)) = i + 1 := cx_nI (by omega)
  have c2 : cx (nI (i + 2)) = i + 2 := cx_nI (by omega)
  have c3 : cx (nI (i + 3)) = i + 3 := cx_nI (by omega)
  have c4 : cx (nI (i + 4)) = i + 4 := cx_nI (by omega)
  have c5 : cx (nI (i + 5)) = i + 5 := cx_nI (by omega)
  have k0 : kd (hp K X 0) = 10 := rfl
  have l0 : al (hp K X 0) = kN K := rfl
  have a0 : ∀ j, ai (hp K X 0) j = kS K j := fun _ => rfl
  have k1 : kd (hp K1 Y 0) = 10 := rfl
  have l1 : al (hp K1 Y 0) = kN K := t1
  have a1 : ∀ j, ai (hp K1 Y 0) j = kS K j := fun j => congrFun s1 j
  have x16 : cls (hp K X 16) = 11 := rfl
  have x141 : cls (hp K1 Y 141) = 12 := rfl
  simp (decide := true) only [pL_law_444, pL_law_445, pL_law_446, pL_law_447, pL_law_448, pL_law_449, pL_law_450, pL_law_453, pL_law_454, pL_law_455, pL_law_456, pL_law_457, pL_law_458, pL_law_459, pL_law_462, pL_law_465, pL_law_466, pL_law_466t, pL_law_466f, st2_s, st2_n, bnd_some, ↓reduceIte, eq_self, if_true, if_false, not_true_eq_false, not_false_eq_true, nI_1, j2, j3, j4, j5, i1, i2, i3, i4, i5, c1, c2, c3, c4, c5, k0, l0, a0, k1, l1, a1, x16, x141, e1, e2, lg_self]
theorem l_9 {a : Int32} (h6 : i + 6 ≤ kN K) (hN : kN K ≤ 3072) (h : PairV (.int a) 7 mX11_on [.ref 16, .int (kS K (i + 1)), .int (kS K (i + 2)), .null, .null] 9 mX12_on [.ref 141, .int (kS K (i + 1)), .int (kS K (i + 2)), .null] K X n z) : NX 467 [] K X n z i := by
  obtain ⟨K1, Y, K2, Z, n1, z1, e1, e2, s1, t1, s2, t2, r⟩ := h
  refine ⟨K2, Z, n1, z1, ?_, s2, t2, r⟩
  have j2 : nI i + 2 = nI (i + 2) := by rw [show (2 : Int32) = nI 2 from rfl, nI_add]
  have j3 : nI i + 3 = nI (i + 3) := by rw [show (3 : Int32) = nI 3 from rfl, nI_add]
  have j4 : nI i + 4 = nI (i + 4) := by rw [show (4 : Int32) = nI 4 from rfl, nI_add]
  have j5 : nI i + 5 = nI (i + 5) := by rw [show (5 : Int32) = nI 5 from rfl, nI_add]
  have i1 : ix (nI (i + 1)) (kN K) = true := ix_nI (by omega) (by omega)
  have i2 : ix (nI (i + 2)) (kN K) = true := ix_nI (by omega) (by omega)
  have i3 : ix (nI (i + 3)) (kN K) = true := ix_nI (by omega) (by omega)
  have i4 : ix (nI (i + 4)) (kN K) = true := ix_nI (by omega) (by omega)
  have i5 : ix (nI (i + 5)) (kN K) = true := ix_nI (by omega) (by omega)
  have c1 : cx (nI (i + 1)) = i + 1 := cx_nI (by omega)
  have c2 : cx (nI (i + 2)) = i + 2 := cx_nI (by omega)
  have c3 : cx (nI (i + 3)) = i + 3 := cx_nI (by omega)
  have c4 : cx (nI (i + 4)) = i + 4 := cx_nI (by omega)
  have c5 : cx (nI (i + 5)) = i + 5 := cx_nI (by omega)
  have k0 : kd (hp K X 0) = 10 := rfl
  have l0 : al (hp K X 0) = kN K := rfl
  have a0 : ∀ j, ai (hp K X 0) j = kS K j := fun _ => rfl
  have k1 : kd (hp K1 Y 0) = 10 := rfl
  have l1 : al (hp K1 Y 0) = kN K := t1
  have a1 : ∀ j, ai (hp K1 Y 0) j = kS K j := fun j => congrFun s1 j
  have x16 : cls (hp K X 16) = 11 := rfl
  have x141 : cls (hp K1 Y 141) = 12 := rfl
  simp (decide := true) only [pL_law_467, pL_law_468, pL_law_469, pL_law_470, pL_law_471, pL_law_472, pL_law_473, pL_law_474, pL_law_475, pL_law_476, pL_law_477, pL_law_478, pL_law_481, pL_law_482, pL_law_483, pL_law_484, pL_law_485, pL_law_486, pL_law_487, pL_law_488, pL_law_489, pL_law_490, pL_law_491, pL_law_492, pL_law_495, pL_law_498, pL_law_499, pL_law_499t, pL_law_499f, st2_s, st2_n, bnd_some, ↓reduceIte, eq_self, if_true, if_false, not_true_eq_false, not_false_eq_true, nI_1, j2, j3, j4, j5, i1, i2, i3, i4, i5, c1, c2, c3, c4, c5, k0, l0, a0, k1, l1, a1, x16, x141, e1, e2, lg_self]
theorem l_10 {a : Int32} (h6 : i + 6 ≤ kN K) (hN : kN K ≤ 3072) (h : PairV (.int a) 7 mX11_clear [.ref 16, .int (kS K (i + 1)), .int (kS K (i + 2))] 9 mX12_clear [.ref 141, .int (kS K (i + 1)), .int (kS K (i + 2)), .null, .null] K X n z) : NX 500 [] K X n z i := by
  obtain ⟨K1, Y, K2, Z, n1, z1, e1, e2, s1, t1, s2, t2, r⟩ := h
  refine ⟨K2, Z, n1, z1, ?_, s2, t2, r⟩
  have j2 : nI i + 2 = nI (i + 2) := by rw [show (2 : Int32) = nI 2 from rfl, nI_add]
  have j3 : nI i + 3 = nI (i + 3) := by rw [show (3 : Int32) = nI 3 from rfl, nI_add]
  have j4 : nI i + 4 = nI (i + 4) := by rw [show (4 : Int32) = nI 4 from rfl, nI_add]
  have j5 : nI i + 5 = nI (i + 5) := by rw [show (5 : Int32) = nI 5 from rfl, nI_add]
  have i1 : ix (nI (i + 1)) (kN K) = true := ix_nI (by omega) (by omega)
  have i2 : ix (nI (i + 2)) (kN K) = true := ix_nI (by omega) (by omega)
  have i3 : ix (nI (i + 3)) (kN K) = true := ix_nI (by omega) (by omega)
  have i4 : ix (nI (i + 4)) (kN K) = true := ix_nI (by omega) (by omega)
  have i5 : ix (nI (i + 5)) (kN K) = true := ix_nI (by omega) (by omega)
  have c1 : cx (nI (i + 1)) = i + 1 := cx_nI (by omega)
  have c2 : cx (nI (i + 2)) = i + 2 := cx_nI (by omega)
  have c3 : cx (nI (i + 3)) = i + 3 := cx_nI (by omega)
  have c4 : cx (nI (i + 4)) = i + 4 := cx_nI (by omega)
  have c5 : cx (nI (i + 5)) = i + 5 := cx_nI (by omega)
  have k0 : kd (hp K X 0) = 10 := rfl
  have l0 : al (hp K X 0) = kN K := rfl
  have a0 : ∀ j, ai (hp K X 0) j = kS K j := fun _ => rfl
  have k1 : kd (hp K1 Y 0) = 10 := rfl
  have l1 : al (hp K1 Y 0) = kN K := t1
  have a1 : ∀ j, ai (hp K1 Y 0) j = kS K j := fun j => congrFun s1 j
  have x16 : cls (hp K X 16) = 11 := rfl
  have x141 : cls (hp K1 Y 141) = 12 := rfl
  simp (decide := true) only [pL_law_500, pL_law_501, pL_law_502, pL_law_503, pL_law_504, pL_law_505, pL_law_506, pL_law_507, pL_law_508, pL_law_509, pL_law_510, pL_law_511, pL_law_514, pL_law_515, pL_law_516, pL_law_517, pL_law_518, pL_law_519, pL_law_520, pL_law_521, pL_law_522, pL_law_523, pL_law_524, pL_law_525, pL_law_528, pL_law_531, pL_law_532, pL_law_532t, pL_law_532f, st2_s, st2_n, bnd_some, ↓reduceIte, eq_self, if_true, if_false, not_true_eq_false, not_false_eq_true, nI_1, j2, j3, j4, j5, i1, i2, i3, i4, i5, c1, c2, c3, c4, c5, k0, l0, a0, k1, l1, a1, x16, x141, e1, e2, lg_self]
theorem l_11 {a : Int32} (h6 : i + 6 ≤ kN K) (hN : kN K ≤ 3072) (h : PairV (.int a) 6 mX11_help [.ref 16, .int (kS K (i + 1)), .int (kS K (i + 2)), .null, .null, .null, .null, .null] 9 mX12_help [.ref 141, .int (kS K (i + 1)), .int (kS K (i + 2)), .null, .null, .null, .null, .null] K X n z) : NX 533 [] K X n z i := by
  obtain ⟨K1, Y, K2, Z, n1, z1, e1, e2, s1, t1, s2, t2, r⟩ := h
  refine ⟨K2, Z, n1, z1, ?_, s2, t2, r⟩
  have j2 : nI i + 2 = nI (i + 2) := by rw [show (2 : Int32) = nI 2 from rfl, nI_add]
  have j3 : nI i + 3 = nI (i + 3) := by rw [show (3 : Int32) = nI 3 from rfl, nI_add]
  have j4 : nI i + 4 = nI (i + 4) := by rw [show (4 : Int32) = nI 4 from rfl, nI_add]
  have j5 : nI i + 5 = nI (i + 5) := by rw [show (5 : Int32) = nI 5 from rfl, nI_add]
  have i1 : ix (nI (i + 1)) (kN K) = true := ix_nI (by omega) (by omega)
  have i2 : ix (nI (i + 2)) (kN K) = true := ix_nI (by omega) (by omega)
  have i3 : ix (nI (i + 3)) (kN K) = true := ix_nI (by omega) (by omega)
  have i4 : ix (nI (i + 4)) (kN K) = true := ix_nI (by omega) (by omega)
  have i5 : ix (nI (i + 5)) (kN K) = true := ix_nI (by omega) (by omega)
  have c1 : cx (nI (i + 1)) = i + 1 := cx_nI (by omega)
  have c2 : cx (nI (i + 2)) = i + 2 := cx_nI (by omega)
  have c3 : cx (nI (i + 3)) = i + 3 := cx_nI (by omega)
  have c4 : cx (nI (i + 4)) = i + 4 := cx_nI (by omega)
  have c5 : cx (nI (i + 5)) = i + 5 := cx_nI (by omega)
  have k0 : kd (hp K X 0) = 10 := rfl
  have l0 : al (hp K X 0) = kN K := rfl
  have a0 : ∀ j, ai (hp K X 0) j = kS K j := fun _ => rfl
  have k1 : kd (hp K1 Y 0) = 10 := rfl
  have l1 : al (hp K1 Y 0) = kN K := t1
  have a1 : ∀ j, ai (hp K1 Y 0) j = kS K j := fun j => congrFun s1 j
  have x16 : cls (hp K X 16) = 11 := rfl
  have x141 : cls (hp K1 Y 141) = 12 := rfl
  simp (decide := true) only [pL_law_533, pL_law_534, pL_law_535, pL_law_536, pL_law_537, pL_law_538, pL_law_539, pL_law_540, pL_law_541, pL_law_542, pL_law_543, pL_law_544, pL_law_547, pL_law_548, pL_law_549, pL_law_550, pL_law_551, pL_law_552, pL_law_553, pL_law_554, pL_law_555, pL_law_556, pL_law_557, pL_law_558, pL_law_561, pL_law_564, pL_law_565, pL_law_565t, pL_law_565f, st2_s, st2_n, bnd_some, ↓reduceIte, eq_self, if_true, if_false, not_true_eq_false, not_false_eq_true, nI_1, j2, j3, j4, j5, i1, i2, i3, i4, i5, c1, c2, c3, c4, c5, k0, l0, a0, k1, l1, a1, x16, x141, e1, e2, lg_self]
theorem l_12 {a : Int32} (h6 : i + 6 ≤ kN K) (hN : kN K ≤ 3072) (h : PairV (.int a) 2 mX11_want [.ref 16, .int (kS K (i + 1))] 3 mX12_want [.ref 141, .int (kS K (i + 1))] K X n z) : NX 566 [] K X n z i := by
  obtain ⟨K1, Y, K2, Z, n1, z1, e1, e2, s1, t1, s2, t2, r⟩ := h
  refine ⟨K2, Z, n1, z1, ?_, s2, t2, r⟩
  have j2 : nI i + 2 = nI (i + 2) := by rw [show (2 : Int32) = nI 2 from rfl, nI_add]
  have j3 : nI i + 3 = nI (i + 3) := by rw [show (3 : Int32) = nI 3 from rfl, nI_add]
  have j4 : nI i + 4 = nI (i + 4) := by rw [show (4 : Int32) = nI 4 from rfl, nI_add]
  have j5 : nI i + 5 = nI (i + 5) := by rw [show (5 : Int32) = nI 5 from rfl, nI_add]
  have i1 : ix (nI (i + 1)) (kN K) = true := ix_nI (by omega) (by omega)
  have i2 : ix (nI (i + 2)) (kN K) = true := ix_nI (by omega) (by omega)
  have i3 : ix (nI (i + 3)) (kN K) = true := ix_nI (by omega) (by omega)
  have i4 : ix (nI (i + 4)) (kN K) = true := ix_nI (by omega) (by omega)
  have i5 : ix (nI (i + 5)) (kN K) = true := ix_nI (by omega) (by omega)
  have c1 : cx (nI (i + 1)) = i + 1 := cx_nI (by omega)
  have c2 : cx (nI (i + 2)) = i + 2 := cx_nI (by omega)
  have c3 : cx (nI (i + 3)) = i + 3 := cx_nI (by omega)
  have c4 : cx (nI (i + 4)) = i + 4 := cx_nI (by omega)
  have c5 : cx (nI (i + 5)) = i + 5 := cx_nI (by omega)
  have k0 : kd (hp K X 0) = 10 := rfl
  have l0 : al (hp K X 0) = kN K := rfl
  have a0 : ∀ j, ai (hp K X 0) j = kS K j := fun _ => rfl
  have k1 : kd (hp K1 Y 0) = 10 := rfl
  have l1 : al (hp K1 Y 0) = kN K := t1
  have a1 : ∀ j, ai (hp K1 Y 0) j = kS K j := fun j => congrFun s1 j
  have x16 : cls (hp K X 16) = 11 := rfl
  have x141 : cls (hp K1 Y 141) = 12 := rfl
  simp (decide := true) only [pL_law_566, pL_law_567, pL_law_568, pL_law_569, pL_law_570, pL_law_571, pL_law_572, pL_law_575, pL_law_576, pL_law_577, pL_law_578, pL_law_579, pL_law_580, pL_law_581, pL_law_584, pL_law_587, pL_law_588, pL_law_588t, pL_law_588f, st2_s, st2_n, bnd_some, ↓reduceIte, eq_self, if_true, if_false, not_true_eq_false, not_false_eq_true, nI_1, j2, j3, j4, j5, i1, i2, i3, i4, i5, c1, c2, c3, c4, c5, k0, l0, a0, k1, l1, a1, x16, x141, e1, e2, lg_self]
theorem l_13 {a : Int32} (h6 : i + 6 ≤ kN K) (hN : kN K ≤ 3072) (h : PairV (.int a) 4 mX11_sent [.ref 16, .int (kS K (i + 1))] 3 mX12_sent [.ref 141, .int (kS K (i + 1)), .null, .null, .null, .null, .null] K X n z) : NX 589 [] K X n z i := by
  obtain ⟨K1, Y, K2, Z, n1, z1, e1, e2, s1, t1, s2, t2, r⟩ := h
  refine ⟨K2, Z, n1, z1, ?_, s2, t2, r⟩
  have j2 : nI i + 2 = nI (i + 2) := by rw [show (2 : Int32) = nI 2 from rfl, nI_add]
  have j3 : nI i + 3 = nI (i + 3) := by rw [show (3 : Int32) = nI 3 from rfl, nI_add]
  have j4 : nI i + 4 = nI (i + 4) := by rw [show (4 : Int32) = nI 4 from rfl, nI_add]
  have j5 : nI i + 5 = nI (i + 5) := by rw [show (5 : Int32) = nI 5 from rfl, nI_add]
  have i1 : ix (nI (i + 1)) (kN K) = true := ix_nI (by omega) (by omega)
  have i2 : ix (nI (i + 2)) (kN K) = true := ix_nI (by omega) (by omega)
  have i3 : ix (nI (i + 3)) (kN K) = true := ix_nI (by omega) (by omega)
  have i4 : ix (nI (i + 4)) (kN K) = true := ix_nI (by omega) (by omega)
  have i5 : ix (nI (i + 5)) (kN K) = true := ix_nI (by omega) (by omega)
  have c1 : cx (nI (i + 1)) = i + 1 := cx_nI (by omega)
  have c2 : cx (nI (i + 2)) = i + 2 := cx_nI (by omega)
  have c3 : cx (nI (i + 3)) = i + 3 := cx_nI (by omega)
  have c4 : cx (nI (i + 4)) = i + 4 := cx_nI (by omega)
  have c5 : cx (nI (i + 5)) = i + 5 := cx_nI (by omega)
  have k0 : kd (hp K X 0) = 10 := rfl
  have l0 : al (hp K X 0) = kN K := rfl
  have a0 : ∀ j, ai (hp K X 0) j = kS K j := fun _ => rfl
  have k1 : kd (hp K1 Y 0) = 10 := rfl
  have l1 : al (hp K1 Y 0) = kN K := t1
  have a1 : ∀ j, ai (hp K1 Y 0) j = kS K j := fun j => congrFun s1 j
  have x16 : cls (hp K X 16) = 11 := rfl
  have x141 : cls (hp K1 Y 141) = 12 := rfl
  simp (decide := true) only [pL_law_589, pL_law_590, pL_law_591, pL_law_592, pL_law_593, pL_law_594, pL_law_595, pL_law_598, pL_law_599, pL_law_600, pL_law_601, pL_law_602, pL_law_603, pL_law_604, pL_law_607, pL_law_610, pL_law_611, pL_law_611t, pL_law_611f, st2_s, st2_n, bnd_some, ↓reduceIte, eq_self, if_true, if_false, not_true_eq_false, not_false_eq_true, nI_1, j2, j3, j4, j5, i1, i2, i3, i4, i5, c1, c2, c3, c4, c5, k0, l0, a0, k1, l1, a1, x16, x141, e1, e2, lg_self]
theorem l_14 {a : Int32} (h6 : i + 6 ≤ kN K) (hN : kN K ≤ 3072) (h : PairV (.int a) 3 mX11_see [.ref 16, .int (kS K (i + 1)), .int (kS K (i + 2))] 3 mX12_see [.ref 141, .int (kS K (i + 1)), .int (kS K (i + 2))] K X n z) : NX 612 [] K X n z i := by
  obtain ⟨K1, Y, K2, Z, n1, z1, e1, e2, s1, t1, s2, t2, r⟩ := h
  refine ⟨K2, Z, n1, z1, ?_, s2, t2, r⟩
  have j2 : nI i + 2 = nI (i + 2) := by rw [show (2 : Int32) = nI 2 from rfl, nI_add]
  have j3 : nI i + 3 = nI (i + 3) := by rw [show (3 : Int32) = nI 3 from rfl, nI_add]
  have j4 : nI i + 4 = nI (i + 4) := by rw [show (4 : Int32) = nI 4 from rfl, nI_add]
  have j5 : nI i + 5 = nI (i + 5) := by rw [show (5 : Int32) = nI 5 from rfl, nI_add]
  have i1 : ix (nI (i + 1)) (kN K) = true := ix_nI (by omega) (by omega)
  have i2 : ix (nI (i + 2)) (kN K) = true := ix_nI (by omega) (by omega)
  have i3 : ix (nI (i + 3)) (kN K) = true := ix_nI (by omega) (by omega)
  have i4 : ix (nI (i + 4)) (kN K) = true := ix_nI (by omega) (by omega)
  have i5 : ix (nI (i + 5)) (kN K) = true := ix_nI (by omega) (by omega)
  have c1 : cx (nI (i + 1)) = i + 1 := cx_nI (by omega)
  have c2 : cx (nI (i + 2)) = i + 2 := cx_nI (by omega)
  have c3 : cx (nI (i + 3)) = i + 3 := cx_nI (by omega)
  have c4 : cx (nI (i + 4)) = i + 4 := cx_nI (by omega)
  have c5 : cx (nI (i + 5)) = i + 5 := cx_nI (by omega)
  have k0 : kd (hp K X 0) = 10 := rfl
  have l0 : al (hp K X 0) = kN K := rfl
  have a0 : ∀ j, ai (hp K X 0) j = kS K j := fun _ => rfl
  have k1 : kd (hp K1 Y 0) = 10 := rfl
  have l1 : al (hp K1 Y 0) = kN K := t1
  have a1 : ∀ j, ai (hp K1 Y 0) j = kS K j := fun j => congrFun s1 j
  have x16 : cls (hp K X 16) = 11 := rfl
  have x141 : cls (hp K1 Y 141) = 12 := rfl
  simp (decide := true) only [pL_law_612, pL_law_613, pL_law_614, pL_law_615, pL_law_616, pL_law_617, pL_law_618, pL_law_619, pL_law_620, pL_law_621, pL_law_622, pL_law_623, pL_law_626, pL_law_627, pL_law_628, pL_law_629, pL_law_630, pL_law_631, pL_law_632, pL_law_633, pL_law_634, pL_law_635, pL_law_636, pL_law_637, pL_law_640, pL_law_643, pL_law_644, pL_law_644t, pL_law_644f, st2_s, st2_n, bnd_some, ↓reduceIte, eq_self, if_true, if_false, not_true_eq_false, not_false_eq_true, nI_1, j2, j3, j4, j5, i1, i2, i3, i4, i5, c1, c2, c3, c4, c5, k0, l0, a0, k1, l1, a1, x16, x141, e1, e2, lg_self]
theorem l_15 {a : Int32} (h6 : i + 6 ≤ kN K) (hN : kN K ≤ 3072) (h : PairV (.int a) 7 mX11_can [.ref 16, .int (kS K (i + 1)), .int (kS K (i + 2)), .null, .null, .null] 8 mX12_can [.ref 141, .int (kS K (i + 1)), .int (kS K (i + 2)), .null, .null, .null, .null] K X n z) : NX 645 [] K X n z i := by
  obtain ⟨K1, Y, K2, Z, n1, z1, e1, e2, s1, t1, s2, t2, r⟩ := h
  refine ⟨K2, Z, n1, z1, ?_, s2, t2, r⟩
  have j2 : nI i + 2 = nI (i + 2) := by rw [show (2 : Int32) = nI 2 from rfl, nI_add]
  have j3 : nI i + 3 = nI (i + 3) := by rw [show (3 : Int32) = nI 3 from rfl, nI_add]
  have j4 : nI i + 4 = nI (i + 4) := by rw [show (4 : Int32) = nI 4 from rfl, nI_add]
  have j5 : nI i + 5 = nI (i + 5) := by rw [show (5 : Int32) = nI 5 from rfl, nI_add]
  have i1 : ix (nI (i + 1)) (kN K) = true := ix_nI (by omega) (by omega)
  have i2 : ix (nI (i + 2)) (kN K) = true := ix_nI (by omega) (by omega)
  have i3 : ix (nI (i + 3)) (kN K) = true := ix_nI (by omega) (by omega)
  have i4 : ix (nI (i + 4)) (kN K) = true := ix_nI (by omega) (by omega)
  have i5 : ix (nI (i + 5)) (kN K) = true := ix_nI (by omega) (by omega)
  have c1 : cx (nI (i + 1)) = i + 1 := cx_nI (by omega)
  have c2 : cx (nI (i + 2)) = i + 2 := cx_nI (by omega)
  have c3 : cx (nI (i + 3)) = i + 3 := cx_nI (by omega)
  have c4 : cx (nI (i + 4)) = i + 4 := cx_nI (by omega)
  have c5 : cx (nI (i + 5)) = i + 5 := cx_nI (by omega)
  have k0 : kd (hp K X 0) = 10 := rfl
  have l0 : al (hp K X 0) = kN K := rfl
  have a0 : ∀ j, ai (hp K X 0) j = kS K j := fun _ => rfl
  have k1 : kd (hp K1 Y 0) = 10 := rfl
  have l1 : al (hp K1 Y 0) = kN K := t1
  have a1 : ∀ j, ai (hp K1 Y 0) j = kS K j := fun j => congrFun s1 j
  have x16 : cls (hp K X 16) = 11 := rfl
  have x141 : cls (hp K1 Y 141) = 12 := rfl
  simp (decide := true) only [pL_law_645, pL_law_646, pL_law_647, pL_law_648, pL_law_649, pL_law_650, pL_law_651, pL_law_652, pL_law_653, pL_law_654, pL_law_655, pL_law_656, pL_law_659, pL_law_660, pL_law_661, pL_law_662, pL_law_663, pL_law_664, pL_law_665, pL_law_666, pL_law_667, pL_law_668, pL_law_669, pL_law_670, pL_law_673, pL_law_676, pL_law_677, pL_law_677t, pL_law_677f, st2_s, st2_n, bnd_some, ↓reduceIte, eq_self, if_true, if_false, not_true_eq_false, not_false_eq_true, nI_1, j2, j3, j4, j5, i1, i2, i3, i4, i5, c1, c2, c3, c4, c5, k0, l0, a0, k1, l1, a1, x16, x141, e1, e2, lg_self]
theorem l_16 {a : Int32} (h6 : i + 6 ≤ kN K) (hN : kN K ≤ 3072) (h : PairV (.int a) 7 mX11_which [.ref 16, .int (kS K (i + 1)), .null, .null, .null] 8 mX12_which [.ref 141, .int (kS K (i + 1)), .null, .null, .null, .null] K X n z) : NX 678 [] K X n z i := by
  obtain ⟨K1, Y, K2, Z, n1, z1, e1, e2, s1, t1, s2, t2, r⟩ := h
  refine ⟨K2, Z, n1, z1, ?_, s2, t2, r⟩
  have j2 : nI i + 2 = nI (i + 2) := by rw [show (2 : Int32) = nI 2 from rfl, nI_add]
  have j3 : nI i + 3 = nI (i + 3) := by rw [show (3 : Int32) = nI 3 from rfl, nI_add]
  have j4 : nI i + 4 = nI (i + 4) := by rw [show (4 : Int32) = nI 4 from rfl, nI_add]
  have j5 : nI i + 5 = nI (i + 5) := by rw [show (5 : Int32) = nI 5 from rfl, nI_add]
  have i1 : ix (nI (i + 1)) (kN K) = true := ix_nI (by omega) (by omega)
  have i2 : ix (nI (i + 2)) (kN K) = true := ix_nI (by omega) (by omega)
  have i3 : ix (nI (i + 3)) (kN K) = true := ix_nI (by omega) (by omega)
  have i4 : ix (nI (i + 4)) (kN K) = true := ix_nI (by omega) (by omega)
  have i5 : ix (nI (i + 5)) (kN K) = true := ix_nI (by omega) (by omega)
  have c1 : cx (nI (i + 1)) = i + 1 := cx_nI (by omega)
  have c2 : cx (nI (i + 2)) = i + 2 := cx_nI (by omega)
  have c3 : cx (nI (i + 3)) = i + 3 := cx_nI (by omega)
  have c4 : cx (nI (i + 4)) = i + 4 := cx_nI (by omega)
  have c5 : cx (nI (i + 5)) = i + 5 := cx_nI (by omega)
  have k0 : kd (hp K X 0) = 10 := rfl
  have l0 : al (hp K X 0) = kN K := rfl
  have a0 : ∀ j, ai (hp K X 0) j = kS K j := fun _ => rfl
  have k1 : kd (hp K1 Y 0) = 10 := rfl
  have l1 : al (hp K1 Y 0) = kN K := t1
  have a1 : ∀ j, ai (hp K1 Y 0) j = kS K j := fun j => congrFun s1 j
  have x16 : cls (hp K X 16) = 11 := rfl
  have x141 : cls (hp K1 Y 141) = 12 := rfl
  simp (decide := true) only [pL_law_678, pL_law_679, pL_law_680, pL_law_681, pL_law_682, pL_law_683, pL_law_684, pL_law_687, pL_law_688, pL_law_689, pL_law_690, pL_law_691, pL_law_692, pL_law_693, pL_law_696, pL_law_699, pL_law_700, pL_law_700t, pL_law_700f, st2_s, st2_n, bnd_some, ↓reduceIte, eq_self, if_true, if_false, not_true_eq_false, not_false_eq_true, nI_1, j2, j3, j4, j5, i1, i2, i3, i4, i5, c1, c2, c3, c4, c5, k0, l0, a0, k1, l1, a1, x16, x141, e1, e2, lg_self]
theorem l_17 {a : Int64} (h6 : i + 6 ≤ kN K) (hN : kN K ≤ 3072) (h : PairV (.long a) 5 mX11_odds [.ref 16, .int (kS K (i + 1)), .int (kS K (i + 2)), .int (kS K (i + 3)), .null, .null] 9 mX12_odds [.ref 141, .int (kS K (i + 1)), .int (kS K (i + 2)), .int (kS K (i + 3)), .null, .null] K X n z) : NX 701 [] K X n z i := by
  obtain ⟨K1, Y, K2, Z, n1, z1, e1, e2, s1, t1, s2, t2, r⟩ := h
  refine ⟨K2, Z, n1, z1, ?_, s2, t2, r⟩
  have j2 : nI i + 2 = nI (i + 2) := by rw [show (2 : Int32) = nI 2 from rfl, nI_add]
  have j3 : nI i + 3 = nI (i + 3) := by rw [show (3 : Int32) = nI 3 from rfl, nI_add]
  have j4 : nI i + 4 = nI (i + 4) := by rw [show (4 : Int32) = nI 4 from rfl, nI_add]
  have j5 : nI i + 5 = nI (i + 5) := by rw [show (5 : Int32) = nI 5 from rfl, nI_add]
  have i1 : ix (nI (i + 1)) (kN K) = true := ix_nI (by omega) (by omega)
  have i2 : ix (nI (i + 2)) (kN K) = true := ix_nI (by omega) (by omega)
  have i3 : ix (nI (i + 3)) (kN K) = true := ix_nI (by omega) (by omega)
  have i4 : ix (nI (i + 4)) (kN K) = true := ix_nI (by omega) (by omega)
  have i5 : ix (nI (i + 5)) (kN K) = true := ix_nI (by omega) (by omega)
  have c1 : cx (nI (i + 1)) = i + 1 := cx_nI (by omega)
  have c2 : cx (nI (i + 2)) = i + 2 := cx_nI (by omega)
  have c3 : cx (nI (i + 3)) = i + 3 := cx_nI (by omega)
  have c4 : cx (nI (i + 4)) = i + 4 := cx_nI (by omega)
  have c5 : cx (nI (i + 5)) = i + 5 := cx_nI (by omega)
  have k0 : kd (hp K X 0) = 10 := rfl
  have l0 : al (hp K X 0) = kN K := rfl
  have a0 : ∀ j, ai (hp K X 0) j = kS K j := fun _ => rfl
  have k1 : kd (hp K1 Y 0) = 10 := rfl
  have l1 : al (hp K1 Y 0) = kN K := t1
  have a1 : ∀ j, ai (hp K1 Y 0) j = kS K j := fun j => congrFun s1 j
  have x16 : cls (hp K X 16) = 11 := rfl
  have x141 : cls (hp K1 Y 141) = 12 := rfl
  simp (decide := true) only [pL_law_701, pL_law_702, pL_law_703, pL_law_704, pL_law_705, pL_law_706, pL_law_707, pL_law_708, pL_law_709, pL_law_710, pL_law_711, pL_law_712, pL_law_713, pL_law_714, pL_law_715, pL_law_716, pL_law_717, pL_law_720, pL_law_721, pL_law_722, pL_law_723, pL_law_724, pL_law_725, pL_law_726, pL_law_727, pL_law_728, pL_law_729, pL_law_730, pL_law_731, pL_law_732, pL_law_733, pL_law_734, pL_law_735, pL_law_736, pL_law_739, pL_law_740, pL_law_743, pL_law_744, pL_law_744t, pL_law_744f, st2_s, st2_n, bnd_some, ↓reduceIte, eq_self, if_true, if_false, not_true_eq_false, not_false_eq_true, nI_1, j2, j3, j4, j5, i1, i2, i3, i4, i5, c1, c2, c3, c4, c5, k0, l0, a0, k1, l1, a1, x16, x141, e1, e2, lg_self]
theorem l_18 {a : Int64} (h6 : i + 6 ≤ kN K) (hN : kN K ≤ 3072) (h : PairV (.long a) 2 mX11_mean [.ref 16, .int (kS K (i + 1))] 3 mX12_mean [.ref 141, .int (kS K (i + 1))] K X n z) : NX 745 [] K X n z i := by
  obtain ⟨K1, Y, K2, Z, n1, z1, e1, e2, s1, t1, s2, t2, r⟩ := h
  refine ⟨K2, Z, n1, z1, ?_, s2, t2, r⟩
  have j2 : nI i + 2 = nI (i + 2) := by rw [show (2 : Int32) = nI 2 from rfl, nI_add]
  have j3 : nI i + 3 = nI (i + 3) := by rw [show (3 : Int32) = nI 3 from rfl, nI_add]
  have j4 : nI i + 4 = nI (i + 4) := by rw [show (4 : Int32) = nI 4 from rfl, nI_add]
  have j5 : nI i + 5 = nI (i + 5) := by rw [show (5 : Int32) = nI 5 from rfl, nI_add]
  have i1 : ix (nI (i + 1)) (kN K) = true := ix_nI (by omega) (by omega)
  have i2 : ix (nI (i + 2)) (kN K) = true := ix_nI (by omega) (by omega)
  have i3 : ix (nI (i + 3)) (kN K) = true := ix_nI (by omega) (by omega)
  have i4 : ix (nI (i + 4)) (kN K) = true := ix_nI (by omega) (by omega)
  have i5 : ix (nI (i + 5)) (kN K) = true := ix_nI (by omega) (by omega)
  have c1 : cx (nI (i + 1)) = i + 1 := cx_nI (by omega)
  have c2 : cx (nI (i + 2)) = i + 2 := cx_nI (by omega)
  have c3 : cx (nI (i + 3)) = i + 3 := cx_nI (by omega)
  have c4 : cx (nI (i + 4)) = i + 4 := cx_nI (by omega)
  have c5 : cx (nI (i + 5)) = i + 5 := cx_nI (by omega)
  have k0 : kd (hp K X 0) = 10 := rfl
  have l0 : al (hp K X 0) = kN K := rfl
  have a0 : ∀ j, ai (hp K X 0) j = kS K j := fun _ => rfl
  have k1 : kd (hp K1 Y 0) = 10 := rfl
  have l1 : al (hp K1 Y 0) = kN K := t1
  have a1 : ∀ j, ai (hp K1 Y 0) j = kS K j := fun j => congrFun s1 j
  have x16 : cls (hp K X 16) = 11 := rfl
  have x141 : cls (hp K1 Y 141) = 12 := rfl
  simp (decide := true) only [pL_law_745, pL_law_746, pL_law_747, pL_law_748, pL_law_749, pL_law_750, pL_law_751, pL_law_754, pL_law_755, pL_law_756, pL_law_757, pL_law_758, pL_law_759, pL_law_760, pL_law_763, pL_law_764, pL_law_767, pL_law_768, pL_law_768t, pL_law_768f, st2_s, st2_n, bnd_some, ↓reduceIte, eq_self, if_true, if_false, not_true_eq_false, not_false_eq_true, nI_1, j2, j3, j4, j5, i1, i2, i3, i4, i5, c1, c2, c3, c4, c5, k0, l0, a0, k1, l1, a1, x16, x141, e1, e2, lg_self]
theorem l_19 {a : Int32} (h6 : i + 6 ≤ kN K) (hN : kN K ≤ 3072) (h : PairV (.int a) 2 mX11_plan [.ref 16, .int (kS K (i + 1)), .int (kS K (i + 2))] 3 mX12_plan [.ref 141, .int (kS K (i + 1)), .int (kS K (i + 2))] K X n z) : NX 769 [] K X n z i := by
  obtain ⟨K1, Y, K2, Z, n1, z1, e1, e2, s1, t1, s2, t2, r⟩ := h
  refine ⟨K2, Z, n1, z1, ?_, s2, t2, r⟩
  have j2 : nI i + 2 = nI (i + 2) := by rw [show (2 : Int32) = nI 2 from rfl, nI_add]
  have j3 : nI i + 3 = nI (i + 3) := by rw [show (3 : Int32) = nI 3 from rfl, nI_add]
  have j4 : nI i + 4 = nI (i + 4) := by rw [show (4 : Int32) = nI 4 from rfl, nI_add]
  have j5 : nI i + 5 = nI (i + 5) := by rw [show (5 : Int32) = nI 5 from rfl, nI_add]
  have i1 : ix (nI (i + 1)) (kN K) = true := ix_nI (by omega) (by omega)
  have i2 : ix (nI (i + 2)) (kN K) = true := ix_nI (by omega) (by omega)
  have i3 : ix (nI (i + 3)) (kN K) = true := ix_nI (by omega) (by omega)
  have i4 : ix (nI (i + 4)) (kN K) = true := ix_nI (by omega) (by omega)
  have i5 : ix (nI (i + 5)) (kN K) = true := ix_nI (by omega) (by omega)
  have c1 : cx (nI (i + 1)) = i + 1 := cx_nI (by omega)
  have c2 : cx (nI (i + 2)) = i + 2 := cx_nI (by omega)
  have c3 : cx (nI (i + 3)) = i + 3 := cx_nI (by omega)
  have c4 : cx (nI (i + 4)) = i + 4 := cx_nI (by omega)
  have c5 : cx (nI (i + 5)) = i + 5 := cx_nI (by omega)
  have k0 : kd (hp K X 0) = 10 := rfl
  have l0 : al (hp K X 0) = kN K := rfl
  have a0 : ∀ j, ai (hp K X 0) j = kS K j := fun _ => rfl
  have k1 : kd (hp K1 Y 0) = 10 := rfl
  have l1 : al (hp K1 Y 0) = kN K := t1
  have a1 : ∀ j, ai (hp K1 Y 0) j = kS K j := fun j => congrFun s1 j
  have x16 : cls (hp K X 16) = 11 := rfl
  have x141 : cls (hp K1 Y 141) = 12 := rfl
  simp (decide := true) only [pL_law_769, pL_law_770, pL_law_771, pL_law_772, pL_law_773, pL_law_774, pL_law_775, pL_law_776, pL_law_777, pL_law_778, pL_law_779, pL_law_780, pL_law_783, pL_law_784, pL_law_785, pL_law_786, pL_law_787, pL_law_788, pL_law_789, pL_law_790, pL_law_791, pL_law_792, pL_law_793, pL_law_794, pL_law_797, pL_law_800, pL_law_801, pL_law_801t, pL_law_801f, st2_s, st2_n, bnd_some, ↓reduceIte, eq_self, if_true, if_false, not_true_eq_false, not_false_eq_true, nI_1, j2, j3, j4, j5, i1, i2, i3, i4, i5, c1, c2, c3, c4, c5, k0, l0, a0, k1, l1, a1, x16, x141, e1, e2, lg_self]
theorem l_20 {a : Int32} (h6 : i + 6 ≤ kN K) (hN : kN K ≤ 3072) (h : PairV (.int a) 8 mX11_ends [.ref 16, .int (kS K (i + 1)), .null] 9 mX12_ends [.ref 141, .int (kS K (i + 1)), .null] K X n z) : NX 802 [] K X n z i := by
  obtain ⟨K1, Y, K2, Z, n1, z1, e1, e2, s1, t1, s2, t2, r⟩ := h
  refine ⟨K2, Z, n1, z1, ?_, s2, t2, r⟩
  have j2 : nI i + 2 = nI (i + 2) := by rw [show (2 : Int32) = nI 2 from rfl, nI_add]
  have j3 : nI i + 3 = nI (i + 3) := by rw [show (3 : Int32) = nI 3 from rfl, nI_add]
  have j4 : nI i + 4 = nI (i + 4) := by rw [show (4 : Int32) = nI 4 from rfl, nI_add]
  have j5 : nI i + 5 = nI (i + 5) := by rw [show (5 : Int32) = nI 5 from rfl, nI_add]
  have i1 : ix (nI (i + 1)) (kN K) = true := ix_nI (by omega) (by omega)
  have i2 : ix (nI (i + 2)) (kN K) = true := ix_nI (by omega) (by omega)
  have i3 : ix (nI (i + 3)) (kN K) = true := ix_nI (by omega) (by omega)
  have i4 : ix (nI (i + 4)) (kN K) = true := ix_nI (by omega) (by omega)
  have i5 : ix (nI (i + 5)) (kN K) = true := ix_nI (by omega) (by omega)
  have c1 : cx (nI (i + 1)) = i + 1 := cx_nI (by omega)
  have c2 : cx (nI (i + 2)) = i + 2 := cx_nI (by omega)
  have c3 : cx (nI (i + 3)) = i + 3 := cx_nI (by omega)
  have c4 : cx (nI (i + 4)) = i + 4 := cx_nI (by omega)
  have c5 : cx (nI (i + 5)) = i + 5 := cx_nI (by omega)
  have k0 : kd (hp K X 0) = 10 := rfl
  have l0 : al (hp K X 0) = kN K := rfl
  have a0 : ∀ j, ai (hp K X 0) j = kS K j := fun _ => rfl
  have k1 : kd (hp K1 Y 0) = 10 := rfl
  have l1 : al (hp K1 Y 0) = kN K := t1
  have a1 : ∀ j, ai (hp K1 Y 0) j = kS K j := fun j => congrFun s1 j
  have x16 : cls (hp K X 16) = 11 := rfl
  have x141 : cls (hp K1 Y 141) = 12 := rfl
  simp (decide := true) only [pL_law_802, pL_law_803, pL_law_804, pL_law_805, pL_law_806, pL_law_807, pL_law_808, pL_law_811, pL_law_812, pL_law_813, pL_law_814, pL_law_815, pL_law_816, pL_law_817, pL_law_820, pL_law_823, pL_law_824, pL_law_824t, pL_law_824f, st2_s, st2_n, bnd_some, ↓reduceIte, eq_self, if_true, if_false, not_true_eq_false, not_false_eq_true, nI_1, j2, j3, j4, j5, i1, i2, i3, i4, i5, c1, c2, c3, c4, c5, k0, l0, a0, k1, l1, a1, x16, x141, e1, e2, lg_self]
theorem l_21 {a : Int32} (h6 : i + 6 ≤ kN K) (hN : kN K ≤ 3072) (h : PairV (.int a) 3 mX11_book [.ref 16, .int (kS K (i + 1)), .int (kS K (i + 2))] 3 mX12_book [.ref 141, .int (kS K (i + 1)), .int (kS K (i + 2))] K X n z) : NX 825 [] K X n z i := by
  obtain ⟨K1, Y, K2, Z, n1, z1, e1, e2, s1, t1, s2, t2, r⟩ := h
  refine ⟨K2, Z, n1, z1, ?_, s2, t2, r⟩
  have j2 : nI i + 2 = nI (i + 2) := by rw [show (2 : Int32) = nI 2 from rfl, nI_add]
  have j3 : nI i + 3 = nI (i + 3) := by rw [show (3 : Int32) = nI 3 from rfl, nI_add]
  have j4 : nI i + 4 = nI (i + 4) := by rw [show (4 : Int32) = nI 4 from rfl, nI_add]
  have j5 : nI i + 5 = nI (i + 5) := by rw [show (5 : Int32) = nI 5 from rfl, nI_add]
  have i1 : ix (nI (i + 1)) (kN K) = true := ix_nI (by omega) (by omega)
  have i2 : ix (nI (i + 2)) (kN K) = true := ix_nI (by omega) (by omega)
  have i3 : ix (nI (i + 3)) (kN K) = true := ix_nI (by omega) (by omega)
  have i4 : ix (nI (i + 4)) (kN K) = true := ix_nI (by omega) (by omega)
  have i5 : ix (nI (i + 5)) (kN K) = true := ix_nI (by omega) (by omega)
  have c1 : cx (nI (i + 1)) = i + 1 := cx_nI (by omega)
  have c2 : cx (nI (i + 2)) = i + 2 := cx_nI (by omega)
  have c3 : cx (nI (i + 3)) = i + 3 := cx_nI (by omega)
  have c4 : cx (nI (i + 4)) = i + 4 := cx_nI (by omega)
  have c5 : cx (nI (i + 5)) = i + 5 := cx_nI (by omega)
  have k0 : kd (hp K X 0) = 10 := rfl
  have l0 : al (hp K X 0) = kN K := rfl
  have a0 : ∀ j, ai (hp K X 0) j = kS K j := fun _ => rfl
  have k1 : kd (hp K1 Y 0) = 10 := rfl
  have l1 : al (hp K1 Y 0) = kN K := t1
  have a1 : ∀ j, ai (hp K1 Y 0) j = kS K j := fun j => congrFun s1 j
  have x16 : cls (hp K X 16) = 11 := rfl
  have x141 : cls (hp K1 Y 141) = 12 := rfl
  simp (decide := true) only [pL_law_825, pL_law_826, pL_law_827, pL_law_828, pL_law_829, pL_law_830, pL_law_831, pL_law_832, pL_law_833, pL_law_834, pL_law_835, pL_law_836, pL_law_839, pL_law_840, pL_law_841, pL_law_842, pL_law_843, pL_law_844, pL_law_845, pL_law_846, pL_law_847, pL_law_848, pL_law_849, pL_law_850, pL_law_853, pL_law_856, pL_law_857, pL_law_857t, pL_law_857f, st2_s, st2_n, bnd_some, ↓reduceIte, eq_self, if_true, if_false, not_true_eq_false, not_false_eq_true, nI_1, j2, j3, j4, j5, i1, i2, i3, i4, i5, c1, c2, c3, c4, c5, k0, l0, a0, k1, l1, a1, x16, x141, e1, e2, lg_self]
theorem l_22 {a : Int32} (h6 : i + 6 ≤ kN K) (hN : kN K ≤ 3072) (h : PairV (.int a) 2 mX11_looked [.ref 16] 1 mX12_looked [.ref 141, .null] K X n z) : NX 858 [] K X n z i := by
  obtain ⟨K1, Y, K2, Z, n1, z1, e1, e2, s1, t1, s2, t2, r⟩ := h
  refine ⟨K2, Z, n1, z1, ?_, s2, t2, r⟩
  have j2 : nI i + 2 = nI (i + 2) := by rw [show (2 : Int32) = nI 2 from rfl, nI_add]
  have j3 : nI i + 3 = nI (i + 3) := by rw [show (3 : Int32) = nI 3 from rfl, nI_add]
  have j4 : nI i + 4 = nI (i + 4) := by rw [show (4 : Int32) = nI 4 from rfl, nI_add]
  have j5 : nI i + 5 = nI (i + 5) := by rw [show (5 : Int32) = nI 5 from rfl, nI_add]
  have i1 : ix (nI (i + 1)) (kN K) = true := ix_nI (by omega) (by omega)
  have i2 : ix (nI (i + 2)) (kN K) = true := ix_nI (by omega) (by omega)
  have i3 : ix (nI (i + 3)) (kN K) = true := ix_nI (by omega) (by omega)
  have i4 : ix (nI (i + 4)) (kN K) = true := ix_nI (by omega) (by omega)
  have i5 : ix (nI (i + 5)) (kN K) = true := ix_nI (by omega) (by omega)
  have c1 : cx (nI (i + 1)) = i + 1 := cx_nI (by omega)
  have c2 : cx (nI (i + 2)) = i + 2 := cx_nI (by omega)
  have c3 : cx (nI (i + 3)) = i + 3 := cx_nI (by omega)
  have c4 : cx (nI (i + 4)) = i + 4 := cx_nI (by omega)
  have c5 : cx (nI (i + 5)) = i + 5 := cx_nI (by omega)
  have k0 : kd (hp K X 0) = 10 := rfl
  have l0 : al (hp K X 0) = kN K := rfl
  have a0 : ∀ j, ai (hp K X 0) j = kS K j := fun _ => rfl
  have k1 : kd (hp K1 Y 0) = 10 := rfl
  have l1 : al (hp K1 Y 0) = kN K := t1
  have a1 : ∀ j, ai (hp K1 Y 0) j = kS K j := fun j => congrFun s1 j
  have x16 : cls (hp K X 16) = 11 := rfl
  have x141 : cls (hp K1 Y 141) = 12 := rfl
  simp (decide := true) only [pL_law_858, pL_law_859, pL_law_862, pL_law_863, pL_law_866, pL_law_869, pL_law_870, pL_law_870t, pL_law_870f, st2_s, st2_n, bnd_some, ↓reduceIte, eq_self, if_true, if_false, not_true_eq_false, not_false_eq_true, nI_1, j2, j3, j4, j5, i1, i2, i3, i4, i5, c1, c2, c3, c4, c5, k0, l0, a0, k1, l1, a1, x16, x141, e1, e2, lg_self]
theorem l_23 {a : Int32} (h6 : i + 6 ≤ kN K) (hN : kN K ≤ 3072) (h : PairV (.int a) 2 mX11_judge [.ref 16, .int (kS K (i + 1)), .int (kS K (i + 2)), .null] 3 mX12_judge [.ref 141, .int (kS K (i + 1)), .int (kS K (i + 2)), .null] K X n z) : NX 871 [] K X n z i := by
  obtain ⟨K1, Y, K2, Z, n1, z1, e1, e2, s1, t1, s2, t2, r⟩ := h
  refine ⟨K2, Z, n1, z1, ?_, s2, t2, r⟩
  have j2 : nI i + 2 = nI (i + 2) := by rw [show (2 : Int32) = nI 2 from rfl, nI_add]
  have j3 : nI i + 3 = nI (i + 3) := by rw [show (3 : Int32) = nI 3 from rfl, nI_add]
  have j4 : nI i + 4 = nI (i + 4) := by rw [show (4 : Int32) = nI 4 from rfl, nI_add]
  have j5 : nI i + 5 = nI (i + 5) := by rw [show (5 : Int32) = nI 5 from rfl, nI_add]
  have i1 : ix (nI (i + 1)) (kN K) = true := ix_nI (by omega) (by omega)
  have i2 : ix (nI (i + 2)) (kN K) = true := ix_nI (by omega) (by omega)
  have i3 : ix (nI (i + 3)) (kN K) = true := ix_nI (by omega) (by omega)
  have i4 : ix (nI (i + 4)) (kN K) = true := ix_nI (by omega) (by omega)
  have i5 : ix (nI (i + 5)) (kN K) = true := ix_nI (by omega) (by omega)
  have c1 : cx (nI (i + 1)) = i + 1 := cx_nI (by omega)
  have c2 : cx (nI (i + 2)) = i + 2 := cx_nI (by omega)
  have c3 : cx (nI (i + 3)) = i + 3 := cx_nI (by omega)
  have c4 : cx (nI (i + 4)) = i + 4 := cx_nI (by omega)
  have c5 : cx (nI (i + 5)) = i + 5 := cx_nI (by omega)
  have k0 : kd (hp K X 0) = 10 := rfl
  have l0 : al (hp K X 0) = kN K := rfl
  have a0 : ∀ j, ai (hp K X 0) j = kS K j := fun _ => rfl
  have k1 : kd (hp K1 Y 0) = 10 := rfl
  have l1 : al (hp K1 Y 0) = kN K := t1
  have a1 : ∀ j, ai (hp K1 Y 0) j = kS K j := fun j => congrFun s1 j
  have x16 : cls (hp K X 16) = 11 := rfl
  have x141 : cls (hp K1 Y 141) = 12 := rfl
  simp (decide := true) only [pL_law_871, pL_law_872, pL_law_873, pL_law_874, pL_law_875, pL_law_876, pL_law_877, pL_law_878, pL_law_879, pL_law_880, pL_law_881, pL_law_882, pL_law_885, pL_law_886, pL_law_887, pL_law_888, pL_law_889, pL_law_890, pL_law_891, pL_law_892, pL_law_893, pL_law_894, pL_law_895, pL_law_896, pL_law_899, pL_law_902, pL_law_903, pL_law_903t, pL_law_903f, st2_s, st2_n, bnd_some, ↓reduceIte, eq_self, if_true, if_false, not_true_eq_false, not_false_eq_true, nI_1, j2, j3, j4, j5, i1, i2, i3, i4, i5, c1, c2, c3, c4, c5, k0, l0, a0, k1, l1, a1, x16, x141, e1, e2, lg_self]
theorem l_24 {a : Int32} (h6 : i + 6 ≤ kN K) (hN : kN K ≤ 3072) (h : PairV (.int a) 3 mX11_image [.ref 16] 1 mX12_image [.ref 141, .null] K X n z) : NX 904 [] K X n z i := by
  obtain ⟨K1, Y, K2, Z, n1, z1, e1, e2, s1, t1, s2, t2, r⟩ := h
  refine ⟨K2, Z, n1, z1, ?_, s2, t2, r⟩
  have j2 : nI i + 2 = nI (i + 2) := by rw [show (2 : Int32) = nI 2 from rfl, nI_add]
  have j3 : nI i + 3 = nI (i + 3) := by rw [show (3 : Int32) = nI 3 from rfl, nI_add]
  have j4 : nI i + 4 = nI (i + 4) := by rw [show (4 : Int32) = nI 4 from rfl, nI_add]
  have j5 : nI i + 5 = nI (i + 5) := by rw [show (5 : Int32) = nI 5 from rfl, nI_add]
  have i1 : ix (nI (i + 1)) (kN K) = true := ix_nI (by omega) (by omega)
  have i2 : ix (nI (i + 2)) (kN K) = true := ix_nI (by omega) (by omega)
  have i3 : ix (nI (i + 3)) (kN K) = true := ix_nI (by omega) (by omega)
  have i4 : ix (nI (i + 4)) (kN K) = true := ix_nI (by omega) (by omega)
  have i5 : ix (nI (i + 5)) (kN K) = true := ix_nI (by omega) (by omega)
  have c1 : cx (nI (i + 1)) = i + 1 := cx_nI (by omega)
  have c2 : cx (nI (i + 2)) = i + 2 := cx_nI (by omega)
  have c3 : cx (nI (i + 3)) = i + 3 := cx_nI (by omega)
  have c4 : cx (nI (i + 4)) = i + 4 := cx_nI (by omega)
  have c5 : cx (nI (i + 5)) = i + 5 := cx_nI (by omega)
  have k0 : kd (hp K X 0) = 10 := rfl
  have l0 : al (hp K X 0) = kN K := rfl
  have a0 : ∀ j, ai (hp K X 0) j = kS K j := fun _ => rfl
  have k1 : kd (hp K1 Y 0) = 10 := rfl
  have l1 : al (hp K1 Y 0) = kN K := t1
  have a1 : ∀ j, ai (hp K1 Y 0) j = kS K j := fun j => congrFun s1 j
  have x16 : cls (hp K X 16) = 11 := rfl
  have x141 : cls (hp K1 Y 141) = 12 := rfl
  simp (decide := true) only [pL_law_904, pL_law_905, pL_law_908, pL_law_909, pL_law_912, pL_law_915, pL_law_916, pL_law_916t, pL_law_916f, st2_s, st2_n, bnd_some, ↓reduceIte, eq_self, if_true, if_false, not_true_eq_false, not_false_eq_true, nI_1, j2, j3, j4, j5, i1, i2, i3, i4, i5, c1, c2, c3, c4, c5, k0, l0, a0, k1, l1, a1, x16, x141, e1, e2, lg_self]
theorem l_25 {a : Int32} (h6 : i + 6 ≤ kN K) (hN : kN K ≤ 3072) (h : PairV (.int a) 3 mX11_undo [.ref 16] 1 mX12_undo [.ref 141, .null] K X n z) : NX 917 [] K X n z i := by
  obtain ⟨K1, Y, K2, Z, n1, z1, e1, e2, s1, t1, s2, t2, r⟩ := h
  refine ⟨K2, Z, n1, z1, ?_, s2, t2, r⟩
  have j2 : nI i + 2 = nI (i + 2) := by rw [show (2 : Int32) = nI 2 from rfl, nI_add]
  have j3 : nI i + 3 = nI (i + 3) := by rw [show (3 : Int32) = nI 3 from rfl, nI_add]
  have j4 : nI i + 4 = nI (i + 4) := by rw [show (4 : Int32) = nI 4 from rfl, nI_add]
  have j5 : nI i + 5 = nI (i + 5) := by rw [show (5 : Int32) = nI 5 from rfl, nI_add]
  have i1 : ix (nI (i + 1)) (kN K) = true := ix_nI (by omega) (by omega)
  have i2 : ix (nI (i + 2)) (kN K) = true := ix_nI (by omega) (by omega)
  have i3 : ix (nI (i + 3)) (kN K) = true := ix_nI (by omega) (by omega)
  have i4 : ix (nI (i + 4)) (kN K) = true := ix_nI (by omega) (by omega)
  have i5 : ix (nI (i + 5)) (kN K) = true := ix_nI (by omega) (by omega)
  have c1 : cx (nI (i + 1)) = i + 1 := cx_nI (by omega)
  have c2 : cx (nI (i + 2)) = i + 2 := cx_nI (by omega)
  have c3 : cx (nI (i + 3)) = i + 3 := cx_nI (by omega)
  have c4 : cx (nI (i + 4)) = i + 4 := cx_nI (by omega)
  have c5 : cx (nI (i + 5)) = i + 5 := cx_nI (by omega)
  have k0 : kd (hp K X 0) = 10 := rfl
  have l0 : al (hp K X 0) = kN K := rfl
  have a0 : ∀ j, ai (hp K X 0) j = kS K j := fun _ => rfl
  have k1 : kd (hp K1 Y 0) = 10 := rfl
  have l1 : al (hp K1 Y 0) = kN K := t1
  have a1 : ∀ j, ai (hp K1 Y 0) j = kS K j := fun j => congrFun s1 j
  have x16 : cls (hp K X 16) = 11 := rfl
  have x141 : cls (hp K1 Y 141) = 12 := rfl
  simp (decide := true) only [pL_law_917, pL_law_918, pL_law_921, pL_law_922, pL_law_925, pL_law_928, pL_law_929, pL_law_929t, pL_law_929f, st2_s, st2_n, bnd_some, ↓reduceIte, eq_self, if_true, if_false, not_true_eq_false, not_false_eq_true, nI_1, j2, j3, j4, j5, i1, i2, i3, i4, i5, c1, c2, c3, c4, c5, k0, l0, a0, k1, l1, a1, x16, x141, e1, e2, lg_self]
theorem l_26 {a : Int32} (h6 : i + 6 ≤ kN K) (hN : kN K ≤ 3072) (h : PairV (.int a) 9 mX11_act [.ref 16, .int (kS K (i + 1)), .int (kS K (i + 2)), .int (kS K (i + 3)), .null] 9 mX12_act [.ref 141, .int (kS K (i + 1)), .int (kS K (i + 2)), .int (kS K (i + 3))] K X n z) : NX 930 [] K X n z i := by
  obtain ⟨K1, Y, K2, Z, n1, z1, e1, e2, s1, t1, s2, t2, r⟩ := h
  refine ⟨K2, Z, n1, z1, ?_, s2, t2, r⟩
  have j2 : nI i + 2 = nI (i + 2) := by rw [show (2 : Int32) = nI 2 from rfl, nI_add]
  have j3 : nI i + 3 = nI (i + 3) := by rw [show (3 : Int32) = nI 3 from rfl, nI_add]
  have j4 : nI i + 4 = nI (i + 4) := by rw [show (4 : Int32) = nI 4 from rfl, nI_add]
  have j5 : nI i + 5 = nI (i + 5) := by rw [show (5 : Int32) = nI 5 from rfl, nI_add]
  have i1 : ix (nI (i + 1)) (kN K) = true := ix_nI (by omega) (by omega)
  have i2 : ix (nI (i + 2)) (kN K) = true := ix_nI (by omega) (by omega)
  have i3 : ix (nI (i + 3)) (kN K) = true := ix_nI (by omega) (by omega)
  have i4 : ix (nI (i + 4)) (kN K) = true := ix_nI (by omega) (by omega)
  have i5 : ix (nI (i + 5)) (kN K) = true := ix_nI (by omega) (by omega)
  have c1 : cx (nI (i + 1)) = i + 1 := cx_nI (by omega)
  have c2 : cx (nI (i + 2)) = i + 2 := cx_nI (by omega)
  have c3 : cx (nI (i + 3)) = i + 3 := cx_nI (by omega)
  have c4 : cx (nI (i + 4)) = i + 4 := cx_nI (by omega)
  have c5 : cx (nI (i + 5)) = i + 5 := cx_nI (by omega)
  have k0 : kd (hp K X 0) = 10 := rfl
  have l0 : al (hp K X 0) = kN K := rfl
  have a0 : ∀ j, ai (hp K X 0) j = kS K j := fun _ => rfl
  have k1 : kd (hp K1 Y 0) = 10 := rfl
  have l1 : al (hp K1 Y 0) = kN K := t1
  have a1 : ∀ j, ai (hp K1 Y 0) j = kS K j := fun j => congrFun s1 j
  have x16 : cls (hp K X 16) = 11 := rfl
  have x141 : cls (hp K1 Y 141) = 12 := rfl
  simp (decide := true) only [pL_law_930, pL_law_931, pL_law_932, pL_law_933, pL_law_934, pL_law_935, pL_law_936, pL_law_937, pL_law_938, pL_law_939, pL_law_940, pL_law_941, pL_law_942, pL_law_943, pL_law_944, pL_law_945, pL_law_946, pL_law_949, pL_law_950, pL_law_951, pL_law_952, pL_law_953, pL_law_954, pL_law_955, pL_law_956, pL_law_957, pL_law_958, pL_law_959, pL_law_960, pL_law_961, pL_law_962, pL_law_963, pL_law_964, pL_law_965, pL_law_968, pL_law_971, pL_law_972, pL_law_972t, pL_law_972f, st2_s, st2_n, bnd_some, ↓reduceIte, eq_self, if_true, if_false, not_true_eq_false, not_false_eq_true, nI_1, j2, j3, j4, j5, i1, i2, i3, i4, i5, c1, c2, c3, c4, c5, k0, l0, a0, k1, l1, a1, x16, x141, e1, e2, lg_self]
theorem l_27 {a : Int32} (h6 : i + 6 ≤ kN K) (hN : kN K ≤ 3072) (h : PairV (.int a) 1 mX11_trace [.ref 16, .int (kS K (i + 1))] 2 mX12_trace [.ref 141, .int (kS K (i + 1))] K X n z) : NX 973 [] K X n z i := by
  obtain ⟨K1, Y, K2, Z, n1, z1, e1, e2, s1, t1, s2, t2, r⟩ := h
  refine ⟨K2, Z, n1, z1, ?_, s2, t2, r⟩
  have j2 : nI i + 2 = nI (i + 2) := by rw [show (2 : Int32) = nI 2 from rfl, nI_add]
  have j3 : nI i + 3 = nI (i + 3) := by rw [show (3 : Int32) = nI 3 from rfl, nI_add]
  have j4 : nI i + 4 = nI (i + 4) := by rw [show (4 : Int32) = nI 4 from rfl, nI_add]
  have j5 : nI i + 5 = nI (i + 5) := by rw [show (5 : Int32) = nI 5 from rfl, nI_add]
  have i1 : ix (nI (i + 1)) (kN K) = true := ix_nI (by omega) (by omega)
  have i2 : ix (nI (i + 2)) (kN K) = true := ix_nI (by omega) (by omega)
  have i3 : ix (nI (i + 3)) (kN K) = true := ix_nI (by omega) (by omega)
  have i4 : ix (nI (i + 4)) (kN K) = true := ix_nI (by omega) (by omega)
  have i5 : ix (nI (i + 5)) (kN K) = true := ix_nI (by omega) (by omega)
  have c1 : cx (nI (i + 1)) = i + 1 := cx_nI (by omega)
  have c2 : cx (nI (i + 2)) = i + 2 := cx_nI (by omega)
  have c3 : cx (nI (i + 3)) = i + 3 := cx_nI (by omega)
  have c4 : cx (nI (i + 4)) = i + 4 := cx_nI (by omega)
  have c5 : cx (nI (i + 5)) = i + 5 := cx_nI (by omega)
  have k0 : kd (hp K X 0) = 10 := rfl
  have l0 : al (hp K X 0) = kN K := rfl
  have a0 : ∀ j, ai (hp K X 0) j = kS K j := fun _ => rfl
  have k1 : kd (hp K1 Y 0) = 10 := rfl
  have l1 : al (hp K1 Y 0) = kN K := t1
  have a1 : ∀ j, ai (hp K1 Y 0) j = kS K j := fun j => congrFun s1 j
  have x16 : cls (hp K X 16) = 11 := rfl
  have x141 : cls (hp K1 Y 141) = 12 := rfl
  simp (decide := true) only [pL_law_973, pL_law_974, pL_law_975, pL_law_976, pL_law_977, pL_law_978, pL_law_979, pL_law_982, pL_law_983, pL_law_984, pL_law_985, pL_law_986, pL_law_987, pL_law_988, pL_law_991, pL_law_994, pL_law_995, pL_law_995t, pL_law_995f, st2_s, st2_n, bnd_some, ↓reduceIte, eq_self, if_true, if_false, not_true_eq_false, not_false_eq_true, nI_1, j2, j3, j4, j5, i1, i2, i3, i4, i5, c1, c2, c3, c4, c5, k0, l0, a0, k1, l1, a1, x16, x141, e1, e2, lg_self]
theorem l_28 {a : Int32} (h6 : i + 6 ≤ kN K) (hN : kN K ≤ 3072) (h : PairV (.int a) 2 mX11_taken [.ref 16, .int (kS K (i + 1)), .int (kS K (i + 2)), .null, .null, .null] 3 mX12_taken [.ref 141, .int (kS K (i + 1)), .int (kS K (i + 2)), .null] K X n z) : NX 996 [] K X n z i := by
  obtain ⟨K1, Y, K2, Z, n1, z1, e1, e2, s1, t1, s2, t2, r⟩ := h
  refine ⟨K2, Z, n1, z1, ?_, s2, t2, r⟩
  have j2 : nI i + 2 = nI (i + 2) := by rw [show (2 : Int32) = nI 2 from rfl, nI_add]
  have j3 : nI i + 3 = nI (i + 3) := by rw [show (3 : Int32) = nI 3 from rfl, nI_add]
  have j4 : nI i + 4 = nI (i + 4) := by rw [show (4 : Int32) = nI 4 from rfl, nI_add]
  have j5 : nI i + 5 = nI (i + 5) := by rw [show (5 : Int32) = nI 5 from rfl, nI_add]
  have i1 : ix (nI (i + 1)) (kN K) = true := ix_nI (by omega) (by omega)
  have i2 : ix (nI (i + 2)) (kN K) = true := ix_nI (by omega) (by omega)
  have i3 : ix (nI (i + 3)) (kN K) = true := ix_nI (by omega) (by omega)
  have i4 : ix (nI (i + 4)) (kN K) = true := ix_nI (by omega) (by omega)
  have i5 : ix (nI (i + 5)) (kN K) = true := ix_nI (by omega) (by omega)
  have c1 : cx (nI (i + 1)) = i + 1 := cx_nI (by omega)
  have c2 : cx (nI (i + 2)) = i + 2 := cx_nI (by omega)
  have c3 : cx (nI (i + 3)) = i + 3 := cx_nI (by omega)
  have c4 : cx (nI (i + 4)) = i + 4 := cx_nI (by omega)
  have c5 : cx (nI (i + 5)) = i + 5 := cx_nI (by omega)
  have k0 : kd (hp K X 0) = 10 := rfl
  have l0 : al (hp K X 0) = kN K := rfl
  have a0 : ∀ j, ai (hp K X 0) j = kS K j := fun _ => rfl
  have k1 : kd (hp K1 Y 0) = 10 := rfl
  have l1 : al (hp K1 Y 0) = kN K := t1
  have a1 : ∀ j, ai (hp K1 Y 0) j = kS K j := fun j => congrFun s1 j
  have x16 : cls (hp K X 16) = 11 := rfl
  have x141 : cls (hp K1 Y 141) = 12 := rfl
  simp (decide := true) only [pL_law_996, pL_law_997, pL_law_998, pL_law_999, pL_law_1000, pL_law_1001, pL_law_1002, pL_law_1003, pL_law_1004, pL_law_1005, pL_law_1006, pL_law_1007, pL_law_1010, pL_law_1011, pL_law_1012, pL_law_1013, pL_law_1014, pL_law_1015, pL_law_1016, pL_law_1017, pL_law_1018, pL_law_1019, pL_law_1020, pL_law_1021, pL_law_1024, pL_law_1027, pL_law_1028, pL_law_1028t, pL_law_1028f, st2_s, st2_n, bnd_some, ↓reduceIte, eq_self, if_true, if_false, not_true_eq_false, not_false_eq_true, nI_1, j2, j3, j4, j5, i1, i2, i3, i4, i5, c1, c2, c3, c4, c5, k0, l0, a0, k1, l1, a1, x16, x141, e1, e2, lg_self]
theorem l_29 {a : Int32} (h6 : i + 6 ≤ kN K) (hN : kN K ≤ 3072) (h : PairV (.int a) 1 mX11_count [.ref 16, .int (kS K (i + 1))] 1 mX12_count [.ref 141, .int (kS K (i + 1))] K X n z) : NX 1029 [] K X n z i := by
  obtain ⟨K1, Y, K2, Z, n1, z1, e1, e2, s1, t1, s2, t2, r⟩ := h
  refine ⟨K2, Z, n1, z1, ?_, s2, t2, r⟩
  have j2 : nI i + 2 = nI (i + 2) := by rw [show (2 : Int32) = nI 2 from rfl, nI_add]
  have j3 : nI i + 3 = nI (i + 3) := by rw [show (3 : Int32) = nI 3 from rfl, nI_add]
  have j4 : nI i + 4 = nI (i + 4) := by rw [show (4 : Int32) = nI 4 from rfl, nI_add]
  have j5 : nI i + 5 = nI (i + 5) := by rw [show (5 : Int32) = nI 5 from rfl, nI_add]
  have i1 : ix (nI (i + 1)) (kN K) = true := ix_nI (by omega) (by omega)
  have i2 : ix (nI (i + 2)) (kN K) = true := ix_nI (by omega) (by omega)
  have i3 : ix (nI (i + 3)) (kN K) = true := ix_nI (by omega) (by omega)
  have i4 : ix (nI (i + 4)) (kN K) = true := ix_nI (by omega) (by omega)
  have i5 : ix (nI (i + 5)) (kN K) = true := ix_nI (by omega) (by omega)
  have c1 : cx (nI (i + 1)) = i + 1 := cx_nI (by omega)
  have c2 : cx (nI (i + 2)) = i + 2 := cx_nI (by omega)
  have c3 : cx (nI (i + 3)) = i + 3 := cx_nI (by omega)
  have c4 : cx (nI (i + 4)) = i + 4 := cx_nI (by omega)
  have c5 : cx (nI (i + 5)) = i + 5 := cx_nI (by omega)
  have k0 : kd (hp K X 0) = 10 := rfl
  have l0 : al (hp K X 0) = kN K := rfl
  have a0 : ∀ j, ai (hp K X 0) j = kS K j := fun _ => rfl
  have k1 : kd (hp K1 Y 0) = 10 := rfl
  have l1 : al (hp K1 Y 0) = kN K := t1
  have a1 : ∀ j, ai (hp K1 Y 0) j = kS K j := fun j => congrFun s1 j
  have x16 : cls (hp K X 16) = 11 := rfl
  have x141 : cls (hp K1 Y 141) = 12 := rfl
  simp (decide := true) only [pL_law_1029, pL_law_1030, pL_law_1031, pL_law_1032, pL_law_1033, pL_law_1034, pL_law_1035, pL_law_1038, pL_law_1039, pL_law_1040, pL_law_1041, pL_law_1042, pL_law_1043, pL_law_1044, pL_law_1047, pL_law_1050, pL_law_1051, pL_law_1051t, pL_law_1051f, st2_s, st2_n, bnd_some, ↓reduceIte, eq_self, if_true, if_false, not_true_eq_false, not_false_eq_true, nI_1, j2, j3, j4, j5, i1, i2, i3, i4, i5, c1, c2, c3, c4, c5, k0, l0, a0, k1, l1, a1, x16, x141, e1, e2, lg_self]
theorem l_30 {a : Int32} (h6 : i + 6 ≤ kN K) (hN : kN K ≤ 3072) (h : PairV (.int a) 2 mX11_tape [.ref 16, .int (kS K (i + 1)), .int (kS K (i + 2)), .int (kS K (i + 3))] 3 mX12_tape [.ref 141, .int (kS K (i + 1)), .int (kS K (i + 2)), .int (kS K (i + 3)), .null] K X n z) : NX 1052 [] K X n z i := by
  obtain ⟨K1, Y, K2, Z, n1, z1, e1, e2, s1, t1, s2, t2, r⟩ := h
  refine ⟨K2, Z, n1, z1, ?_, s2, t2, r⟩
  have j2 : nI i + 2 = nI (i + 2) := by rw [show (2 : Int32) = nI 2 from rfl, nI_add]
  have j3 : nI i + 3 = nI (i + 3) := by rw [show (3 : Int32) = nI 3 from rfl, nI_add]
  have j4 : nI i + 4 = nI (i + 4) := by rw [show (4 : Int32) = nI 4 from rfl, nI_add]
  have j5 : nI i + 5 = nI (i + 5) := by rw [show (5 : Int32) = nI 5 from rfl, nI_add]
  have i1 : ix (nI (i + 1)) (kN K) = true := ix_nI (by omega) (by omega)
  have i2 : ix (nI (i + 2)) (kN K) = true := ix_nI (by omega) (by omega)
  have i3 : ix (nI (i + 3)) (kN K) = true := ix_nI (by omega) (by omega)
  have i4 : ix (nI (i + 4)) (kN K) = true := ix_nI (by omega) (by omega)
  have i5 : ix (nI (i + 5)) (kN K) = true := ix_nI (by omega) (by omega)
  have c1 : cx (nI (i + 1)) = i + 1 := cx_nI (by omega)
  have c2 : cx (nI (i + 2)) = i + 2 := cx_nI (by omega)
  have c3 : cx (nI (i + 3)) = i + 3 := cx_nI (by omega)
  have c4 : cx (nI (i + 4)) = i + 4 := cx_nI (by omega)
  have c5 : cx (nI (i + 5)) = i + 5 := cx_nI (by omega)
  have k0 : kd (hp K X 0) = 10 := rfl
  have l0 : al (hp K X 0) = kN K := rfl
  have a0 : ∀ j, ai (hp K X 0) j = kS K j := fun _ => rfl
  have k1 : kd (hp K1 Y 0) = 10 := rfl
  have l1 : al (hp K1 Y 0) = kN K := t1
  have a1 : ∀ j, ai (hp K1 Y 0) j = kS K j := fun j => congrFun s1 j
  have x16 : cls (hp K X 16) = 11 := rfl
  have x141 : cls (hp K1 Y 141) = 12 := rfl
  simp (decide := true) only [pL_law_1052, pL_law_1053, pL_law_1054, pL_law_1055, pL_law_1056, pL_law_1057, pL_law_1058, pL_law_1059, pL_law_1060, pL_law_1061, pL_law_1062, pL_law_1063, pL_law_1064, pL_law_1065, pL_law_1066, pL_law_1067, pL_law_1068, pL_law_1071, pL_law_1072, pL_law_1073, pL_law_1074, pL_law_1075, pL_law_1076, pL_law_1077, pL_law_1078, pL_law_1079, pL_law_1080, pL_law_1081, pL_law_1082, pL_law_1083, pL_law_1084, pL_law_1085, pL_law_1086, pL_law_1087, pL_law_1090, pL_law_1093, pL_law_1094, pL_law_1094t, pL_law_1094f, st2_s, st2_n, bnd_some, ↓reduceIte, eq_self, if_true, if_false, not_true_eq_false, not_false_eq_true, nI_1, j2, j3, j4, j5, i1, i2, i3, i4, i5, c1, c2, c3, c4, c5, k0, l0, a0, k1, l1, a1, x16, x141, e1, e2, lg_self]
theorem l_31 {a : Int32} (h6 : i + 6 ≤ kN K) (hN : kN K ≤ 3072) (h : PairV (.int a) 2 mX11_item [.ref 16, .int (kS K (i + 1)), .int (kS K (i + 2)), .long (((kS K (i + 3)).toInt64 <<< ((32 : Int32).toInt64 &&& 63)) ||| ((kS K (i + 4)).toInt64 &&& 4294967295)), .null] 3 mX12_item [.ref 141, .int (kS K (i + 1)), .int (kS K (i + 2)), .long (((kS K (i + 3)).toInt64 <<< ((32 : Int32).toInt64 &&& 63)) ||| ((kS K (i + 4)).toInt64 &&& 4294967295)), .null] K X n z) : NX 1095 [] K X n z i := by
  obtain ⟨K1, Y, K2, Z, n1, z1, e1, e2, s1, t1, s2, t2, r⟩ := h
  refine ⟨K2, Z, n1, z1, ?_, s2, t2, r⟩
  have j2 : nI i + 2 = nI (i + 2) := by rw [show (2 : Int32) = nI 2 from rfl, nI_add]
  have j3 : nI i + 3 = nI (i + 3) := by rw [show (3 : Int32) = nI 3 from rfl, nI_add]
  have j4 : nI i + 4 = nI (i + 4) := by rw [show (4 : Int32) = nI 4 from rfl, nI_add]
  have j5 : nI i + 5 = nI (i + 5) := by rw [show (5 : Int32) = nI 5 from rfl, nI_add]
  have i1 : ix (nI (i + 1)) (kN K) = true := ix_nI (by omega) (by omega)
  have i2 : ix (nI (i + 2)) (kN K) = true := ix_nI (by omega) (by omega)
  have i3 : ix (nI (i + 3)) (kN K) = true := ix_nI (by omega) (by omega)
  have i4 : ix (nI (i + 4)) (kN K) = true := ix_nI (by omega) (by omega)
  have i5 : ix (nI (i + 5)) (kN K) = true := ix_nI (by omega) (by omega)
  have c1 : cx (nI (i + 1)) = i + 1 := cx_nI (by omega)
  have c2 : cx (nI (i + 2)) = i + 2 := cx_nI (by omega)
  have c3 : cx (nI (i + 3)) = i + 3 := cx_nI (by omega)
  have c4 : cx (nI (i + 4)) = i + 4 := cx_nI (by omega)
  have c5 : cx (nI (i + 5)) = i + 5 := cx_nI (by omega)
  have k0 : kd (hp K X 0) = 10 := rfl
  have l0 : al (hp K X 0) = kN K := rfl
  have a0 : ∀ j, ai (hp K X 0) j = kS K j := fun _ => rfl
  have k1 : kd (hp K1 Y 0) = 10 := rfl
  have l1 : al (hp K1 Y 0) = kN K := t1
  have a1 : ∀ j, ai (hp K1 Y 0) j = kS K j := fun j => congrFun s1 j
  have x16 : cls (hp K X 16) = 11 := rfl
  have x141 : cls (hp K1 Y 141) = 12 := rfl
  simp (decide := true) only [pL_law_1095, pL_law_1096, pL_law_1097, pL_law_1098, pL_law_1099, pL_law_1100, pL_law_1101, pL_law_1102, pL_law_1103, pL_law_1104, pL_law_1105, pL_law_1106, pL_law_1107, pL_law_1108, pL_law_1109, pL_law_1110, pL_law_1111, pL_law_1112, pL_law_1114, pL_law_1115, pL_law_1116, pL_law_1117, pL_law_1118, pL_law_1119, pL_law_1120, pL_law_1121, pL_law_1124, pL_law_1125, pL_law_1126, pL_law_1129, pL_law_1130, pL_law_1131, pL_law_1132, pL_law_1133, pL_law_1134, pL_law_1135, pL_law_1136, pL_law_1137, pL_law_1138, pL_law_1139, pL_law_1140, pL_law_1141, pL_law_1142, pL_law_1143, pL_law_1144, pL_law_1145, pL_law_1146, pL_law_1148, pL_law_1149, pL_law_1150, pL_law_1151, pL_law_1152, pL_law_1153, pL_law_1154, pL_law_1155, pL_law_1158, pL_law_1159, pL_law_1160, pL_law_1163, pL_law_1166, pL_law_1167, pL_law_1167t, pL_law_1167f, st2_s, st2_n, bnd_some, ↓reduceIte, eq_self, if_true, if_false, not_true_eq_false, not_false_eq_true, nI_1, j2, j3, j4, j5, i1, i2, i3, i4, i5, c1, c2, c3, c4, c5, k0, l0, a0, k1, l1, a1, x16, x141, e1, e2, lg_self]
theorem l_32 {a : Int64} (h6 : i + 6 ≤ kN K) (hN : kN K ≤ 3072) (h : PairV (.long a) 2 mX11_read [.ref 16, .int (kS K (i + 1)), .int (kS K (i + 2))] 3 mX12_read [.ref 141, .int (kS K (i + 1)), .int (kS K (i + 2))] K X n z) : NX 1168 [] K X n z i := by
  obtain ⟨K1, Y, K2, Z, n1, z1, e1, e2, s1, t1, s2, t2, r⟩ := h
  refine ⟨K2, Z, n1, z1, ?_, s2, t2, r⟩
  have j2 : nI i + 2 = nI (i + 2) := by rw [show (2 : Int32) = nI 2 from rfl, nI_add]
  have j3 : nI i + 3 = nI (i + 3) := by rw [show (3 : Int32) = nI 3 from rfl, nI_add]
  have j4 : nI i + 4 = nI (i + 4) := by rw [show (4 : Int32) = nI 4 from rfl, nI_add]
  have j5 : nI i + 5 = nI (i + 5) := by rw [show (5 : Int32) = nI 5 from rfl, nI_add]
  have i1 : ix (nI (i + 1)) (kN K) = true := ix_nI (by omega) (by omega)
  have i2 : ix (nI (i + 2)) (kN K) = true := ix_nI (by omega) (by omega)
  have i3 : ix (nI (i + 3)) (kN K) = true := ix_nI (by omega) (by omega)
  have i4 : ix (nI (i + 4)) (kN K) = true := ix_nI (by omega) (by omega)
  have i5 : ix (nI (i + 5)) (kN K) = true := ix_nI (by omega) (by omega)
  have c1 : cx (nI (i + 1)) = i + 1 := cx_nI (by omega)
  have c2 : cx (nI (i + 2)) = i + 2 := cx_nI (by omega)
  have c3 : cx (nI (i + 3)) = i + 3 := cx_nI (by omega)
  have c4 : cx (nI (i + 4)) = i + 4 := cx_nI (by omega)
  have c5 : cx (nI (i + 5)) = i + 5 := cx_nI (by omega)
  have k0 : kd (hp K X 0) = 10 := rfl
  have l0 : al (hp K X 0) = kN K := rfl
  have a0 : ∀ j, ai (hp K X 0) j = kS K j := fun _ => rfl
  have k1 : kd (hp K1 Y 0) = 10 := rfl
  have l1 : al (hp K1 Y 0) = kN K := t1
  have a1 : ∀ j, ai (hp K1 Y 0) j = kS K j := fun j => congrFun s1 j
  have x16 : cls (hp K X 16) = 11 := rfl
  have x141 : cls (hp K1 Y 141) = 12 := rfl
  simp (decide := true) only [pL_law_1168, pL_law_1169, pL_law_1170, pL_law_1171, pL_law_1172, pL_law_1173, pL_law_1174, pL_law_1175, pL_law_1176, pL_law_1177, pL_law_1178, pL_law_1179, pL_law_1182, pL_law_1183, pL_law_1184, pL_law_1185, pL_law_1186, pL_law_1187, pL_law_1188, pL_law_1189, pL_law_1190, pL_law_1191, pL_law_1192, pL_law_1193, pL_law_1196, pL_law_1197, pL_law_1200, pL_law_1201, pL_law_1201t, pL_law_1201f, st2_s, st2_n, bnd_some, ↓reduceIte, eq_self, if_true, if_false, not_true_eq_false, not_false_eq_true, nI_1, j2, j3, j4, j5, i1, i2, i3, i4, i5, c1, c2, c3, c4, c5, k0, l0, a0, k1, l1, a1, x16, x141, e1, e2, lg_self]
theorem l_33 {a : Int32} (h6 : i + 6 ≤ kN K) (hN : kN K ≤ 3072) (h : PairV (.int a) 2 mX11_shift [.ref 16, .int (kS K (i + 1)), .int (kS K (i + 2)), .int (kS K (i + 3)), .int (kS K (i + 4)), .int (kS K (i + 5))] 3 mX12_shift [.ref 141, .int (kS K (i + 1)), .int (kS K (i + 2)), .int (kS K (i + 3)), .int (kS K (i + 4)), .int (kS K (i + 5)), .null] K X n z) : NX 1202 [] K X n z i := by
  obtain ⟨K1, Y, K2, Z, n1, z1, e1, e2, s1, t1, s2, t2, r⟩ := h
  refine ⟨K2, Z, n1, z1, ?_, s2, t2, r⟩
  have j2 : nI i + 2 = nI (i + 2) := by rw [show (2 : Int32) = nI 2 from rfl, nI_add]
  have j3 : nI i + 3 = nI (i + 3) := by rw [show (3 : Int32) = nI 3 from rfl, nI_add]
  have j4 : nI i + 4 = nI (i + 4) := by rw [show (4 : Int32) = nI 4 from rfl, nI_add]
  have j5 : nI i + 5 = nI (i + 5) := by rw [show (5 : Int32) = nI 5 from rfl, nI_add]
  have i1 : ix (nI (i + 1)) (kN K) = true := ix_nI (by omega) (by omega)
  have i2 : ix (nI (i + 2)) (kN K) = true := ix_nI (by omega) (by omega)
  have i3 : ix (nI (i + 3)) (kN K) = true := ix_nI (by omega) (by omega)
  have i4 : ix (nI (i + 4)) (kN K) = true := ix_nI (by omega) (by omega)
  have i5 : ix (nI (i + 5)) (kN K) = true := ix_nI (by omega) (by omega)
  have c1 : cx (nI (i + 1)) = i + 1 := cx_nI (by omega)
  have c2 : cx (nI (i + 2)) = i + 2 := cx_nI (by omega)
  have c3 : cx (nI (i + 3)) = i + 3 := cx_nI (by omega)
  have c4 : cx (nI (i + 4)) = i + 4 := cx_nI (by omega)
  have c5 : cx (nI (i + 5)) = i + 5 := cx_nI (by omega)
  have k0 : kd (hp K X 0) = 10 := rfl
  have l0 : al (hp K X 0) = kN K := rfl
  have a0 : ∀ j, ai (hp K X 0) j = kS K j := fun _ => rfl
  have k1 : kd (hp K1 Y 0) = 10 := rfl
  have l1 : al (hp K1 Y 0) = kN K := t1
  have a1 : ∀ j, ai (hp K1 Y 0) j = kS K j := fun j => congrFun s1 j
  have x16 : cls (hp K X 16) = 11 := rfl
  have x141 : cls (hp K1 Y 141) = 12 := rfl
  simp (decide := true) only [pL_law_1202, pL_law_1203, pL_law_1204, pL_law_1205, pL_law_1206, pL_law_1207, pL_law_1208, pL_law_1209, pL_law_1210, pL_law_1211, pL_law_1212, pL_law_1213, pL_law_1214, pL_law_1215, pL_law_1216, pL_law_1217, pL_law_1218, pL_law_1219, pL_law_1220, pL_law_1221, pL_law_1222, pL_law_1223, pL_law_1224, pL_law_1225, pL_law_1226, pL_law_1227, pL_law_1228, pL_law_1231, pL_law_1232, pL_law_1233, pL_law_1234, pL_law_1235, pL_law_1236, pL_law_1237, pL_law_1238, pL_law_1239, pL_law_1240, pL_law_1241, pL_law_1242, pL_law_1243, pL_law_1244, pL_law_1245, pL_law_1246, pL_law_1247, pL_law_1248, pL_law_1249, pL_law_1250, pL_law_1251, pL_law_1252, pL_law_1253, pL_law_1254, pL_law_1255, pL_law_1256, pL_law_1257, pL_law_1260, pL_law_1263, pL_law_1264, pL_law_1264t, pL_law_1264f, st2_s, st2_n, bnd_some, ↓reduceIte, eq_self, if_true, if_false, not_true_eq_false, not_false_eq_true, nI_1, j2, j3, j4, j5, i1, i2, i3, i4, i5, c1, c2, c3, c4, c5, k0, l0, a0, k1, l1, a1, x16, x141, e1, e2, lg_self]
theorem law_case {S : ST} (c : Int32) (hn : n = 186 + 6 * kM K) (hi : Inv K X S) (h6 : i + 6 ≤ kN K) (hN : kN K ≤ 3072) : NX 33 [.int c] K X n z i := by
  unfold NX
  rw [pL_law_33]
  by_cases q0 : c = 0
  · rw [if_pos q0]
    exact l_0 h6 hN (p_fruit _ _ hn hi)
  rw [if_neg q0]
  by_cases q1 : c = 1
  · rw [if_pos q1]
    exact l_1 h6 hN (p_of _ _ hn hi)
  rw [if_neg q1]
  by_cases q2 : c = 2
  · rw [if_pos q2]
    by_cases hc : kS K (i + 2) = 0
    · exact l_2f h6 hN hc (p_cut _ false hn hi)
    · exact l_2t h6 hN hc (p_cut _ true hn hi)
  rw [if_neg q2]
  by_cases q3 : c = 3
  · rw [if_pos q3]
    exact l_3 h6 hN (p_set _ _ _ hn hi)
  rw [if_neg q3]
  by_cases q4 : c = 4
  · rw [if_pos q4]
    exact l_4 h6 hN (p_row _ _ _ hn hi)
  rw [if_neg q4]
  by_cases q5 : c = 5
  · rw [if_pos q5]
    exact l_5 h6 hN (p_feed _ hn hi)
  rw [if_neg q5]
  by_cases q6 : c = 6
  · rw [if_pos q6]
    obtain ⟨a, h⟩ := p_wall (z := z) hn hi
    exact l_6 h6 hN h
  rw [if_neg q6]
  by_cases q7 : c = 7
  · rw [if_pos q7]
    exact l_7 h6 hN (p_told _ hn hi)
  rw [if_neg q7]
  by_cases q8 : c = 8
  · rw [if_pos q8]
    exact l_8 h6 hN (p_pass _ hn hi)
  rw [if_neg q8]
  by_cases q9 : c = 9
  · rw [if_pos q9]
    exact l_9 h6 hN (p_on _ _ hn hi)
  rw [if_neg q9]
  by_cases q10 : c = 10
  · rw [if_pos q10]
    exact l_10 h6 hN (p_clear _ _ hn hi)
  rw [if_neg q10]
  by_cases q11 : c = 11
  · rw [if_pos q11]
    exact l_11 h6 hN (p_help _ _ hn hi)
  rw [if_neg q11]
  by_cases q12 : c = 12
  · rw [if_pos q12]
    exact l_12 h6 hN (p_want _ hn hi)
  rw [if_neg q12]
  by_cases q13 : c = 13
  · rw [if_pos q13]
    exact l_13 h6 hN (p_sent _ hn hi)
  rw [if_neg q13]
  by_cases q14 : c = 14
  · rw [if_pos q14]
    exact l_14 h6 hN (p_see _ _ hn hi)
  rw [if_neg q14]
  by_cases q15 : c = 15
  · rw [if_pos q15]
    exact l_15 h6 hN (p_can _ _ hn hi)
  rw [if_neg q15]
  by_cases q16 : c = 16
  · rw [if_pos q16]
    exact l_16 h6 hN (p_which _ hn hi)
  rw [if_neg q16]
  by_cases q17 : c = 17
  · rw [if_pos q17]
    exact l_17 h6 hN (p_odds _ _ _ hn hi)
  rw [if_neg q17]
  by_cases q18 : c = 18
  · rw [if_pos q18]
    exact l_18 h6 hN (p_mean _ hn hi)
  rw [if_neg q18]
  by_cases q19 : c = 19
  · rw [if_pos q19]
    exact l_19 h6 hN (p_plan _ _ hn hi)
  rw [if_neg q19]
  by_cases q20 : c = 20
  · rw [if_pos q20]
    exact l_20 h6 hN (p_ends _ hn hi)
  rw [if_neg q20]
  by_cases q21 : c = 21
  · rw [if_pos q21]
    exact l_21 h6 hN (p_book _ _ hn hi)
  rw [if_neg q21]
  by_cases q22 : c = 22
  · rw [if_pos q22]
    exact l_22 h6 hN (p_looked hn hi)
  rw [if_neg q22]
  by_cases q23 : c = 23
  · rw [if_pos q23]
    exact l_23 h6 hN (p_judge _ _ hn hi)
  rw [if_neg q23]
  by_cases q24 : c = 24
  · rw [if_pos q24]
    exact l_24 h6 hN (p_image hn hi)
  rw [if_neg q24]
  by_cases q25 : c = 25
  · rw [if_pos q25]
    exact l_25 h6 hN (p_undo hn hi)
  rw [if_neg q25]
  by_cases q26 : c = 26
  · rw [if_pos q26]
    exact l_26 h6 hN (p_act _ _ _ hn hi)
  rw [if_neg q26]
  by_cases q27 : c = 27
  · rw [if_pos q27]
    exact l_27 h6 hN (p_trace _ hn hi)
  rw [if_neg q27]
  by_cases q28 : c = 28
  · rw [if_pos q28]
    exact l_28 h6 hN (p_taken _ _ hn hi)
  rw [if_neg q28]
  by_cases q29 : c = 29
  · rw [if_pos q29]
    exact l_29 h6 hN (p_count _ hn hi)
  rw [if_neg q29]
  by_cases q30 : c = 30
  · rw [if_pos q30]
    exact l_30 h6 hN (p_tape _ _ _ hn hi)
  rw [if_neg q30]
  by_cases q31 : c = 31
  · rw [if_pos q31]
    exact l_31 h6 hN (p_item _ _ _ hn hi)
  rw [if_neg q31]
  by_cases q32 : c = 32
  · rw [if_pos q32]
    exact l_32 h6 hN (p_read _ _ hn hi)
  rw [if_neg q32]
  by_cases q33 : c = 33
  · rw [if_pos q33]
    exact l_33 h6 hN (p_shift _ _ _ _ _ hn hi)
  rw [if_neg q33]
  exact ⟨K, X, n, z, rfl, rfl, rfl, hn, by omega, by omega, S, hi⟩
end
