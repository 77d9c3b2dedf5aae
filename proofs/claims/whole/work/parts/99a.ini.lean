/-! The constructors: what they make. -/
def hq (h : Nat → Cl) (o : Nat) (c : Cl) : Nat → Cl := uph h o c
theorem hq1 {h : Nat → Cl} {o a : Nat} {c d : Cl} (e : a ≠ o) : uph (hq h o c) a d = hq (uph h a d) o c := by
  funext q
  unfold hq uph
  by_cases e1 : q = a
  · rw [if_pos e1, if_neg (by rw [e1]; exact e), if_pos e1]
  · rw [if_neg e1, if_neg e1]
theorem hq2 {h : Nat → Cl} {o : Nat} {c d : Cl} : uph (hq h o c) o d = hq h o d := by
  funext q
  unfold hq uph
  by_cases e1 : q = o
  · rw [if_pos e1, if_pos e1]
  · rw [if_neg e1, if_neg e1, if_neg e1]
theorem hq3 {h : Nat → Cl} {o : Nat} {c : Cl} : hq h o c o = c := if_pos rfl
theorem hq4 {h : Nat → Cl} {o a : Nat} {c : Cl} (e : a ≠ o) : hq h o c a = h a := if_neg e
theorem uph2 {h : Nat → Cl} {o : Nat} {c d : Cl} : uph (uph h o c) o d = uph h o d := hq2
theorem zA3 (m : Nat) : zA 3 m = iA 3 m (fun _ => 0) := rfl
theorem zA4 (m : Nat) : zA 4 m = jA m (fun _ => 0) := rfl
/-- the numbers at the start -/
def K0 (L : Nat) (xs : Nat → Int32) : KT := (fun _ _ => 0, fun _ => .null, fun _ => 0, 0, L, xs)
def X0 : Nat → Nat → Int32 := fun q => if q = 139 then (upd (upd (upd (upd (upd (upd (fun _ => 0) 0 (-1)) 1 (-1)) 2 (-1)) 3 (-1)) 4 (-1)) 5 (-1)) else if q = 141 then (fun k => if k = 9 then -1 else if k = 27 then 9999 else if k = 46 then -1 else 0) else if q = 155 then (upd (upd (upd (upd (upd (upd (upd (upd (upd (upd (upd (upd (fun _ => 0) 0 115) 1 117) 2 110) 3 115) 4 104) 5 97) 6 100) 7 101) 8 114) 9 105) 10 112) 11 101) else if q = 182 then (upd (upd (upd (upd (upd (upd (fun _ => 0) 0 (-1)) 1 (-1)) 2 (-1)) 3 (-1)) 4 (-1)) 5 (-1)) else (fun _ => 0)
def fin (L : Nat) (xs : Nat → Int32) (h : Nat → Cl) (lo hi : Nat) : Nat → Cl := fun q => if lo ≤ q ∧ q < hi then hp (K0 L xs) X0 q else h q
theorem cxl0 : cx 0 = 0 := by decide
theorem cxl1 : cx 1 = 1 := by decide
theorem cxl2 : cx 2 = 2 := by decide
theorem cxl3 : cx 3 = 3 := by decide
theorem cxl4 : cx 4 = 4 := by decide
theorem cxl5 : cx 5 = 5 := by decide
theorem cxl6 : cx 6 = 6 := by decide
theorem cxl7 : cx 7 = 7 := by decide
theorem cxl8 : cx 8 = 8 := by decide
theorem cxl9 : cx 9 = 9 := by decide
theorem cxl10 : cx 10 = 10 := by decide
theorem cxl11 : cx 11 = 11 := by decide
theorem cxl12 : cx 12 = 12 := by decide
theorem cxl20 : cx 20 = 20 := by decide
theorem cxl24 : cx 24 = 24 := by decide
theorem cxl60 : cx 60 = 60 := by decide
theorem cxl64 : cx 64 = 64 := by decide
theorem cxl100 : cx 100 = 100 := by decide
theorem cxl101 : cx 101 = 101 := by decide
theorem cxl360 : cx 360 = 360 := by decide
theorem cxl600 : cx 600 = 600 := by decide
theorem updV_n {f : Nat → Value} {j k : Nat} {v : Value} (h : k ≠ j) : updV f j v k = f k := if_neg h
theorem r_init {L : Nat} {xs : Nat → Int32} {h : Nat → Cl} {z : Nat} : E 1 mX12_init 0 [.ref 141] [] (hq h 141 (ob 12 (fun k => defaultValue (fty 12 k))), 142, z) = some (none, (fin L xs h 141 186, 186, z + 1841)) := by
  simp (decide := true) only [pX12_init_0, pX12_init_1, pX12_init_4, pX12_init_5, pX12_init_6, pX12_init_9, pX12_init_10, pX12_init_11, pX12_init_14, pX12_init_15, pX12_init_16, pX12_init_19, pX12_init_20, pX12_init_22, pX12_init_24, pX12_init_27, pX12_init_28, pX12_init_30, pX12_init_32, pX12_init_35, pX12_init_36, pX12_init_38, pX12_init_40, pX12_init_43, pX12_init_44, pX12_init_46, pX12_init_48, pX12_init_51, pX12_init_52, pX12_init_54, pX12_init_56, pX12_init_59, pX12_init_60, pX12_init_61, pX12_init_64, pX12_init_65, pX12_init_66, pX12_init_69, pX12_init_70, pX12_init_71, pX12_init_74, pX12_init_75, pX12_init_76, pX12_init_79, pX12_init_80, pX12_init_81, pX12_init_84, pX12_init_85, pX12_init_87, pX12_init_89, pX12_init_92, pX12_init_93, pX12_init_95, pX12_init_97, pX12_init_100, pX12_init_101, pX12_init_103, pX12_init_105, pX12_init_108, pX12_init_109, pX12_init_111, pX12_init_113, pX12_init_116, pX12_init_117, pX12_init_119, pX12_init_121, pX12_init_124, pX12_init_125, pX12_init_127, pX12_init_129, pX12_init_132, pX12_init_133, pX12_init_136, pX12_init_138, pX12_init_141, pX12_init_142, pX12_init_144, pX12_init_146, pX12_init_149, pX12_init_150, pX12_init_151, pX12_init_154, pX12_init_155, pX12_init_156, pX12_init_159, pX12_init_160, pX12_init_161, pX12_init_164, pX12_init_165, pX12_init_167, pX12_init_169, pX12_init_170, pX12_init_171, pX12_init_173, pX12_init_174, pX12_init_175, pX12_init_176, pX12_init_178, pX12_init_179, pX12_init_180, pX12_init_181, pX12_init_183, pX12_init_184, pX12_init_185, pX12_init_186, pX12_init_188, pX12_init_189, pX12_init_190, pX12_init_191, pX12_init_193, pX12_init_194, pX12_init_195, pX12_init_196, pX12_init_198, pX12_init_199, pX12_init_200, pX12_init_202, pX12_init_204, pX12_init_205, pX12_init_206, pX12_init_208, pX12_init_210, pX12_init_211, pX12_init_212, pX12_init_214, pX12_init_216, pX12_init_217, pX12_init_218, pX12_init_220, pX12_init_222, pX12_init_223, pX12_init_224, pX12_init_226, pX12_init_228, pX12_init_229, pX12_init_230, pX12_init_232, pX12_init_234, pX12_init_235, pX12_init_238, pX12_init_239, pX12_init_241, pX12_init_243, pX12_init_246, pX12_init_247, pX12_init_249, pX12_init_251, pX12_init_254, pX12_init_255, pX12_init_258, pX12_init_261, pX12_init_262, pX12_init_263, pX12_init_266, pX12_init_267, pX12_init_268, pX12_init_271, pX12_init_272, pX12_init_274, pX12_init_276, pX12_init_279, pX12_init_280, pX12_init_282, pX12_init_284, pX12_init_287, pX12_init_288, pX12_init_289, pX12_init_292, pX12_init_293, pX12_init_295, pX12_init_297, pX12_init_300, pX12_init_301, pX12_init_303, pX12_init_305, pX12_init_308, pX12_init_309, pX12_init_311, pX12_init_313, pX12_init_316, pX12_init_317, pX12_init_318, pX12_init_321, pX12_init_322, pX12_init_323, pX12_init_325, pX12_init_328, pX12_init_329, pX12_init_330, pX12_init_332, pX12_init_335, pX12_init_336, pX12_init_337, pX12_init_340, pX12_init_341, pX12_init_342, pX12_init_345, pX12_init_346, pX12_init_348, pX12_init_350, pX12_init_353, pX12_init_354, pX12_init_356, pX12_init_358, pX12_init_361, pX12_init_362, pX12_init_364, pX12_init_366, pX12_init_369, pX12_init_370, pX12_init_372, pX12_init_374, pX12_init_377, pX12_init_378, pX12_init_379, pX12_init_382, pX12_init_383, pX12_init_384, pX12_init_387, pX12_init_388, pX12_init_389, pX12_init_392, pX12_init_393, pX12_init_394, pX12_init_397, pX12_init_398, pX12_init_399, pX12_init_402, pX12_init_403, pX12_init_404, pX12_init_407, pX12_init_408, pX12_init_409, pX12_init_412, pX12_init_413, pX12_init_414, pX12_init_417, pX12_init_418, pX12_init_419, pX12_init_422, pX12_init_423, pX12_init_425, pX12_init_427, pX12_init_430, pX12_init_431, pX12_init_433, pX12_init_435, pX12_init_438, pX12_init_439, pX12_init_441, pX12_init_443, pX12_init_446, pX12_init_447, pX12_init_449, pX12_init_451, pX12_init_454, pX12_init_455, pX12_init_457, pX12_init_459, pX12_init_462, pX12_init_463, pX12_init_465, pX12_init_467, pX12_init_470, pX12_init_471, pX12_init_472, pX12_init_474, pX12_init_477, pX12_init_478, pX12_init_479, pX12_init_481, pX12_init_484, pX12_init_485, pX12_init_487, pX12_init_489, pX12_init_492, pX12_init_493, pX12_init_495, pX12_init_497, pX12_init_500, pX12_init_501, pX12_init_503, pX12_init_505, pX12_init_508, pX12_init_509, pX12_init_511, pX12_init_513, pX12_init_516, pX12_init_517, pX12_init_518, pX12_init_521, pX12_init_522, pX12_init_524, pX12_init_526, pX12_init_529, pX12_init_530, pX12_init_532, pX12_init_534, pX12_init_535, pX12_init_536, pX12_init_537, pX12_init_538, pX12_init_539, pX12_init_540, pX12_init_541, pX12_init_542, pX12_init_543, pX12_init_544, pX12_init_545, pX12_init_546, pX12_init_547, pX12_init_548, pX12_init_549, pX12_init_550, pX12_init_551, pX12_init_552, pX12_init_553, pX12_init_554, pX12_init_555, pX12_init_556, pX12_init_557, pX12_init_558, pX12_init_561, pX12_init_562, pX12_init_564, pX12_init_566, pX12_init_569, pX12_init_570, pX12_init_573, pX12_init_575, pX12_init_578, pX12_init_579, pX12_init_581, pX12_init_583, pX12_init_586, kd_i0, kd_i1, kd_i2, kd_i3, kd_jA, kd_r5, kd_r6, kd_r7, al_i, al_j, al_r, ai_i, aj_j, aq_r, cls_o, fv_o, sti_i, stj_j, st2_s, st2_n, bnd_some, set1_same, set1_twice, hq1, hq2, hq3, hq4, uph2, uph_s, uph_n, stf_o, zA0, zA1, zA2, zA3, zA4, ne_eq, cxl0, cxl1, cxl2, cxl3, cxl4, cxl5, cxl6, cxl7, cxl8, cxl9, cxl10, cxl11, cxl12, cxl20, cxl24, cxl60, cxl64, cxl100, cxl101, cxl360, cxl600, Nat.reduceAdd, Nat.reduceLeDiff, Nat.reduceEqDiff, not_false_eq_true]
  refine congrArg some (Prod.ext rfl (Prod.ext (funext fun q => ?_) (Prod.ext rfl ?_)))
  · show hq _ 141 _ q = fin L xs h 141 186 q
    unfold fin
    by_cases r : 141 ≤ q ∧ q < 186
    · rw [if_pos r]
      by_cases e : q = 141
      · subst e
        rw [hq3, hc_141]
        congr 1
        funext k
        by_cases k7 : k < 72
        · have : k = 0 ∨ k = 1 ∨ k = 2 ∨ k = 3 ∨ k = 4 ∨ k = 5 ∨ k = 6 ∨ k = 7 ∨ k = 8 ∨ k = 9 ∨ k = 10 ∨ k = 11 ∨ k = 12 ∨ k = 13 ∨ k = 14 ∨ k = 15 ∨ k = 16 ∨ k = 17 ∨ k = 18 ∨ k = 19 ∨ k = 20 ∨ k = 21 ∨ k = 22 ∨ k = 23 ∨ k = 24 ∨ k = 25 ∨ k = 26 ∨ k = 27 ∨ k = 28 ∨ k = 29 ∨ k = 30 ∨ k = 31 ∨ k = 32 ∨ k = 33 ∨ k = 34 ∨ k = 35 ∨ k = 36 ∨ k = 37 ∨ k = 38 ∨ k = 39 ∨ k = 40 ∨ k = 41 ∨ k = 42 ∨ k = 43 ∨ k = 44 ∨ k = 45 ∨ k = 46 ∨ k = 47 ∨ k = 48 ∨ k = 49 ∨ k = 50 ∨ k = 51 ∨ k = 52 ∨ k = 53 ∨ k = 54 ∨ k = 55 ∨ k = 56 ∨ k = 57 ∨ k = 58 ∨ k = 59 ∨ k = 60 ∨ k = 61 ∨ k = 62 ∨ k = 63 ∨ k = 64 ∨ k = 65 ∨ k = 66 ∨ k = 67 ∨ k = 68 ∨ k = 69 ∨ k = 70 ∨ k = 71 := by omega
          rcases this with rfl | rfl | rfl | rfl | rfl | rfl | rfl | rfl | rfl | rfl | rfl | rfl | rfl | rfl | rfl | rfl | rfl | rfl | rfl | rfl | rfl | rfl | rfl | rfl | rfl | rfl | rfl | rfl | rfl | rfl | rfl | rfl | rfl | rfl | rfl | rfl | rfl | rfl | rfl | rfl | rfl | rfl | rfl | rfl | rfl | rfl | rfl | rfl | rfl | rfl | rfl | rfl | rfl | rfl | rfl | rfl | rfl | rfl | rfl | rfl | rfl | rfl | rfl | rfl | rfl | rfl | rfl | rfl | rfl | rfl | rfl | rfl <;> rfl
        · unfold ofl ofr
          rw [if_pos (show fnum 12 ≤ k from Nat.not_lt.mp k7)]
          repeat rw [updV_n (by omega)]
      · rw [hq4 e]
        have : q = 142 ∨ q = 143 ∨ q = 144 ∨ q = 145 ∨ q = 146 ∨ q = 147 ∨ q = 148 ∨ q = 149 ∨ q = 150 ∨ q = 151 ∨ q = 152 ∨ q = 153 ∨ q = 154 ∨ q = 155 ∨ q = 156 ∨ q = 157 ∨ q = 158 ∨ q = 159 ∨ q = 160 ∨ q = 161 ∨ q = 162 ∨ q = 163 ∨ q = 164 ∨ q = 165 ∨ q = 166 ∨ q = 167 ∨ q = 168 ∨ q = 169 ∨ q = 170 ∨ q = 171 ∨ q = 172 ∨ q = 173 ∨ q = 174 ∨ q = 175 ∨ q = 176 ∨ q = 177 ∨ q = 178 ∨ q = 179 ∨ q = 180 ∨ q = 181 ∨ q = 182 ∨ q = 183 ∨ q = 184 ∨ q = 185 := by omega
        rcases this with rfl | rfl | rfl | rfl | rfl | rfl | rfl | rfl | rfl | rfl | rfl | rfl | rfl | rfl | rfl | rfl | rfl | rfl | rfl | rfl | rfl | rfl | rfl | rfl | rfl | rfl | rfl | rfl | rfl | rfl | rfl | rfl | rfl | rfl | rfl | rfl | rfl | rfl | rfl | rfl | rfl | rfl | rfl | rfl <;> rfl
    · rw [if_neg r, hq4 (by omega)]
      repeat rw [uph_n (by omega)]
  · dsimp only
