theorem w2_bin {pc' : Nat} {L' st' : List Value} {w' : Wd} (f : Int32 → Int32 → Int32) (pc : Nat) (L st : List Value) (w : Wd) (h : s_bin f pc L st w = nx pc' L' st' w') : w'.2 = w.2 := by
  unfold s_bin at h
  repeat' split at h
  all_goals first | (cases h; done) | (obtain ⟨-, -, -, rfl⟩ := nx_inj h; rfl)
theorem w2_div {pc' : Nat} {L' st' : List Value} {w' : Wd} (f : Int32 → Int32 → Int32) (pc : Nat) (L st : List Value) (w : Wd) (h : s_div f pc L st w = nx pc' L' st' w') : w'.2 = w.2 := by
  unfold s_div at h
  repeat' split at h
  all_goals first | (cases h; done) | (obtain ⟨-, -, -, rfl⟩ := nx_inj h; rfl)
theorem w2_un {pc' : Nat} {L' st' : List Value} {w' : Wd} (f : Int32 → Int32) (pc : Nat) (L st : List Value) (w : Wd) (h : s_un f pc L st w = nx pc' L' st' w') : w'.2 = w.2 := by
  unfold s_un at h
  repeat' split at h
  all_goals first | (cases h; done) | (obtain ⟨-, -, -, rfl⟩ := nx_inj h; rfl)
theorem w2_bil {pc' : Nat} {L' st' : List Value} {w' : Wd} (f : Int64 → Int64 → Int64) (pc : Nat) (L st : List Value) (w : Wd) (h : s_bil f pc L st w = nx pc' L' st' w') : w'.2 = w.2 := by
  unfold s_bil at h
  repeat' split at h
  all_goals first | (cases h; done) | (obtain ⟨-, -, -, rfl⟩ := nx_inj h; rfl)
theorem w2_load {pc' : Nat} {L' st' : List Value} {w' : Wd} (k len pc : Nat) (L st : List Value) (w : Wd) (h : s_load k len pc L st w = nx pc' L' st' w') : w'.2 = w.2 := by
  unfold s_load at h
  repeat' split at h
  all_goals first | (cases h; done) | (obtain ⟨-, -, -, rfl⟩ := nx_inj h; rfl)
theorem w2_aload {pc' : Nat} {L' st' : List Value} {w' : Wd} (k len pc : Nat) (L st : List Value) (w : Wd) (h : s_aload k len pc L st w = nx pc' L' st' w') : w'.2 = w.2 := by
  unfold s_aload at h
  repeat' split at h
  all_goals first | (cases h; done) | (obtain ⟨-, -, -, rfl⟩ := nx_inj h; rfl)
theorem w2_lload {pc' : Nat} {L' st' : List Value} {w' : Wd} (k len pc : Nat) (L st : List Value) (w : Wd) (h : s_lload k len pc L st w = nx pc' L' st' w') : w'.2 = w.2 := by
  unfold s_lload at h
  repeat' split at h
  all_goals first | (cases h; done) | (obtain ⟨-, -, -, rfl⟩ := nx_inj h; rfl)
theorem w2_store {pc' : Nat} {L' st' : List Value} {w' : Wd} (md : Md) (k len pc : Nat) (L st : List Value) (w : Wd) (h : s_store md k len pc L st w = nx pc' L' st' w') : w'.2 = w.2 := by
  unfold s_store at h
  repeat' split at h
  all_goals first | (cases h; done) | (obtain ⟨-, -, -, rfl⟩ := nx_inj h; rfl)
theorem w2_astore {pc' : Nat} {L' st' : List Value} {w' : Wd} (md : Md) (k len pc : Nat) (L st : List Value) (w : Wd) (h : s_astore md k len pc L st w = nx pc' L' st' w') : w'.2 = w.2 := by
  unfold s_astore at h
  repeat' split at h
  all_goals first | (cases h; done) | (obtain ⟨-, -, -, rfl⟩ := nx_inj h; rfl)
theorem w2_iinc {pc' : Nat} {L' st' : List Value} {w' : Wd} (md : Md) (k : Nat) (n : Int) (pc : Nat) (L st : List Value) (w : Wd) (h : s_iinc md k n pc L st w = nx pc' L' st' w') : w'.2 = w.2 := by
  unfold s_iinc at h
  repeat' split at h
  all_goals first | (cases h; done) | (obtain ⟨-, -, -, rfl⟩ := nx_inj h; rfl)
theorem w2_if {pc' : Nat} {L' st' : List Value} {w' : Wd} (c : Int32 → Int32 → Bool) (off : Int) (pc : Nat) (L st : List Value) (w : Wd) (h : s_if c off pc L st w = nx pc' L' st' w') : w'.2 = w.2 := by
  unfold s_if at h
  repeat' split at h
  all_goals first | (cases h; done) | (obtain ⟨-, -, -, rfl⟩ := nx_inj h; rfl)
theorem w2_cmp {pc' : Nat} {L' st' : List Value} {w' : Wd} (c : Int32 → Int32 → Bool) (off : Int) (pc : Nat) (L st : List Value) (w : Wd) (h : s_cmp c off pc L st w = nx pc' L' st' w') : w'.2 = w.2 := by
  unfold s_cmp at h
  repeat' split at h
  all_goals first | (cases h; done) | (obtain ⟨-, -, -, rfl⟩ := nx_inj h; rfl)
theorem w2_null {pc' : Nat} {L' st' : List Value} {w' : Wd} (b : Bool) (off : Int) (pc : Nat) (L st : List Value) (w : Wd) (h : s_null b off pc L st w = nx pc' L' st' w') : w'.2 = w.2 := by
  unfold s_null at h
  repeat' split at h
  all_goals first | (cases h; done) | (obtain ⟨-, -, -, rfl⟩ := nx_inj h; rfl)
theorem w2_get {pc' : Nat} {L' st' : List Value} {w' : Wd} (md : Md) (i pc : Nat) (L st : List Value) (w : Wd) (h : s_get md i pc L st w = nx pc' L' st' w') : w'.2 = w.2 := by
  unfold s_get at h
  repeat' split at h
  all_goals first | (cases h; done) | (obtain ⟨-, -, -, rfl⟩ := nx_inj h; rfl)
theorem w2_put {pc' : Nat} {L' st' : List Value} {w' : Wd} (md : Md) (i pc : Nat) (L st : List Value) (w : Wd) (h : s_put md i pc L st w = nx pc' L' st' w') : w'.2 = w.2 := by
  unfold s_put at h
  repeat' split at h
  all_goals first | (cases h; done) | (obtain ⟨-, -, -, rfl⟩ := nx_inj h; rfl)
theorem w2_ald {pc' : Nat} {L' st' : List Value} {w' : Wd} (ok : Nat → Bool) (g : Cl → Nat → Value) (pc : Nat) (L st : List Value) (w : Wd) (h : s_ald ok g pc L st w = nx pc' L' st' w') : w'.2 = w.2 := by
  unfold s_ald at h
  repeat' split at h
  all_goals first | (cases h; done) | (obtain ⟨-, -, -, rfl⟩ := nx_inj h; rfl)
theorem w2_ast {pc' : Nat} {L' st' : List Value} {w' : Wd} (t : Nat) (nar : Int32 → Int32) (pc : Nat) (L st : List Value) (w : Wd) (h : s_ast t nar pc L st w = nx pc' L' st' w') : w'.2 = w.2 := by
  unfold s_ast at h
  repeat' split at h
  all_goals first | (cases h; done) | (obtain ⟨-, -, -, rfl⟩ := nx_inj h; rfl)
theorem w2_last {pc' : Nat} {L' st' : List Value} {w' : Wd} (pc : Nat) (L st : List Value) (w : Wd) (h : s_last pc L st w = nx pc' L' st' w') : w'.2 = w.2 := by
  unfold s_last at h
  repeat' split at h
  all_goals first | (cases h; done) | (obtain ⟨-, -, -, rfl⟩ := nx_inj h; rfl)
theorem w2_aast {pc' : Nat} {L' st' : List Value} {w' : Wd} (pc : Nat) (L st : List Value) (w : Wd) (h : s_aast pc L st w = nx pc' L' st' w') : w'.2 = w.2 := by
  unfold s_aast at h
  repeat' split at h
  all_goals first | (cases h; done) | (obtain ⟨-, -, -, rfl⟩ := nx_inj h; rfl)
theorem w2_alen {pc' : Nat} {L' st' : List Value} {w' : Wd} (pc : Nat) (L st : List Value) (w : Wd) (h : s_alen pc L st w = nx pc' L' st' w') : w'.2 = w.2 := by
  unfold s_alen at h
  repeat' split at h
  all_goals first | (cases h; done) | (obtain ⟨-, -, -, rfl⟩ := nx_inj h; rfl)
theorem w2_tsw {pc' : Nat} {L' st' : List Value} {w' : Wd} (d lo hi : Int) (offs : Array Int) (pc : Nat) (L st : List Value) (w : Wd) (h : s_tsw d lo hi offs pc L st w = nx pc' L' st' w') : w'.2 = w.2 := by
  unfold s_tsw at h
  repeat' split at h
  all_goals first | (cases h; done) | (obtain ⟨-, -, -, rfl⟩ := nx_inj h; rfl)
theorem w2_lsw {pc' : Nat} {L' st' : List Value} {w' : Wd} (d : Int) (ps : Array (Int × Int)) (pc : Nat) (L st : List Value) (w : Wd) (h : s_lsw d ps pc L st w = nx pc' L' st' w') : w'.2 = w.2 := by
  unfold s_lsw at h
  repeat' split at h
  all_goals first | (cases h; done) | (obtain ⟨-, -, -, rfl⟩ := nx_inj h; rfl)
theorem w2_copy {pc' : Nat} {L' st' : List Value} {w' : Wd} (r pc : Nat) (L st : List Value) (w : Wd) (h : s_copy r pc L st w = nx pc' L' st' w') : w'.2 = w.2 := by
  unfold s_copy at h
  repeat' split at h
  all_goals first | (cases h; done) | (obtain ⟨-, -, -, rfl⟩ := nx_inj h; rfl)
theorem w2_mm {pc' : Nat} {L' st' : List Value} {w' : Wd} (f : Int32 → Int32 → Int32) (r pc : Nat) (L st : List Value) (w : Wd) (h : s_mm f r pc L st w = nx pc' L' st' w') : w'.2 = w.2 := by
  unfold s_mm at h
  repeat' split at h
  all_goals first | (cases h; done) | (obtain ⟨-, -, -, rfl⟩ := nx_inj h; rfl)
theorem w2_bast {pc' : Nat} {L' st' : List Value} {w' : Wd} (pc : Nat) (L st : List Value) (w : Wd) (h : s_bast pc L st w = nx pc' L' st' w') : w'.2 = w.2 := by
  unfold s_bast at h
  split at h
  · split at h
    · exact w2_ast _ _ _ _ _ _ h
    · exact w2_ast _ _ _ _ _ _ h
  · cases h
/-- a step -/
def Sok (G : Gl) (r : Nat) (md : Md) (pc : Nat) (L st : List Value) (w : Wd) (pc' : Nat) (L' st' : List Value) (w' : Wd) : Prop :=
  w.2.1 ≤ w'.2.1 ∧ w.2.2 ≤ w'.2.2 ∧ ∀ (p : Program) (l : Launch) (e : Env) (R : Room) (s : State) (m : MethodId) (args : Array Value) (below : List Frame) (meth : Method) (c : Code) (cells slots : Nat) (Q : State → Prop), Cx G p R s m args meth c md r → cells + (w'.2.1 - w.2.1) ≤ R.cells → slots + (w'.2.2 - w.2.2) ≤ R.slots →
    Wg G p l e R s m args below meth c md pc' L' st' w' (cells + (w'.2.1 - w.2.1)) (slots + (w'.2.2 - w.2.2)) Q → Wg G p l e R s m args below meth c md pc L st w cells slots Q
theorem Sok.of {G : Gl} {r : Nat} {md : Md} {pc : Nat} {L st : List Value} {w : Wd} {pc' : Nat} {L' st' : List Value} {w' : Wd} (hw : w'.2 = w.2)
    (h : ∀ (p : Program) (l : Launch) (e : Env) (R : Room) (s : State) (m : MethodId) (args : Array Value) (below : List Frame) (meth : Method) (c : Code) (cells slots : Nat) (Q : State → Prop), Cx G p R s m args meth c md r → cells ≤ R.cells → slots ≤ R.slots → Wg G p l e R s m args below meth c md pc' L' st' w' cells slots Q → Wg G p l e R s m args below meth c md pc L st w cells slots Q) : Sok G r md pc L st w pc' L' st' w' := by
  refine ⟨by rw [hw]; exact Nat.le_refl _, by rw [hw]; exact Nat.le_refl _, fun p l e R s m args below meth c cells slots Q C h1 h2 k => ?_⟩
  rw [hw, Nat.sub_self, Nat.add_zero] at h1
  rw [hw, Nat.sub_self, Nat.add_zero] at h2
  rw [hw, Nat.sub_self, Nat.sub_self, Nat.add_zero, Nat.add_zero] at k
  exact h p l e R s m args below meth c cells slots Q C h1 h2 k
theorem cat1_c {G : Gl} {v : Value} (h : cat1 v = true) : (shv G v).category = 1 := by
  cases v <;> first | rfl | (cases h; done)
theorem m_newa {pc' : Nat} {L' st' : List Value} {w' : Wd} {at0 : ArrayType} {pc : Nat} {L st : List Value} {w : Wd} (h : s_newa at0 pc L st w = nx pc' L' st' w') : w.2.1 ≤ w'.2.1 ∧ w.2.2 ≤ w'.2.2 := by
  unfold s_newa at h
  repeat' split at h
  all_goals first | (cases h; done) | (obtain ⟨-, -, -, rfl⟩ := nx_inj h; constructor <;> dsimp only <;> omega)
theorem m_newq {pc' : Nat} {L' st' : List Value} {w' : Wd} {md : Md} {i pc : Nat} {L st : List Value} {w : Wd} (h : s_newq md i pc L st w = nx pc' L' st' w') : w.2.1 ≤ w'.2.1 ∧ w.2.2 ≤ w'.2.2 := by
  unfold s_newq at h
  repeat' split at h
  all_goals first | (cases h; done) | (obtain ⟨-, -, -, rfl⟩ := nx_inj h; constructor <;> dsimp only <;> omega)
theorem m_newm {pc' : Nat} {L' st' : List Value} {w' : Wd} {md : Md} {i pc : Nat} {L st : List Value} {w : Wd} (h : s_newm md i pc L st w = nx pc' L' st' w') : w.2.1 ≤ w'.2.1 ∧ w.2.2 ≤ w'.2.2 := by
  unfold s_newm at h
  repeat' split at h
  all_goals first | (cases h; done) | (obtain ⟨-, -, -, rfl⟩ := nx_inj h; constructor <;> dsimp only <;> omega)
theorem m_new {pc' : Nat} {L' st' : List Value} {w' : Wd} {md : Md} {i pc : Nat} {L st : List Value} {w : Wd} (h : s_new md i pc L st w = nx pc' L' st' w') : w.2.1 ≤ w'.2.1 ∧ w.2.2 ≤ w'.2.2 := by
  unfold s_new at h
  repeat' split at h
  all_goals first | (cases h; done) | (obtain ⟨-, -, -, rfl⟩ := nx_inj h; constructor <;> dsimp only <;> omega)
theorem m_clone {pc' : Nat} {L' st' : List Value} {w' : Wd} {r pc : Nat} {L st : List Value} {w : Wd} (h : s_clone r pc L st w = nx pc' L' st' w') : w.2.1 ≤ w'.2.1 ∧ w.2.2 ≤ w'.2.2 := by
  unfold s_clone at h
  repeat' split at h
  all_goals first | (cases h; done) | (obtain ⟨-, -, -, rfl⟩ := nx_inj h; constructor <;> dsimp only <;> omega)
theorem no_callV {r : Nat} {md : Md} {i pc : Nat} {st : List Value} {w : Wd} {lo hi : Nat} {pc' : Nat} {L' st' : List Value} {w' : Wd} (h : nx pc' L' st' w' = s_callV r md i pc st w lo hi) : False := by
  unfold s_callV at h
  repeat' split at h
  all_goals first | (cases h; done) | exact nx_ca h
theorem no_callS {r : Nat} {md : Md} {i pc : Nat} {st : List Value} {w : Wd} {pc' : Nat} {L' st' : List Value} {w' : Wd} (h : nx pc' L' st' w' = s_callS r md i pc st w) : False := by
  unfold s_callS at h
  repeat' split at h
  all_goals first | (cases h; done) | exact nx_ca h
theorem nx_rt {a : Nat} {b d : List Value} {w : Wd} {v : Option Value} {w' : Wd} (h : rt v w' = nx a b d w) : False := by
  unfold nx rt at h
  injection h with h
  cases h
theorem no_iret {md : Md} {st : List Value} {w : Wd} {pc' : Nat} {L' st' : List Value} {w' : Wd} : ¬ s_iret md st w = nx pc' L' st' w' := by
  intro h
  unfold s_iret at h
  repeat' split at h
  all_goals first | (cases h; done) | exact nx_rt h
theorem no_lret {md : Md} {st : List Value} {w : Wd} {pc' : Nat} {L' st' : List Value} {w' : Wd} : ¬ s_lret md st w = nx pc' L' st' w' := by
  intro h
  unfold s_lret at h
  repeat' split at h
  all_goals first | (cases h; done) | exact nx_rt h
theorem no_aret {md : Md} {st : List Value} {w : Wd} {pc' : Nat} {L' st' : List Value} {w' : Wd} : ¬ s_aret md st w = nx pc' L' st' w' := by
  intro h
  unfold s_aret at h
  repeat' split at h
  all_goals first | (cases h; done) | exact nx_rt h
theorem no_vret {md : Md} {st : List Value} {w : Wd} {pc' : Nat} {L' st' : List Value} {w' : Wd} : ¬ s_vret md st w = nx pc' L' st' w' := by
  intro h
  unfold s_vret at h
  repeat' split at h
  all_goals first | (cases h; done) | exact nx_rt h
set_option maxHeartbeats 4000000 in
theorem stp_nx {G : Gl} {r : Nat} {md : Md} {pc : Nat} {L st : List Value} {w : Wd} {pc' : Nat} {L' st' : List Value} {w' : Wd} (h : stp r md pc L st w = nx pc' L' st' w') : Sok G r md pc L st w pc' L' st' w' := by
  unfold stp at h
  split at h
  · rename_i i len hd
    unfold stpI at h
    split at h
    · replace h := ln_eq h
      obtain ⟨rfl, h⟩ := h
      obtain ⟨rfl, rfl, rfl, rfl⟩ := nx_inj h
      refine Sok.of rfl (fun p l e R s m args below meth c cells slots Q C hc hs k => ?_)
      exact fun H locs ls a b d => lv_iconst C.1 C.2.1 hd rfl (k H locs ls a b d)
    · replace h := ln_eq h
      obtain ⟨rfl, h⟩ := h
      obtain ⟨rfl, rfl, rfl, rfl⟩ := nx_inj h
      refine Sok.of rfl (fun p l e R s m args below meth c cells slots Q C hc hs k => ?_)
      exact fun H locs ls a b d => lv_bipush C.1 C.2.1 hd rfl (k H locs ls a b d)
    · replace h := ln_eq h
      obtain ⟨rfl, h⟩ := h
      obtain ⟨rfl, rfl, rfl, rfl⟩ := nx_inj h
      refine Sok.of rfl (fun p l e R s m args below meth c cells slots Q C hc hs k => ?_)
      exact fun H locs ls a b d => lv_sipush C.1 C.2.1 hd rfl (k H locs ls a b d)
    · replace h := ln_eq h
      obtain ⟨rfl, h⟩ := h
      obtain ⟨rfl, rfl, rfl, rfl⟩ := nx_inj h
      refine Sok.of rfl (fun p l e R s m args below meth c cells slots Q C hc hs k => ?_)
      exact fun H locs ls a b d => lv_lconst C.1 C.2.1 hd rfl (k H locs ls a b d)
    · replace h := ln_eq h
      obtain ⟨rfl, h⟩ := h
      refine Sok.of (w2_load _ _ _ _ _ _ h) (fun p l e R s m args below meth c cells slots Q C hc hs k => ?_)
      exact g_load (fun H locs ls rest x hl k => lv_iload_n C.1 C.2.1 hd rfl hl k) h k
    · replace h := ln_eq h
      obtain ⟨rfl, h⟩ := h
      refine Sok.of (w2_load _ _ _ _ _ _ h) (fun p l e R s m args below meth c cells slots Q C hc hs k => ?_)
      exact g_load (fun H locs ls rest x hl k => lv_iload C.1 C.2.1 hd hl k) h k
    · replace h := ln_eq h
      obtain ⟨rfl, h⟩ := h
      refine Sok.of (w2_aload _ _ _ _ _ _ h) (fun p l e R s m args below meth c cells slots Q C hc hs k => ?_)
      exact g_aload (fun H locs ls rest x hl k => lv_aload_n C.1 C.2.1 hd rfl hl k) h k
    · replace h := ln_eq h
      obtain ⟨rfl, h⟩ := h
      refine Sok.of (w2_aload _ _ _ _ _ _ h) (fun p l e R s m args below meth c cells slots Q C hc hs k => ?_)
      exact g_aload (fun H locs ls rest x hl k => lv_aload C.1 C.2.1 hd hl k) h k
    · replace h := ln_eq h
      obtain ⟨rfl, h⟩ := h
      refine Sok.of (w2_lload _ _ _ _ _ _ h) (fun p l e R s m args below meth c cells slots Q C hc hs k => ?_)
      exact g_lload (fun H locs ls rest x hl k => lv_lload_n C.1 C.2.1 hd rfl hl k) h k
    · replace h := ln_eq h
      obtain ⟨rfl, h⟩ := h
      refine Sok.of (w2_store _ _ _ _ _ _ _ h) (fun p l e R s m args below meth c cells slots Q C hc hs k => ?_)
      exact g_store C.2.2.2.2.2.2.2.2.1.2.2.2.2.2.2.2.2.2.1 (fun H locs ls rest x lv hl hi k => lv_istore_n C.1 C.2.1 hd rfl hl hi rfl k) h k
    · replace h := ln_eq h
      obtain ⟨rfl, h⟩ := h
      refine Sok.of (w2_store _ _ _ _ _ _ _ h) (fun p l e R s m args below meth c cells slots Q C hc hs k => ?_)
      exact g_store C.2.2.2.2.2.2.2.2.1.2.2.2.2.2.2.2.2.2.1 (fun H locs ls rest x lv hl hi k => lv_istore C.1 C.2.1 hd hl hi rfl k) h k
    · replace h := ln_eq h
      obtain ⟨rfl, h⟩ := h
      refine Sok.of (w2_astore _ _ _ _ _ _ _ h) (fun p l e R s m args below meth c cells slots Q C hc hs k => ?_)
      exact g_astore C.2.2.2.2.2.2.2.2.1.2.2.2.2.2.2.2.2.2.1 (fun H locs ls rest x lv hl hi k => lv_astore_n C.1 C.2.1 hd rfl hl hi rfl k) h k
    · replace h := ln_eq h
      obtain ⟨rfl, h⟩ := h
      refine Sok.of (w2_astore _ _ _ _ _ _ _ h) (fun p l e R s m args below meth c cells slots Q C hc hs k => ?_)
      exact g_astore C.2.2.2.2.2.2.2.2.1.2.2.2.2.2.2.2.2.2.1 (fun H locs ls rest x lv hl hi k => lv_astore C.1 C.2.1 hd hl hi rfl k) h k
    · replace h := ln_eq h
      obtain ⟨rfl, h⟩ := h
      refine Sok.of (w2_iinc _ _ _ _ _ _ _ h) (fun p l e R s m args below meth c cells slots Q C hc hs k => ?_)
      exact g_iinc C.2.2.2.2.2.2.2.2.1.2.2.2.2.2.2.2.2.2.1 C.1 C.2.1 hd h k
    · replace h := ln_eq h
      obtain ⟨rfl, h⟩ := h
      refine Sok.of (w2_bin _ _ _ _ _ h) (fun p l e R s m args below meth c cells slots Q C hc hs k => ?_)
      exact g_bin (fun H locs ls rest x y k => lv_iadd C.1 C.2.1 hd k) h k
    · replace h := ln_eq h
      obtain ⟨rfl, h⟩ := h
      refine Sok.of (w2_bin _ _ _ _ _ h) (fun p l e R s m args below meth c cells slots Q C hc hs k => ?_)
      exact g_bin (fun H locs ls rest x y k => lv_isub C.1 C.2.1 hd k) h k
    · replace h := ln_eq h
      obtain ⟨rfl, h⟩ := h
      refine Sok.of (w2_bin _ _ _ _ _ h) (fun p l e R s m args below meth c cells slots Q C hc hs k => ?_)
      exact g_bin (fun H locs ls rest x y k => lv_imul C.1 C.2.1 hd k) h k
    · replace h := ln_eq h
      obtain ⟨rfl, h⟩ := h
      refine Sok.of (w2_bin _ _ _ _ _ h) (fun p l e R s m args below meth c cells slots Q C hc hs k => ?_)
      exact g_bin (fun H locs ls rest x y k => lv_iand C.1 C.2.1 hd k) h k
    · replace h := ln_eq h
      obtain ⟨rfl, h⟩ := h
      refine Sok.of (w2_bin _ _ _ _ _ h) (fun p l e R s m args below meth c cells slots Q C hc hs k => ?_)
      exact g_bin (fun H locs ls rest x y k => lv_ior C.1 C.2.1 hd k) h k
    · replace h := ln_eq h
      obtain ⟨rfl, h⟩ := h
      refine Sok.of (w2_bin _ _ _ _ _ h) (fun p l e R s m args below meth c cells slots Q C hc hs k => ?_)
      exact g_bin (fun H locs ls rest x y k => lv_ixor C.1 C.2.1 hd k) h k
    · replace h := ln_eq h
      obtain ⟨rfl, h⟩ := h
      refine Sok.of (w2_bin _ _ _ _ _ h) (fun p l e R s m args below meth c cells slots Q C hc hs k => ?_)
      exact g_bin (fun H locs ls rest x y k => lv_ishl C.1 C.2.1 hd k) h k
    · replace h := ln_eq h
      obtain ⟨rfl, h⟩ := h
      refine Sok.of (w2_bin _ _ _ _ _ h) (fun p l e R s m args below meth c cells slots Q C hc hs k => ?_)
      exact g_bin (fun H locs ls rest x y k => lv_ishr C.1 C.2.1 hd k) h k
    · replace h := ln_eq h
      obtain ⟨rfl, h⟩ := h
      refine Sok.of (w2_bin _ _ _ _ _ h) (fun p l e R s m args below meth c cells slots Q C hc hs k => ?_)
      exact g_bin (fun H locs ls rest x y k => lv_iushr C.1 C.2.1 hd rfl k) h k
    · replace h := ln_eq h
      obtain ⟨rfl, h⟩ := h
      refine Sok.of (w2_div _ _ _ _ _ h) (fun p l e R s m args below meth c cells slots Q C hc hs k => ?_)
      exact g_div (fun H locs ls rest x y hy k => lv_idiv C.1 C.2.1 hd hy k) h k
    · replace h := ln_eq h
      obtain ⟨rfl, h⟩ := h
      refine Sok.of (w2_div _ _ _ _ _ h) (fun p l e R s m args below meth c cells slots Q C hc hs k => ?_)
      exact g_div (fun H locs ls rest x y hy k => lv_irem C.1 C.2.1 hd hy k) h k
    · replace h := ln_eq h
      obtain ⟨rfl, h⟩ := h
      refine Sok.of (w2_un _ _ _ _ _ h) (fun p l e R s m args below meth c cells slots Q C hc hs k => ?_)
      exact g_un (fun H locs ls rest x k => lv_ineg C.1 C.2.1 hd k) h k
    · replace h := ln_eq h
      obtain ⟨rfl, h⟩ := h
      refine Sok.of (w2_un _ _ _ _ _ h) (fun p l e R s m args below meth c cells slots Q C hc hs k => ?_)
      exact g_un (fun H locs ls rest x k => lv_i2b C.1 C.2.1 hd rfl k) h k
    · replace h := ln_eq h
      obtain ⟨rfl, h⟩ := h
      refine Sok.of (w2_un _ _ _ _ _ h) (fun p l e R s m args below meth c cells slots Q C hc hs k => ?_)
      exact g_un (fun H locs ls rest x k => lv_i2s C.1 C.2.1 hd rfl k) h k
    · replace h := ln_eq h
      obtain ⟨rfl, h⟩ := h
      refine Sok.of (w2_un _ _ _ _ _ h) (fun p l e R s m args below meth c cells slots Q C hc hs k => ?_)
      exact g_un (fun H locs ls rest x k => lv_i2c C.1 C.2.1 hd rfl k) h k
    · replace h := ln_eq h
      obtain ⟨rfl, h⟩ := h
      refine Sok.of (w2_bil _ _ _ _ _ h) (fun p l e R s m args below meth c cells slots Q C hc hs k => ?_)
      exact g_bil (fun H locs ls rest x y k => lv_land C.1 C.2.1 hd k) h k
    · replace h := ln_eq h
      obtain ⟨rfl, h⟩ := h
      refine Sok.of (w2_bil _ _ _ _ _ h) (fun p l e R s m args below meth c cells slots Q C hc hs k => ?_)
      exact g_bil (fun H locs ls rest x y k => lv_lor C.1 C.2.1 hd k) h k
    · replace h := ln_eq h
      obtain ⟨rfl, h⟩ := h
      split at h
      · obtain ⟨rfl, rfl, rfl, rfl⟩ := nx_inj h
        refine Sok.of rfl (fun p l e R s m args below meth c cells slots Q C hc hs k => ?_)
        exact fun H locs ls a b d => lv_i2l C.1 C.2.1 hd rfl (k H locs ls a b d)
      · cases h
    · replace h := ln_eq h
      obtain ⟨rfl, h⟩ := h
      split at h
      · obtain ⟨rfl, rfl, rfl, rfl⟩ := nx_inj h
        refine Sok.of rfl (fun p l e R s m args below meth c cells slots Q C hc hs k => ?_)
        exact fun H locs ls a b d => lv_l2i C.1 C.2.1 hd rfl (k H locs ls a b d)
      · cases h
    · replace h := ln_eq h
      obtain ⟨rfl, h⟩ := h
      split at h
      · obtain ⟨rfl, rfl, rfl, rfl⟩ := nx_inj h
        refine Sok.of rfl (fun p l e R s m args below meth c cells slots Q C hc hs k => ?_)
        exact fun H locs ls a b d => lv_lshl C.1 C.2.1 hd rfl (k H locs ls a b d)
      · cases h
    · replace h := ln_eq h
      obtain ⟨rfl, h⟩ := h
      split at h
      · obtain ⟨rfl, rfl, rfl, rfl⟩ := nx_inj h
        refine Sok.of rfl (fun p l e R s m args below meth c cells slots Q C hc hs k => ?_)
        exact fun H locs ls a b d => W.lcmp C.1 C.2.1 hd (k H locs ls a b d)
      · cases h
    · replace h := ln_eq h
      obtain ⟨rfl, h⟩ := h
      split at h
      · split at h
        · rename_i hcat
          obtain ⟨rfl, rfl, rfl, rfl⟩ := nx_inj h
          refine Sok.of rfl (fun p l e R s m args below meth c cells slots Q C hc hs k => ?_)
          exact fun H locs ls a b d => lv_dup C.1 C.2.1 hd (cat1_c (G := G) hcat) (k H locs ls a b d)
        · cases h
      · cases h
    · replace h := ln_eq h
      obtain ⟨rfl, h⟩ := h
      split at h
      · split at h
        · rename_i hcat
          obtain ⟨rfl, rfl, rfl, rfl⟩ := nx_inj h
          refine Sok.of rfl (fun p l e R s m args below meth c cells slots Q C hc hs k => ?_)
          exact fun H locs ls a b d => lv_dup2_11 C.1 C.2.1 hd (cat1_c (G := G) hcat.1) (cat1_c (G := G) hcat.2) (k H locs ls a b d)
        · cases h
      · cases h
    · replace h := ln_eq h
      obtain ⟨rfl, h⟩ := h
      split at h
      · split at h
        · rename_i hcat
          obtain ⟨rfl, rfl, rfl, rfl⟩ := nx_inj h
          refine Sok.of rfl (fun p l e R s m args below meth c cells slots Q C hc hs k => ?_)
          exact fun H locs ls a b d => lv_pop C.1 C.2.1 hd (cat1_c (G := G) hcat) (k H locs ls a b d)
        · cases h
      · cases h
    · replace h := ln_eq h
      obtain ⟨rfl, h⟩ := h
      refine Sok.of (w2_if _ _ _ _ _ _ h) (fun p l e R s m args below meth c cells slots Q C hc hs k => ?_)
      exact g_if (fun H locs ls rest x tgt ht k1 k2 => lv_if_eq C.1 C.2.1 hd ht (fun q => k1 (decide_eq_true q)) (fun q => k2 (decide_eq_false q))) h k
    · replace h := ln_eq h
      obtain ⟨rfl, h⟩ := h
      refine Sok.of (w2_if _ _ _ _ _ _ h) (fun p l e R s m args below meth c cells slots Q C hc hs k => ?_)
      exact g_if (fun H locs ls rest x tgt ht k1 k2 => lv_if_ne C.1 C.2.1 hd ht (fun q => k1 (decide_eq_true q)) (fun q => k2 (decide_eq_false (fun z => z q)))) h k
    · replace h := ln_eq h
      obtain ⟨rfl, h⟩ := h
      refine Sok.of (w2_if _ _ _ _ _ _ h) (fun p l e R s m args below meth c cells slots Q C hc hs k => ?_)
      exact g_if (fun H locs ls rest x tgt ht k1 k2 => lv_if_lt C.1 C.2.1 hd ht (fun q => k1 (decide_eq_true q)) (fun q => k2 (decide_eq_false q))) h k
    · replace h := ln_eq h
      obtain ⟨rfl, h⟩ := h
      refine Sok.of (w2_if _ _ _ _ _ _ h) (fun p l e R s m args below meth c cells slots Q C hc hs k => ?_)
      exact g_if (fun H locs ls rest x tgt ht k1 k2 => lv_if_ge C.1 C.2.1 hd ht (fun q => k1 (decide_eq_true q)) (fun q => k2 (decide_eq_false q))) h k
    · replace h := ln_eq h
      obtain ⟨rfl, h⟩ := h
      refine Sok.of (w2_if _ _ _ _ _ _ h) (fun p l e R s m args below meth c cells slots Q C hc hs k => ?_)
      exact g_if (fun H locs ls rest x tgt ht k1 k2 => lv_if_gt C.1 C.2.1 hd ht (fun q => k1 (decide_eq_true q)) (fun q => k2 (decide_eq_false q))) h k
    · replace h := ln_eq h
      obtain ⟨rfl, h⟩ := h
      refine Sok.of (w2_if _ _ _ _ _ _ h) (fun p l e R s m args below meth c cells slots Q C hc hs k => ?_)
      exact g_if (fun H locs ls rest x tgt ht k1 k2 => lv_if_le C.1 C.2.1 hd ht (fun q => k1 (decide_eq_true q)) (fun q => k2 (decide_eq_false q))) h k
    · replace h := ln_eq h
      obtain ⟨rfl, h⟩ := h
      refine Sok.of (w2_cmp _ _ _ _ _ _ h) (fun p l e R s m args below meth c cells slots Q C hc hs k => ?_)
      exact g_cmp (fun H locs ls rest x y tgt ht k1 k2 => lv_icmp_eq C.1 C.2.1 hd ht (fun q => k1 (decide_eq_true q)) (fun q => k2 (decide_eq_false q))) h k
    · replace h := ln_eq h
      obtain ⟨rfl, h⟩ := h
      refine Sok.of (w2_cmp _ _ _ _ _ _ h) (fun p l e R s m args below meth c cells slots Q C hc hs k => ?_)
      exact g_cmp (fun H locs ls rest x y tgt ht k1 k2 => lv_icmp_ne C.1 C.2.1 hd ht (fun q => k1 (decide_eq_true q)) (fun q => k2 (decide_eq_false (fun z => z q)))) h k
    · replace h := ln_eq h
      obtain ⟨rfl, h⟩ := h
      refine Sok.of (w2_cmp _ _ _ _ _ _ h) (fun p l e R s m args below meth c cells slots Q C hc hs k => ?_)
      exact g_cmp (fun H locs ls rest x y tgt ht k1 k2 => lv_icmp_lt C.1 C.2.1 hd ht (fun q => k1 (decide_eq_true q)) (fun q => k2 (decide_eq_false q))) h k
    · replace h := ln_eq h
      obtain ⟨rfl, h⟩ := h
      refine Sok.of (w2_cmp _ _ _ _ _ _ h) (fun p l e R s m args below meth c cells slots Q C hc hs k => ?_)
      exact g_cmp (fun H locs ls rest x y tgt ht k1 k2 => lv_icmp_ge C.1 C.2.1 hd ht (fun q => k1 (decide_eq_true q)) (fun q => k2 (decide_eq_false q))) h k
    · replace h := ln_eq h
      obtain ⟨rfl, h⟩ := h
      refine Sok.of (w2_cmp _ _ _ _ _ _ h) (fun p l e R s m args below meth c cells slots Q C hc hs k => ?_)
      exact g_cmp (fun H locs ls rest x y tgt ht k1 k2 => lv_icmp_gt C.1 C.2.1 hd ht (fun q => k1 (decide_eq_true q)) (fun q => k2 (decide_eq_false q))) h k
    · replace h := ln_eq h
      obtain ⟨rfl, h⟩ := h
      refine Sok.of (w2_cmp _ _ _ _ _ _ h) (fun p l e R s m args below meth c cells slots Q C hc hs k => ?_)
      exact g_cmp (fun H locs ls rest x y tgt ht k1 k2 => lv_icmp_le C.1 C.2.1 hd ht (fun q => k1 (decide_eq_true q)) (fun q => k2 (decide_eq_false q))) h k
    · replace h := ln_eq h
      obtain ⟨rfl, h⟩ := h
      refine Sok.of ?_ (fun p l e R s m args below meth c cells slots Q C hc hs k => g_goto C.1 C.2.1 hd h k)
      split at h
      · obtain ⟨-, -, -, rfl⟩ := nx_inj h; rfl
      · cases h
    · replace h := ln_eq h
      obtain ⟨rfl, h⟩ := h
      refine Sok.of (w2_null _ _ _ _ _ _ h) (fun p l e R s m args below meth c cells slots Q C hc hs k => ?_)
      exact g_null (b0 := true) C.1 C.2.1 hd h k
    · replace h := ln_eq h
      obtain ⟨rfl, h⟩ := h
      refine Sok.of (w2_null _ _ _ _ _ _ h) (fun p l e R s m args below meth c cells slots Q C hc hs k => ?_)
      exact g_null (b0 := false) C.1 C.2.1 hd h k
    · replace h := ln_eq h
      obtain ⟨rfl, h⟩ := h
      refine Sok.of (w2_get _ _ _ _ _ _ h) (fun p l e R s m args below meth c cells slots Q C hc hs k => ?_)
      exact g_get C hd h k
    · replace h := ln_eq h
      obtain ⟨rfl, h⟩ := h
      refine Sok.of (w2_put _ _ _ _ _ _ h) (fun p l e R s m args below meth c cells slots Q C hc hs k => ?_)
      exact g_put C hd h k
    · replace h := ln_eq h
      obtain ⟨rfl, h⟩ := h
      split at h
      · rename_i v hv
        obtain ⟨rfl, rfl, rfl, rfl⟩ := nx_inj h
        exact Sok.of rfl (fun p l e R s m args below meth c cells slots Q C hc hs k => g_sta C hd hv k)
      · cases h
    · replace h := ln_eq h
      obtain ⟨rfl, h⟩ := h
      split at h
      · rename_i v hv
        obtain ⟨rfl, rfl, rfl, rfl⟩ := nx_inj h
        exact Sok.of rfl (fun p l e R s m args below meth c cells slots Q C hc hs k => g_ldc C hd hv k)
      · rename_i a hv0 hv
        obtain ⟨rfl, rfl, rfl, rfl⟩ := nx_inj h
        exact Sok.of rfl (fun p l e R s m args below meth c cells slots Q C hc hs k => g_ldcS C hd hv k)
      · cases h
    · replace h := ln_eq h
      obtain ⟨rfl, h⟩ := h
      split at h
      · rename_i v hv
        obtain ⟨rfl, rfl, rfl, rfl⟩ := nx_inj h
        exact Sok.of rfl (fun p l e R s m args below meth c cells slots Q C hc hs k => g_ldcw C hd hv k)
      · cases h
    · replace h := ln_eq h
      obtain ⟨rfl, h⟩ := h
      split at h
      · rename_i v hv
        obtain ⟨rfl, rfl, rfl, rfl⟩ := nx_inj h
        exact Sok.of rfl (fun p l e R s m args below meth c cells slots Q C hc hs k => g_ldc2 C hd hv k)
      · cases h
    · replace h := ln_eq h
      obtain ⟨rfl, h⟩ := h
      refine Sok.of (w2_ald _ _ _ _ _ _ h) (fun p l e R s m args below meth c cells slots Q C hc hs k => ?_)
      exact g_iald C hd h k
    · replace h := ln_eq h
      obtain ⟨rfl, h⟩ := h
      refine Sok.of (w2_ald _ _ _ _ _ _ h) (fun p l e R s m args below meth c cells slots Q C hc hs k => ?_)
      exact g_bald C hd h k
    · replace h := ln_eq h
      obtain ⟨rfl, h⟩ := h
      refine Sok.of (w2_ald _ _ _ _ _ _ h) (fun p l e R s m args below meth c cells slots Q C hc hs k => ?_)
      exact g_cald C hd h k
    · replace h := ln_eq h
      obtain ⟨rfl, h⟩ := h
      refine Sok.of (w2_ald _ _ _ _ _ _ h) (fun p l e R s m args below meth c cells slots Q C hc hs k => ?_)
      exact g_lald C hd h k
    · replace h := ln_eq h
      obtain ⟨rfl, h⟩ := h
      refine Sok.of (w2_ald _ _ _ _ _ _ h) (fun p l e R s m args below meth c cells slots Q C hc hs k => ?_)
      exact g_aald C hd h k
    · replace h := ln_eq h
      obtain ⟨rfl, h⟩ := h
      refine Sok.of (w2_ast _ _ _ _ _ _ h) (fun p l e R s m args below meth c cells slots Q C hc hs k => ?_)
      exact g_ast (t := 0) (ty := .int) (nar := fun x => x) (by decide) rfl C.2.2.2.2.2.2.2.2.1 (fun H locs ls rest a cell j x h1 h2 h3 h4 kk => W.iast C.1 C.2.1 h1 h2 h3 h4 rfl rfl hd kk) h k
    · replace h := ln_eq h
      obtain ⟨rfl, h⟩ := h
      refine Sok.of (w2_bast _ _ _ _ h) (fun p l e R s m args below meth c cells slots Q C hc hs k => ?_)
      unfold s_bast at h
      split at h
      · split at h
        · exact g_ast (t := 1) (ty := .byte) (nar := vp_nar .byte) (by decide) rfl C.2.2.2.2.2.2.2.2.1 (fun H locs ls rest a cell j x h1 h2 h3 h4 kk => W.bast C.1 C.2.1 h1 h2 h3 h4 rfl rfl hd kk) h k
        · exact g_ast (t := 3) (ty := .boolean) (nar := vp_nar .boolean) (by decide) rfl C.2.2.2.2.2.2.2.2.1 (fun H locs ls rest a cell j x h1 h2 h3 h4 kk => W.zast C.1 C.2.1 h1 h2 h3 h4 rfl rfl hd kk) h k
      · cases h
    · replace h := ln_eq h
      obtain ⟨rfl, h⟩ := h
      refine Sok.of (w2_ast _ _ _ _ _ _ h) (fun p l e R s m args below meth c cells slots Q C hc hs k => ?_)
      exact g_ast (t := 2) (ty := .char) (nar := vp_nar .char) (by decide) rfl C.2.2.2.2.2.2.2.2.1 (fun H locs ls rest a cell j x h1 h2 h3 h4 kk => W.cast C.1 C.2.1 h1 h2 h3 h4 rfl rfl hd kk) h k
    · replace h := ln_eq h
      obtain ⟨rfl, h⟩ := h
      refine Sok.of (w2_last _ _ _ _ h) (fun p l e R s m args below meth c cells slots Q C hc hs k => ?_)
      exact g_last C hd h k
    · replace h := ln_eq h
      obtain ⟨rfl, h⟩ := h
      refine Sok.of (w2_aast _ _ _ _ h) (fun p l e R s m args below meth c cells slots Q C hc hs k => ?_)
      exact g_aast C hd h k
    · replace h := ln_eq h
      obtain ⟨rfl, h⟩ := h
      refine Sok.of (w2_alen _ _ _ _ h) (fun p l e R s m args below meth c cells slots Q C hc hs k => ?_)
      exact g_alen C hd h k
    · replace h := ln_eq h
      obtain ⟨rfl, h⟩ := h
      exact ⟨(m_newa h).1, (m_newa h).2, fun p l e R s m args below meth c cells slots Q C hc hs k => g_newa C hd h hc hs k⟩
    · replace h := ln_eq h
      obtain ⟨rfl, h⟩ := h
      exact ⟨(m_newq h).1, (m_newq h).2, fun p l e R s m args below meth c cells slots Q C hc hs k => g_newq C hd h hc hs k⟩
    · replace h := ln_eq h
      obtain ⟨rfl, h⟩ := h
      split at h
      · rename_i hd2
        subst hd2
        exact ⟨(m_newm h).1, (m_newm h).2, fun p l e R s m args below meth c cells slots Q C hc hs k => g_newm C hd h hc hs k⟩
      · cases h
    · replace h := ln_eq h
      obtain ⟨rfl, h⟩ := h
      exact ⟨(m_new h).1, (m_new h).2, fun p l e R s m args below meth c cells slots Q C hc hs k => g_new C hd h hc hs k⟩
    · exact Sok.of (w2_tsw _ _ _ _ _ _ _ _ h) (fun p l e R s m args below meth c cells slots Q C hc hs k => g_tsw C.1 C.2.1 hd h k)
    · exact Sok.of (w2_lsw _ _ _ _ _ _ h) (fun p l e R s m args below meth c cells slots Q C hc hs k => g_lsw C.1 C.2.1 hd h k)
    · replace h := ln_eq h
      obtain ⟨rfl, h⟩ := h
      split at h
      · rename_i hi
        exact ⟨(m_clone h).1, (m_clone h).2, fun p l e R s m args below meth c cells slots Q C hc hs k => g_clone C hd hi h hc hs k⟩
      · exact absurd h.symm (fun q => no_callV q)
    · replace h := ln_eq h
      obtain ⟨rfl, h⟩ := h
      split at h
      · rename_i hi
        split at h
        · split at h
          · rename_i hq
            obtain ⟨rfl, rfl, rfl, rfl⟩ := nx_inj h
            exact Sok.of rfl (fun p l e R s m args below meth c cells slots Q C hc hs k => g_obj C hd hi hq.1 hq.2 k)
          · cases h
        · cases h
      · exact absurd h.symm (fun q => no_callV q)
    · replace h := ln_eq h
      obtain ⟨rfl, h⟩ := h
      split at h
      · rename_i hi
        exact Sok.of (w2_copy _ _ _ _ _ h) (fun p l e R s m args below meth c cells slots Q C hc hs k => g_copy C hd hi h k)
      · split at h
        · rename_i hi
          exact Sok.of (w2_mm _ _ _ _ _ _ h) (fun p l e R s m args below meth c cells slots Q C hc hs k => g_max C hd hi h hc hs k)
        · split at h
          · rename_i hi
            exact Sok.of (w2_mm _ _ _ _ _ _ h) (fun p l e R s m args below meth c cells slots Q C hc hs k => g_min C hd hi h hc hs k)
          · exact absurd h.symm (fun q => no_callS q)
    · replace h := ln_eq h
      obtain ⟨rfl, h⟩ := h
      split at h
      · split at h
        · rename_i hq
          obtain ⟨rfl, rfl, rfl, rfl⟩ := nx_inj h
          exact Sok.of rfl (fun p l e R s m args below meth c cells slots Q C hc hs k => g_cast C hd hq.1 hq.2 k)
        · cases h
      · cases h
    · replace h := ln_eq h
      obtain ⟨rfl, h⟩ := h
      exact absurd h (no_iret)
    · replace h := ln_eq h
      obtain ⟨rfl, h⟩ := h
      exact absurd h (no_lret)
    · replace h := ln_eq h
      obtain ⟨rfl, h⟩ := h
      exact absurd h (no_aret)
    · replace h := ln_eq h
      obtain ⟨rfl, h⟩ := h
      exact absurd h (no_vret)
    · cases h
  · cases h
