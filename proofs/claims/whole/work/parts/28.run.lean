theorem rt_inj {v v' : Option Value} {w w' : Wd} (h : rt v w = rt v' w') : v = v' ∧ w = w' := by
  unfold rt at h
  injection h with h
  injection h with h
  injection h with h
  injection h with h1 h2
  exact ⟨h1, h2⟩
theorem rt_ca {v : Option Value} {w : Wd} {a' : Nat} {b' : Md} {d' : List Value} {f' : Nat} {g' : List Value} (h : rt v w = ca a' b' d' f' g') : False := by
  unfold rt ca at h
  injection h with h
  injection h with h
  cases h
set_option maxHeartbeats 4000000 in
theorem stp_rt {r : Nat} {md : Md} {pc : Nat} {L st : List Value} {w : Wd} {v : Option Value} {w' : Wd} (h : stp r md pc L st w = rt v w') : w' = w ∧ RetAt md pc v ∧ ∀ G : Gl, st.map (shv G) = vst G v := by
  unfold stp at h
  split at h
  · rename_i i len hd
    unfold stpI at h
    split at h
    · replace h := ln_eq h
      obtain ⟨rfl, h⟩ := h
      repeat' split at h
      all_goals first | (cases h; done) | exact (nx_rt h.symm).elim
    · replace h := ln_eq h
      obtain ⟨rfl, h⟩ := h
      repeat' split at h
      all_goals first | (cases h; done) | exact (nx_rt h.symm).elim
    · replace h := ln_eq h
      obtain ⟨rfl, h⟩ := h
      repeat' split at h
      all_goals first | (cases h; done) | exact (nx_rt h.symm).elim
    · replace h := ln_eq h
      obtain ⟨rfl, h⟩ := h
      repeat' split at h
      all_goals first | (cases h; done) | exact (nx_rt h.symm).elim
    · replace h := ln_eq h
      obtain ⟨rfl, h⟩ := h
      unfold s_load at h
      repeat' split at h
      all_goals first | (cases h; done) | exact (nx_rt h.symm).elim
    · replace h := ln_eq h
      obtain ⟨rfl, h⟩ := h
      unfold s_load at h
      repeat' split at h
      all_goals first | (cases h; done) | exact (nx_rt h.symm).elim
    · replace h := ln_eq h
      obtain ⟨rfl, h⟩ := h
      unfold s_aload at h
      repeat' split at h
      all_goals first | (cases h; done) | exact (nx_rt h.symm).elim
    · replace h := ln_eq h
      obtain ⟨rfl, h⟩ := h
      unfold s_aload at h
      repeat' split at h
      all_goals first | (cases h; done) | exact (nx_rt h.symm).elim
    · replace h := ln_eq h
      obtain ⟨rfl, h⟩ := h
      unfold s_lload at h
      repeat' split at h
      all_goals first | (cases h; done) | exact (nx_rt h.symm).elim
    · replace h := ln_eq h
      obtain ⟨rfl, h⟩ := h
      unfold s_store at h
      repeat' split at h
      all_goals first | (cases h; done) | exact (nx_rt h.symm).elim
    · replace h := ln_eq h
      obtain ⟨rfl, h⟩ := h
      unfold s_store at h
      repeat' split at h
      all_goals first | (cases h; done) | exact (nx_rt h.symm).elim
    · replace h := ln_eq h
      obtain ⟨rfl, h⟩ := h
      unfold s_astore at h
      repeat' split at h
      all_goals first | (cases h; done) | exact (nx_rt h.symm).elim
    · replace h := ln_eq h
      obtain ⟨rfl, h⟩ := h
      unfold s_astore at h
      repeat' split at h
      all_goals first | (cases h; done) | exact (nx_rt h.symm).elim
    · replace h := ln_eq h
      obtain ⟨rfl, h⟩ := h
      unfold s_iinc at h
      repeat' split at h
      all_goals first | (cases h; done) | exact (nx_rt h.symm).elim
    · replace h := ln_eq h
      obtain ⟨rfl, h⟩ := h
      unfold s_bin at h
      repeat' split at h
      all_goals first | (cases h; done) | exact (nx_rt h.symm).elim
    · replace h := ln_eq h
      obtain ⟨rfl, h⟩ := h
      unfold s_bin at h
      repeat' split at h
      all_goals first | (cases h; done) | exact (nx_rt h.symm).elim
    · replace h := ln_eq h
      obtain ⟨rfl, h⟩ := h
      unfold s_bin at h
      repeat' split at h
      all_goals first | (cases h; done) | exact (nx_rt h.symm).elim
    · replace h := ln_eq h
      obtain ⟨rfl, h⟩ := h
      unfold s_bin at h
      repeat' split at h
      all_goals first | (cases h; done) | exact (nx_rt h.symm).elim
    · replace h := ln_eq h
      obtain ⟨rfl, h⟩ := h
      unfold s_bin at h
      repeat' split at h
      all_goals first | (cases h; done) | exact (nx_rt h.symm).elim
    · replace h := ln_eq h
      obtain ⟨rfl, h⟩ := h
      unfold s_bin at h
      repeat' split at h
      all_goals first | (cases h; done) | exact (nx_rt h.symm).elim
    · replace h := ln_eq h
      obtain ⟨rfl, h⟩ := h
      unfold s_bin at h
      repeat' split at h
      all_goals first | (cases h; done) | exact (nx_rt h.symm).elim
    · replace h := ln_eq h
      obtain ⟨rfl, h⟩ := h
      unfold s_bin at h
      repeat' split at h
      all_goals first | (cases h; done) | exact (nx_rt h.symm).elim
    · replace h := ln_eq h
      obtain ⟨rfl, h⟩ := h
      unfold s_bin at h
      repeat' split at h
      all_goals first | (cases h; done) | exact (nx_rt h.symm).elim
    · replace h := ln_eq h
      obtain ⟨rfl, h⟩ := h
      unfold s_div at h
      repeat' split at h
      all_goals first | (cases h; done) | exact (nx_rt h.symm).elim
    · replace h := ln_eq h
      obtain ⟨rfl, h⟩ := h
      unfold s_div at h
      repeat' split at h
      all_goals first | (cases h; done) | exact (nx_rt h.symm).elim
    · replace h := ln_eq h
      obtain ⟨rfl, h⟩ := h
      unfold s_un at h
      repeat' split at h
      all_goals first | (cases h; done) | exact (nx_rt h.symm).elim
    · replace h := ln_eq h
      obtain ⟨rfl, h⟩ := h
      unfold s_un at h
      repeat' split at h
      all_goals first | (cases h; done) | exact (nx_rt h.symm).elim
    · replace h := ln_eq h
      obtain ⟨rfl, h⟩ := h
      unfold s_un at h
      repeat' split at h
      all_goals first | (cases h; done) | exact (nx_rt h.symm).elim
    · replace h := ln_eq h
      obtain ⟨rfl, h⟩ := h
      unfold s_un at h
      repeat' split at h
      all_goals first | (cases h; done) | exact (nx_rt h.symm).elim
    · replace h := ln_eq h
      obtain ⟨rfl, h⟩ := h
      unfold s_bil at h
      repeat' split at h
      all_goals first | (cases h; done) | exact (nx_rt h.symm).elim
    · replace h := ln_eq h
      obtain ⟨rfl, h⟩ := h
      unfold s_bil at h
      repeat' split at h
      all_goals first | (cases h; done) | exact (nx_rt h.symm).elim
    · replace h := ln_eq h
      obtain ⟨rfl, h⟩ := h
      repeat' split at h
      all_goals first | (cases h; done) | exact (nx_rt h.symm).elim
    · replace h := ln_eq h
      obtain ⟨rfl, h⟩ := h
      repeat' split at h
      all_goals first | (cases h; done) | exact (nx_rt h.symm).elim
    · replace h := ln_eq h
      obtain ⟨rfl, h⟩ := h
      repeat' split at h
      all_goals first | (cases h; done) | exact (nx_rt h.symm).elim
    · replace h := ln_eq h
      obtain ⟨rfl, h⟩ := h
      repeat' split at h
      all_goals first | (cases h; done) | exact (nx_rt h.symm).elim
    · replace h := ln_eq h
      obtain ⟨rfl, h⟩ := h
      repeat' split at h
      all_goals first | (cases h; done) | exact (nx_rt h.symm).elim
    · replace h := ln_eq h
      obtain ⟨rfl, h⟩ := h
      repeat' split at h
      all_goals first | (cases h; done) | exact (nx_rt h.symm).elim
    · replace h := ln_eq h
      obtain ⟨rfl, h⟩ := h
      repeat' split at h
      all_goals first | (cases h; done) | exact (nx_rt h.symm).elim
    · replace h := ln_eq h
      obtain ⟨rfl, h⟩ := h
      unfold s_if at h
      repeat' split at h
      all_goals first | (cases h; done) | exact (nx_rt h.symm).elim
    · replace h := ln_eq h
      obtain ⟨rfl, h⟩ := h
      unfold s_if at h
      repeat' split at h
      all_goals first | (cases h; done) | exact (nx_rt h.symm).elim
    · replace h := ln_eq h
      obtain ⟨rfl, h⟩ := h
      unfold s_if at h
      repeat' split at h
      all_goals first | (cases h; done) | exact (nx_rt h.symm).elim
    · replace h := ln_eq h
      obtain ⟨rfl, h⟩ := h
      unfold s_if at h
      repeat' split at h
      all_goals first | (cases h; done) | exact (nx_rt h.symm).elim
    · replace h := ln_eq h
      obtain ⟨rfl, h⟩ := h
      unfold s_if at h
      repeat' split at h
      all_goals first | (cases h; done) | exact (nx_rt h.symm).elim
    · replace h := ln_eq h
      obtain ⟨rfl, h⟩ := h
      unfold s_if at h
      repeat' split at h
      all_goals first | (cases h; done) | exact (nx_rt h.symm).elim
    · replace h := ln_eq h
      obtain ⟨rfl, h⟩ := h
      unfold s_cmp at h
      repeat' split at h
      all_goals first | (cases h; done) | exact (nx_rt h.symm).elim
    · replace h := ln_eq h
      obtain ⟨rfl, h⟩ := h
      unfold s_cmp at h
      repeat' split at h
      all_goals first | (cases h; done) | exact (nx_rt h.symm).elim
    · replace h := ln_eq h
      obtain ⟨rfl, h⟩ := h
      unfold s_cmp at h
      repeat' split at h
      all_goals first | (cases h; done) | exact (nx_rt h.symm).elim
    · replace h := ln_eq h
      obtain ⟨rfl, h⟩ := h
      unfold s_cmp at h
      repeat' split at h
      all_goals first | (cases h; done) | exact (nx_rt h.symm).elim
    · replace h := ln_eq h
      obtain ⟨rfl, h⟩ := h
      unfold s_cmp at h
      repeat' split at h
      all_goals first | (cases h; done) | exact (nx_rt h.symm).elim
    · replace h := ln_eq h
      obtain ⟨rfl, h⟩ := h
      unfold s_cmp at h
      repeat' split at h
      all_goals first | (cases h; done) | exact (nx_rt h.symm).elim
    · replace h := ln_eq h
      obtain ⟨rfl, h⟩ := h
      repeat' split at h
      all_goals first | (cases h; done) | exact (nx_rt h.symm).elim
    · replace h := ln_eq h
      obtain ⟨rfl, h⟩ := h
      unfold s_null at h
      repeat' split at h
      all_goals first | (cases h; done) | exact (nx_rt h.symm).elim
    · replace h := ln_eq h
      obtain ⟨rfl, h⟩ := h
      unfold s_null at h
      repeat' split at h
      all_goals first | (cases h; done) | exact (nx_rt h.symm).elim
    · replace h := ln_eq h
      obtain ⟨rfl, h⟩ := h
      unfold s_get at h
      repeat' split at h
      all_goals first | (cases h; done) | exact (nx_rt h.symm).elim
    · replace h := ln_eq h
      obtain ⟨rfl, h⟩ := h
      unfold s_put at h
      repeat' split at h
      all_goals first | (cases h; done) | exact (nx_rt h.symm).elim
    · replace h := ln_eq h
      obtain ⟨rfl, h⟩ := h
      repeat' split at h
      all_goals first | (cases h; done) | exact (nx_rt h.symm).elim
    · replace h := ln_eq h
      obtain ⟨rfl, h⟩ := h
      repeat' split at h
      all_goals first | (cases h; done) | exact (nx_rt h.symm).elim
    · replace h := ln_eq h
      obtain ⟨rfl, h⟩ := h
      repeat' split at h
      all_goals first | (cases h; done) | exact (nx_rt h.symm).elim
    · replace h := ln_eq h
      obtain ⟨rfl, h⟩ := h
      repeat' split at h
      all_goals first | (cases h; done) | exact (nx_rt h.symm).elim
    · replace h := ln_eq h
      obtain ⟨rfl, h⟩ := h
      unfold s_ald at h
      repeat' split at h
      all_goals first | (cases h; done) | exact (nx_rt h.symm).elim
    · replace h := ln_eq h
      obtain ⟨rfl, h⟩ := h
      unfold s_ald at h
      repeat' split at h
      all_goals first | (cases h; done) | exact (nx_rt h.symm).elim
    · replace h := ln_eq h
      obtain ⟨rfl, h⟩ := h
      unfold s_ald at h
      repeat' split at h
      all_goals first | (cases h; done) | exact (nx_rt h.symm).elim
    · replace h := ln_eq h
      obtain ⟨rfl, h⟩ := h
      unfold s_ald at h
      repeat' split at h
      all_goals first | (cases h; done) | exact (nx_rt h.symm).elim
    · replace h := ln_eq h
      obtain ⟨rfl, h⟩ := h
      unfold s_ald at h
      repeat' split at h
      all_goals first | (cases h; done) | exact (nx_rt h.symm).elim
    · replace h := ln_eq h
      obtain ⟨rfl, h⟩ := h
      unfold s_ast at h
      repeat' split at h
      all_goals first | (cases h; done) | exact (nx_rt h.symm).elim
    · replace h := ln_eq h
      obtain ⟨rfl, h⟩ := h
      unfold s_bast s_ast at h
      repeat' split at h
      all_goals first | (cases h; done) | exact (nx_rt h.symm).elim
    · replace h := ln_eq h
      obtain ⟨rfl, h⟩ := h
      unfold s_ast at h
      repeat' split at h
      all_goals first | (cases h; done) | exact (nx_rt h.symm).elim
    · replace h := ln_eq h
      obtain ⟨rfl, h⟩ := h
      unfold s_last at h
      repeat' split at h
      all_goals first | (cases h; done) | exact (nx_rt h.symm).elim
    · replace h := ln_eq h
      obtain ⟨rfl, h⟩ := h
      unfold s_aast at h
      repeat' split at h
      all_goals first | (cases h; done) | exact (nx_rt h.symm).elim
    · replace h := ln_eq h
      obtain ⟨rfl, h⟩ := h
      unfold s_alen at h
      repeat' split at h
      all_goals first | (cases h; done) | exact (nx_rt h.symm).elim
    · replace h := ln_eq h
      obtain ⟨rfl, h⟩ := h
      unfold s_newa at h
      repeat' split at h
      all_goals first | (cases h; done) | exact (nx_rt h.symm).elim
    · replace h := ln_eq h
      obtain ⟨rfl, h⟩ := h
      unfold s_newq at h
      repeat' split at h
      all_goals first | (cases h; done) | exact (nx_rt h.symm).elim
    · replace h := ln_eq h
      obtain ⟨rfl, h⟩ := h
      unfold s_newm at h
      repeat' split at h
      all_goals first | (cases h; done) | exact (nx_rt h.symm).elim
    · replace h := ln_eq h
      obtain ⟨rfl, h⟩ := h
      unfold s_new at h
      repeat' split at h
      all_goals first | (cases h; done) | exact (nx_rt h.symm).elim
    · unfold s_tsw at h
      repeat' split at h
      all_goals first | (cases h; done) | exact (nx_rt h.symm).elim
    · unfold s_lsw at h
      repeat' split at h
      all_goals first | (cases h; done) | exact (nx_rt h.symm).elim
    · replace h := ln_eq h
      obtain ⟨rfl, h⟩ := h
      unfold s_clone s_callV at h
      repeat' split at h
      all_goals first | (cases h; done) | exact (nx_rt h.symm).elim | exact (rt_ca h.symm).elim
    · replace h := ln_eq h
      obtain ⟨rfl, h⟩ := h
      unfold s_callV at h
      repeat' split at h
      all_goals first | (cases h; done) | exact (nx_rt h.symm).elim | exact (rt_ca h.symm).elim
    · replace h := ln_eq h
      obtain ⟨rfl, h⟩ := h
      unfold s_copy s_mm s_callS at h
      repeat' split at h
      all_goals first | (cases h; done) | exact (nx_rt h.symm).elim | exact (rt_ca h.symm).elim
    · replace h := ln_eq h
      obtain ⟨rfl, h⟩ := h
      repeat' split at h
      all_goals first | (cases h; done) | exact (nx_rt h.symm).elim
    · replace h := ln_eq h
      obtain ⟨rfl, h⟩ := h
      unfold s_iret at h
      split at h
      · rename_i x ty ht
        split at h
        · rename_i hn
          obtain ⟨rfl, rfl⟩ := rt_inj h
          exact ⟨rfl, ⟨hd, ty, ht, hn⟩, fun _ => rfl⟩
        · cases h
      · cases h
    · replace h := ln_eq h
      obtain ⟨rfl, h⟩ := h
      unfold s_lret at h
      split at h
      · split at h
        · rename_i hn
          obtain ⟨rfl, rfl⟩ := rt_inj h
          exact ⟨rfl, ⟨hd, hn⟩, fun _ => rfl⟩
        · cases h
      · cases h
    · replace h := ln_eq h
      obtain ⟨rfl, h⟩ := h
      unfold s_aret at h
      split at h
      · split at h
        · rename_i hn
          obtain ⟨rfl, rfl⟩ := rt_inj h
          exact ⟨rfl, ⟨hd, hn⟩, fun _ => rfl⟩
        · cases h
      · cases h
    · replace h := ln_eq h
      obtain ⟨rfl, h⟩ := h
      unfold s_vret at h
      split at h
      · split at h
        · rename_i hn
          obtain ⟨rfl, rfl⟩ := rt_inj h
          exact ⟨rfl, ⟨hd, hn⟩, fun _ => rfl⟩
        · cases h
      · cases h
    · cases h
  · cases h
/-- a call -/
def Cok (G : Gl) (r : Nat) (md : Md) (pc : Nat) (L st : List Value) (w : Wd) (r' : Nat) (md' : Md) (as : List Value) (pc' : Nat) (st' : List Value) : Prop :=
  ∀ o : Ot, Ev G r' md' 0 (ent md'.2.2.2.1 as) [] w o → ∀ (p : Program) (l : Launch) (e : Env) (R : Room) (s : State) (m : MethodId) (args : Array Value) (below : List Frame) (meth : Method) (c : Code) (cells slots : Nat) (Q : State → Prop), Cx G p R s m args meth c md r → cells + (o.2.2.1 - w.2.1) ≤ R.cells → slots + (o.2.2.2 - w.2.2) ≤ R.slots →
    Wg G p l e R s m args below meth c md pc' L (st2 o.1 st') o.2 (cells + (o.2.2.1 - w.2.1)) (slots + (o.2.2.2 - w.2.2)) Q → Wg G p l e R s m args below meth c md pc L st w cells slots Q
set_option maxHeartbeats 4000000 in
theorem stp_ca {G : Gl} {r : Nat} {md : Md} {pc : Nat} {L st : List Value} {w : Wd} {r' : Nat} {md' : Md} {as : List Value} {pc' : Nat} {st' : List Value} (h : stp r md pc L st w = ca r' md' as pc' st') : Cok G r md pc L st w r' md' as pc' st' := by
  unfold stp at h
  split at h
  · rename_i i len hd
    unfold stpI at h
    split at h
    · replace h := ln_eq h
      obtain ⟨rfl, h⟩ := h
      repeat' split at h
      all_goals first | (cases h; done) | exact (nx_ca h).elim | exact (rt_ca h).elim
    · replace h := ln_eq h
      obtain ⟨rfl, h⟩ := h
      repeat' split at h
      all_goals first | (cases h; done) | exact (nx_ca h).elim | exact (rt_ca h).elim
    · replace h := ln_eq h
      obtain ⟨rfl, h⟩ := h
      repeat' split at h
      all_goals first | (cases h; done) | exact (nx_ca h).elim | exact (rt_ca h).elim
    · replace h := ln_eq h
      obtain ⟨rfl, h⟩ := h
      repeat' split at h
      all_goals first | (cases h; done) | exact (nx_ca h).elim | exact (rt_ca h).elim
    · replace h := ln_eq h
      obtain ⟨rfl, h⟩ := h
      unfold s_load at h
      repeat' split at h
      all_goals first | (cases h; done) | exact (nx_ca h).elim | exact (rt_ca h).elim
    · replace h := ln_eq h
      obtain ⟨rfl, h⟩ := h
      unfold s_load at h
      repeat' split at h
      all_goals first | (cases h; done) | exact (nx_ca h).elim | exact (rt_ca h).elim
    · replace h := ln_eq h
      obtain ⟨rfl, h⟩ := h
      unfold s_aload at h
      repeat' split at h
      all_goals first | (cases h; done) | exact (nx_ca h).elim | exact (rt_ca h).elim
    · replace h := ln_eq h
      obtain ⟨rfl, h⟩ := h
      unfold s_aload at h
      repeat' split at h
      all_goals first | (cases h; done) | exact (nx_ca h).elim | exact (rt_ca h).elim
    · replace h := ln_eq h
      obtain ⟨rfl, h⟩ := h
      unfold s_lload at h
      repeat' split at h
      all_goals first | (cases h; done) | exact (nx_ca h).elim | exact (rt_ca h).elim
    · replace h := ln_eq h
      obtain ⟨rfl, h⟩ := h
      unfold s_store at h
      repeat' split at h
      all_goals first | (cases h; done) | exact (nx_ca h).elim | exact (rt_ca h).elim
    · replace h := ln_eq h
      obtain ⟨rfl, h⟩ := h
      unfold s_store at h
      repeat' split at h
      all_goals first | (cases h; done) | exact (nx_ca h).elim | exact (rt_ca h).elim
    · replace h := ln_eq h
      obtain ⟨rfl, h⟩ := h
      unfold s_astore at h
      repeat' split at h
      all_goals first | (cases h; done) | exact (nx_ca h).elim | exact (rt_ca h).elim
    · replace h := ln_eq h
      obtain ⟨rfl, h⟩ := h
      unfold s_astore at h
      repeat' split at h
      all_goals first | (cases h; done) | exact (nx_ca h).elim | exact (rt_ca h).elim
    · replace h := ln_eq h
      obtain ⟨rfl, h⟩ := h
      unfold s_iinc at h
      repeat' split at h
      all_goals first | (cases h; done) | exact (nx_ca h).elim | exact (rt_ca h).elim
    · replace h := ln_eq h
      obtain ⟨rfl, h⟩ := h
      unfold s_bin at h
      repeat' split at h
      all_goals first | (cases h; done) | exact (nx_ca h).elim | exact (rt_ca h).elim
    · replace h := ln_eq h
      obtain ⟨rfl, h⟩ := h
      unfold s_bin at h
      repeat' split at h
      all_goals first | (cases h; done) | exact (nx_ca h).elim | exact (rt_ca h).elim
    · replace h := ln_eq h
      obtain ⟨rfl, h⟩ := h
      unfold s_bin at h
      repeat' split at h
      all_goals first | (cases h; done) | exact (nx_ca h).elim | exact (rt_ca h).elim
    · replace h := ln_eq h
      obtain ⟨rfl, h⟩ := h
      unfold s_bin at h
      repeat' split at h
      all_goals first | (cases h; done) | exact (nx_ca h).elim | exact (rt_ca h).elim
    · replace h := ln_eq h
      obtain ⟨rfl, h⟩ := h
      unfold s_bin at h
      repeat' split at h
      all_goals first | (cases h; done) | exact (nx_ca h).elim | exact (rt_ca h).elim
    · replace h := ln_eq h
      obtain ⟨rfl, h⟩ := h
      unfold s_bin at h
      repeat' split at h
      all_goals first | (cases h; done) | exact (nx_ca h).elim | exact (rt_ca h).elim
    · replace h := ln_eq h
      obtain ⟨rfl, h⟩ := h
      unfold s_bin at h
      repeat' split at h
      all_goals first | (cases h; done) | exact (nx_ca h).elim | exact (rt_ca h).elim
    · replace h := ln_eq h
      obtain ⟨rfl, h⟩ := h
      unfold s_bin at h
      repeat' split at h
      all_goals first | (cases h; done) | exact (nx_ca h).elim | exact (rt_ca h).elim
    · replace h := ln_eq h
      obtain ⟨rfl, h⟩ := h
      unfold s_bin at h
      repeat' split at h
      all_goals first | (cases h; done) | exact (nx_ca h).elim | exact (rt_ca h).elim
    · replace h := ln_eq h
      obtain ⟨rfl, h⟩ := h
      unfold s_div at h
      repeat' split at h
      all_goals first | (cases h; done) | exact (nx_ca h).elim | exact (rt_ca h).elim
    · replace h := ln_eq h
      obtain ⟨rfl, h⟩ := h
      unfold s_div at h
      repeat' split at h
      all_goals first | (cases h; done) | exact (nx_ca h).elim | exact (rt_ca h).elim
    · replace h := ln_eq h
      obtain ⟨rfl, h⟩ := h
      unfold s_un at h
      repeat' split at h
      all_goals first | (cases h; done) | exact (nx_ca h).elim | exact (rt_ca h).elim
    · replace h := ln_eq h
      obtain ⟨rfl, h⟩ := h
      unfold s_un at h
      repeat' split at h
      all_goals first | (cases h; done) | exact (nx_ca h).elim | exact (rt_ca h).elim
    · replace h := ln_eq h
      obtain ⟨rfl, h⟩ := h
      unfold s_un at h
      repeat' split at h
      all_goals first | (cases h; done) | exact (nx_ca h).elim | exact (rt_ca h).elim
    · replace h := ln_eq h
      obtain ⟨rfl, h⟩ := h
      unfold s_un at h
      repeat' split at h
      all_goals first | (cases h; done) | exact (nx_ca h).elim | exact (rt_ca h).elim
    · replace h := ln_eq h
      obtain ⟨rfl, h⟩ := h
      unfold s_bil at h
      repeat' split at h
      all_goals first | (cases h; done) | exact (nx_ca h).elim | exact (rt_ca h).elim
    · replace h := ln_eq h
      obtain ⟨rfl, h⟩ := h
      unfold s_bil at h
      repeat' split at h
      all_goals first | (cases h; done) | exact (nx_ca h).elim | exact (rt_ca h).elim
    · replace h := ln_eq h
      obtain ⟨rfl, h⟩ := h
      repeat' split at h
      all_goals first | (cases h; done) | exact (nx_ca h).elim | exact (rt_ca h).elim
    · replace h := ln_eq h
      obtain ⟨rfl, h⟩ := h
      repeat' split at h
      all_goals first | (cases h; done) | exact (nx_ca h).elim | exact (rt_ca h).elim
    · replace h := ln_eq h
      obtain ⟨rfl, h⟩ := h
      repeat' split at h
      all_goals first | (cases h; done) | exact (nx_ca h).elim | exact (rt_ca h).elim
    · replace h := ln_eq h
      obtain ⟨rfl, h⟩ := h
      repeat' split at h
      all_goals first | (cases h; done) | exact (nx_ca h).elim | exact (rt_ca h).elim
    · replace h := ln_eq h
      obtain ⟨rfl, h⟩ := h
      repeat' split at h
      all_goals first | (cases h; done) | exact (nx_ca h).elim | exact (rt_ca h).elim
    · replace h := ln_eq h
      obtain ⟨rfl, h⟩ := h
      repeat' split at h
      all_goals first | (cases h; done) | exact (nx_ca h).elim | exact (rt_ca h).elim
    · replace h := ln_eq h
      obtain ⟨rfl, h⟩ := h
      repeat' split at h
      all_goals first | (cases h; done) | exact (nx_ca h).elim | exact (rt_ca h).elim
    · replace h := ln_eq h
      obtain ⟨rfl, h⟩ := h
      unfold s_if at h
      repeat' split at h
      all_goals first | (cases h; done) | exact (nx_ca h).elim | exact (rt_ca h).elim
    · replace h := ln_eq h
      obtain ⟨rfl, h⟩ := h
      unfold s_if at h
      repeat' split at h
      all_goals first | (cases h; done) | exact (nx_ca h).elim | exact (rt_ca h).elim
    · replace h := ln_eq h
      obtain ⟨rfl, h⟩ := h
      unfold s_if at h
      repeat' split at h
      all_goals first | (cases h; done) | exact (nx_ca h).elim | exact (rt_ca h).elim
    · replace h := ln_eq h
      obtain ⟨rfl, h⟩ := h
      unfold s_if at h
      repeat' split at h
      all_goals first | (cases h; done) | exact (nx_ca h).elim | exact (rt_ca h).elim
    · replace h := ln_eq h
      obtain ⟨rfl, h⟩ := h
      unfold s_if at h
      repeat' split at h
      all_goals first | (cases h; done) | exact (nx_ca h).elim | exact (rt_ca h).elim
    · replace h := ln_eq h
      obtain ⟨rfl, h⟩ := h
      unfold s_if at h
      repeat' split at h
      all_goals first | (cases h; done) | exact (nx_ca h).elim | exact (rt_ca h).elim
    · replace h := ln_eq h
      obtain ⟨rfl, h⟩ := h
      unfold s_cmp at h
      repeat' split at h
      all_goals first | (cases h; done) | exact (nx_ca h).elim | exact (rt_ca h).elim
    · replace h := ln_eq h
      obtain ⟨rfl, h⟩ := h
      unfold s_cmp at h
      repeat' split at h
      all_goals first | (cases h; done) | exact (nx_ca h).elim | exact (rt_ca h).elim
    · replace h := ln_eq h
      obtain ⟨rfl, h⟩ := h
      unfold s_cmp at h
      repeat' split at h
      all_goals first | (cases h; done) | exact (nx_ca h).elim | exact (rt_ca h).elim
    · replace h := ln_eq h
      obtain ⟨rfl, h⟩ := h
      unfold s_cmp at h
      repeat' split at h
      all_goals first | (cases h; done) | exact (nx_ca h).elim | exact (rt_ca h).elim
    · replace h := ln_eq h
      obtain ⟨rfl, h⟩ := h
      unfold s_cmp at h
      repeat' split at h
      all_goals first | (cases h; done) | exact (nx_ca h).elim | exact (rt_ca h).elim
    · replace h := ln_eq h
      obtain ⟨rfl, h⟩ := h
      unfold s_cmp at h
      repeat' split at h
      all_goals first | (cases h; done) | exact (nx_ca h).elim | exact (rt_ca h).elim
    · replace h := ln_eq h
      obtain ⟨rfl, h⟩ := h
      repeat' split at h
      all_goals first | (cases h; done) | exact (nx_ca h).elim | exact (rt_ca h).elim
    · replace h := ln_eq h
      obtain ⟨rfl, h⟩ := h
      unfold s_null at h
      repeat' split at h
      all_goals first | (cases h; done) | exact (nx_ca h).elim | exact (rt_ca h).elim
    · replace h := ln_eq h
      obtain ⟨rfl, h⟩ := h
      unfold s_null at h
      repeat' split at h
      all_goals first | (cases h; done) | exact (nx_ca h).elim | exact (rt_ca h).elim
    · replace h := ln_eq h
      obtain ⟨rfl, h⟩ := h
      unfold s_get at h
      repeat' split at h
      all_goals first | (cases h; done) | exact (nx_ca h).elim | exact (rt_ca h).elim
    · replace h := ln_eq h
      obtain ⟨rfl, h⟩ := h
      unfold s_put at h
      repeat' split at h
      all_goals first | (cases h; done) | exact (nx_ca h).elim | exact (rt_ca h).elim
    · replace h := ln_eq h
      obtain ⟨rfl, h⟩ := h
      repeat' split at h
      all_goals first | (cases h; done) | exact (nx_ca h).elim | exact (rt_ca h).elim
    · replace h := ln_eq h
      obtain ⟨rfl, h⟩ := h
      repeat' split at h
      all_goals first | (cases h; done) | exact (nx_ca h).elim | exact (rt_ca h).elim
    · replace h := ln_eq h
      obtain ⟨rfl, h⟩ := h
      repeat' split at h
      all_goals first | (cases h; done) | exact (nx_ca h).elim | exact (rt_ca h).elim
    · replace h := ln_eq h
      obtain ⟨rfl, h⟩ := h
      repeat' split at h
      all_goals first | (cases h; done) | exact (nx_ca h).elim | exact (rt_ca h).elim
    · replace h := ln_eq h
      obtain ⟨rfl, h⟩ := h
      unfold s_ald at h
      repeat' split at h
      all_goals first | (cases h; done) | exact (nx_ca h).elim | exact (rt_ca h).elim
    · replace h := ln_eq h
      obtain ⟨rfl, h⟩ := h
      unfold s_ald at h
      repeat' split at h
      all_goals first | (cases h; done) | exact (nx_ca h).elim | exact (rt_ca h).elim
    · replace h := ln_eq h
      obtain ⟨rfl, h⟩ := h
      unfold s_ald at h
      repeat' split at h
      all_goals first | (cases h; done) | exact (nx_ca h).elim | exact (rt_ca h).elim
    · replace h := ln_eq h
      obtain ⟨rfl, h⟩ := h
      unfold s_ald at h
      repeat' split at h
      all_goals first | (cases h; done) | exact (nx_ca h).elim | exact (rt_ca h).elim
    · replace h := ln_eq h
      obtain ⟨rfl, h⟩ := h
      unfold s_ald at h
      repeat' split at h
      all_goals first | (cases h; done) | exact (nx_ca h).elim | exact (rt_ca h).elim
    · replace h := ln_eq h
      obtain ⟨rfl, h⟩ := h
      unfold s_ast at h
      repeat' split at h
      all_goals first | (cases h; done) | exact (nx_ca h).elim | exact (rt_ca h).elim
    · replace h := ln_eq h
      obtain ⟨rfl, h⟩ := h
      unfold s_bast s_ast at h
      repeat' split at h
      all_goals first | (cases h; done) | exact (nx_ca h).elim | exact (rt_ca h).elim
    · replace h := ln_eq h
      obtain ⟨rfl, h⟩ := h
      unfold s_ast at h
      repeat' split at h
      all_goals first | (cases h; done) | exact (nx_ca h).elim | exact (rt_ca h).elim
    · replace h := ln_eq h
      obtain ⟨rfl, h⟩ := h
      unfold s_last at h
      repeat' split at h
      all_goals first | (cases h; done) | exact (nx_ca h).elim | exact (rt_ca h).elim
    · replace h := ln_eq h
      obtain ⟨rfl, h⟩ := h
      unfold s_aast at h
      repeat' split at h
      all_goals first | (cases h; done) | exact (nx_ca h).elim | exact (rt_ca h).elim
    · replace h := ln_eq h
      obtain ⟨rfl, h⟩ := h
      unfold s_alen at h
      repeat' split at h
      all_goals first | (cases h; done) | exact (nx_ca h).elim | exact (rt_ca h).elim
    · replace h := ln_eq h
      obtain ⟨rfl, h⟩ := h
      unfold s_newa at h
      repeat' split at h
      all_goals first | (cases h; done) | exact (nx_ca h).elim | exact (rt_ca h).elim
    · replace h := ln_eq h
      obtain ⟨rfl, h⟩ := h
      unfold s_newq at h
      repeat' split at h
      all_goals first | (cases h; done) | exact (nx_ca h).elim | exact (rt_ca h).elim
    · replace h := ln_eq h
      obtain ⟨rfl, h⟩ := h
      unfold s_newm at h
      repeat' split at h
      all_goals first | (cases h; done) | exact (nx_ca h).elim | exact (rt_ca h).elim
    · replace h := ln_eq h
      obtain ⟨rfl, h⟩ := h
      unfold s_new at h
      repeat' split at h
      all_goals first | (cases h; done) | exact (nx_ca h).elim | exact (rt_ca h).elim
    · unfold s_tsw at h
      repeat' split at h
      all_goals first | (cases h; done) | exact (nx_ca h).elim | exact (rt_ca h).elim
    · unfold s_lsw at h
      repeat' split at h
      all_goals first | (cases h; done) | exact (nx_ca h).elim | exact (rt_ca h).elim
    · replace h := ln_eq h
      obtain ⟨rfl, h⟩ := h
      split at h
      · unfold s_clone at h
        repeat' split at h
        all_goals first | (cases h; done) | exact (nx_ca h).elim | exact (rt_ca h).elim
      · exact fun o hE p l e R s m args below meth c cells slots Q C hc hs k => g_callV (lo := 0) (hi := 2) (Or.inl ⟨rfl, rfl⟩) C hd h hE hc hs k
    · replace h := ln_eq h
      obtain ⟨rfl, h⟩ := h
      split at h
      · repeat' split at h
        all_goals first | (cases h; done) | exact (nx_ca h).elim | exact (rt_ca h).elim
      · exact fun o hE p l e R s m args below meth c cells slots Q C hc hs k => g_callV (lo := 4) (hi := 6) (Or.inr ⟨rfl, rfl⟩) C hd h hE hc hs k
    · replace h := ln_eq h
      obtain ⟨rfl, h⟩ := h
      split at h
      · unfold s_copy at h
        repeat' split at h
        all_goals first | (cases h; done) | exact (nx_ca h).elim | exact (rt_ca h).elim
      · split at h
        · unfold s_mm at h
          repeat' split at h
          all_goals first | (cases h; done) | exact (nx_ca h).elim | exact (rt_ca h).elim
        · split at h
          · unfold s_mm at h
            repeat' split at h
            all_goals first | (cases h; done) | exact (nx_ca h).elim | exact (rt_ca h).elim
          · exact fun o hE p l e R s m args below meth c cells slots Q C hc hs k => g_callS C hd h hE hc hs k
    · replace h := ln_eq h
      obtain ⟨rfl, h⟩ := h
      repeat' split at h
      all_goals first | (cases h; done) | exact (nx_ca h).elim | exact (rt_ca h).elim
    · replace h := ln_eq h
      obtain ⟨rfl, h⟩ := h
      unfold s_iret at h
      repeat' split at h
      all_goals first | (cases h; done) | exact (nx_ca h).elim | exact (rt_ca h).elim
    · replace h := ln_eq h
      obtain ⟨rfl, h⟩ := h
      unfold s_lret at h
      repeat' split at h
      all_goals first | (cases h; done) | exact (nx_ca h).elim | exact (rt_ca h).elim
    · replace h := ln_eq h
      obtain ⟨rfl, h⟩ := h
      unfold s_aret at h
      repeat' split at h
      all_goals first | (cases h; done) | exact (nx_ca h).elim | exact (rt_ca h).elim
    · replace h := ln_eq h
      obtain ⟨rfl, h⟩ := h
      unfold s_vret at h
      repeat' split at h
      all_goals first | (cases h; done) | exact (nx_ca h).elim | exact (rt_ca h).elim
    · cases h
  · cases h
theorem Ev.next {G : Gl} {r : Nat} {md : Md} {pc : Nat} {L st : List Value} {w : Wd} {pc' : Nat} {L' st' : List Value} {w' : Wd} {o : Ot} (hs : Sok G r md pc L st w pc' L' st' w') (h : Ev G r md pc' L' st' w' o) : Ev G r md pc L st w o := by
  obtain ⟨s1, s2, s3⟩ := hs
  obtain ⟨h1, h2, h3⟩ := h
  refine ⟨Nat.le_trans s1 h1, Nat.le_trans s2 h2, fun p l e R s m args below meth c cells slots Q C hc hs hend => ?_⟩
  refine s3 p l e R s m args below meth c cells slots Q C (by omega) (by omega) (h3 p l e R s m args below meth c _ _ Q C (by omega) (by omega) ?_)
  rw [show cells + (w'.2.1 - w.2.1) + (o.2.2.1 - w'.2.1) = cells + (o.2.2.1 - w.2.1) by omega, show slots + (w'.2.2 - w.2.2) + (o.2.2.2 - w'.2.2) = slots + (o.2.2.2 - w.2.2) by omega]
  exact hend
theorem ex_Ev (G : Gl) : ∀ (f r : Nat) (md : Md) (pc : Nat) (L st : List Value) (w : Wd) (o : Ot), ex f r md pc L st w = some o → Ev G r md pc L st w o := by
  intro f
  induction f with
  | zero => intro r md pc L st w o h; simp [ex] at h
  | succ f ih =>
    intro r md pc L st w o h
    rw [ex] at h
    cases hs : stp r md pc L st w with
    | none => rw [hs] at h; simp at h
    | some a =>
      rw [hs] at h
      obtain ⟨pc', L', st', w'⟩ | o' | ⟨r', md', as, pc', st'⟩ := a
      · exact Ev.next (stp_nx hs) (ih _ _ _ _ _ _ _ h)
      · cases h
        obtain ⟨v, w'⟩ := o
        obtain ⟨rfl, hR, hv⟩ := stp_rt (v := v) (w' := w') hs
        refine ⟨Nat.le_refl _, Nat.le_refl _, fun p l e R s m args below meth c cells slots Q C hc hz hend => ?_⟩
        intro H locs ls a1 b1 d1
        have := hend pc ls H locs hR b1 d1
        simp only [Nat.sub_self, Nat.add_zero] at this
        rw [hv G]
        exact this
      · simp only at h
        cases he : ex f r' md' 0 (ent md'.2.2.2.1 as) [] w with
        | none => rw [he] at h; simp at h
        | some q =>
          rw [he] at h
          obtain ⟨v, w'⟩ := q
          have hE := ih _ _ _ _ _ _ _ he
          have hN := ih _ _ _ _ _ _ _ h
          have hC := stp_ca (G := G) hs
          obtain ⟨e1, e2, e3⟩ := id hE
          obtain ⟨n1, n2, n3⟩ := hN
          simp only at e1 e2 n1 n2
          refine ⟨Nat.le_trans e1 n1, Nat.le_trans e2 n2, fun p l e R s m args below meth c cells slots Q C hc hz hend => ?_⟩
          refine hC (v, w') hE p l e R s m args below meth c cells slots Q C (by show cells + (w'.2.1 - w.2.1) ≤ _; omega) (by show slots + (w'.2.2 - w.2.2) ≤ _; omega) (n3 p l e R s m args below meth c _ _ Q C ?_ ?_ ?_)
          · show cells + (w'.2.1 - w.2.1) + (o.2.2.1 - w'.2.1) ≤ _; omega
          · show slots + (w'.2.2 - w.2.2) + (o.2.2.2 - w'.2.2) ≤ _; omega
          · show ∀ (pc' : Nat) (ls' : Array Slot) (H' : Heap) (locs' : List Loc), RetAt md pc' o.1 → HpG G o.2.1 o.2.2.1 H' → va_S (gA G) s.heap H' locs' → W p l e R s m args below meth c H' locs' (cells + (w'.2.1 - w.2.1) + (o.2.2.1 - w'.2.1)) (slots + (w'.2.2 - w.2.2) + (o.2.2.2 - w'.2.2)) Q (F0 m pc' ls' (vst G o.1))
            rw [show cells + (w'.2.1 - w.2.1) + (o.2.2.1 - w'.2.1) = cells + (o.2.2.1 - w.2.1) by omega, show slots + (w'.2.2 - w.2.2) + (o.2.2.2 - w'.2.2) = slots + (o.2.2.2 - w.2.2) by omega]
            exact hend
/-- SOUND: what the pure machine ends with, the JVM comes to -/
theorem E_Ev (G : Gl) {r : Nat} {md : Md} {pc : Nat} {L st : List Value} {w : Wd} {o : Ot} (h : E r md pc L st w = some o) : Ev G r md pc L st w o := by
  obtain ⟨f, hf⟩ := E_iff.mp h
  exact ex_Ev G f _ _ _ _ _ _ _ hf
