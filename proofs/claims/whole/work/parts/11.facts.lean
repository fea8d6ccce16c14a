/-! facts of the classes, by the kernel. Written by wip/whole/gen.py. -/
set_option maxRecDepth 100000 in
set_option maxHeartbeats 4000000 in
theorem en_cf0 : en_CF 0 ("EvenSteps$Circle", en_T0, 8) en_t0 := ⟨by decide +kernel, by decide +kernel, by decide +kernel, by decide +kernel, by decide +kernel, by decide +kernel, by decide +kernel⟩
set_option maxRecDepth 100000 in
set_option maxHeartbeats 4000000 in
theorem en_cf1 : en_CF 1 ("EvenSteps$Cut", en_T1, 11) en_t1 := ⟨by decide +kernel, by decide +kernel, by decide +kernel, by decide +kernel, by decide +kernel, by decide +kernel, by decide +kernel⟩
set_option maxRecDepth 100000 in
set_option maxHeartbeats 4000000 in
theorem en_cf2 : en_CF 2 ("EvenSteps$Even", en_T2, 6) en_t2 := ⟨by decide +kernel, by decide +kernel, by decide +kernel, by decide +kernel, by decide +kernel, by decide +kernel, by decide +kernel⟩
set_option maxRecDepth 100000 in
set_option maxHeartbeats 4000000 in
theorem en_cf3 : en_CF 3 ("EvenSteps$Points", en_T3, 6) en_t3 := ⟨by decide +kernel, by decide +kernel, by decide +kernel, by decide +kernel, by decide +kernel, by decide +kernel, by decide +kernel⟩
set_option maxRecDepth 100000 in
set_option maxHeartbeats 4000000 in
theorem en_cf4 : en_CF 4 ("EvenSteps$Ring", en_T4, 6) en_t4 := ⟨by decide +kernel, by decide +kernel, by decide +kernel, by decide +kernel, by decide +kernel, by decide +kernel, by decide +kernel⟩
set_option maxRecDepth 100000 in
set_option maxHeartbeats 4000000 in
theorem en_cf5 : en_CF 5 ("EvenSteps$Sheet", en_T5, 3) en_t5 := ⟨by decide +kernel, by decide +kernel, by decide +kernel, by decide +kernel, by decide +kernel, by decide +kernel, by decide +kernel⟩
set_option maxRecDepth 100000 in
set_option maxHeartbeats 4000000 in
theorem en_cf6 : en_CF 6 ("EvenSteps$Slope", en_T6, 8) en_t6 := ⟨by decide +kernel, by decide +kernel, by decide +kernel, by decide +kernel, by decide +kernel, by decide +kernel, by decide +kernel⟩
set_option maxRecDepth 100000 in
set_option maxHeartbeats 4000000 in
theorem en_cf7 : en_CF 7 ("EvenSteps$Stretch", en_T7, 11) en_t7 := ⟨by decide +kernel, by decide +kernel, by decide +kernel, by decide +kernel, by decide +kernel, by decide +kernel, by decide +kernel⟩
set_option maxRecDepth 100000 in
set_option maxHeartbeats 4000000 in
theorem en_cf8 : en_CF 8 ("EvenSteps$Told", en_T8, 3) en_t8 := ⟨by decide +kernel, by decide +kernel, by decide +kernel, by decide +kernel, by decide +kernel, by decide +kernel, by decide +kernel⟩
set_option maxRecDepth 100000 in
set_option maxHeartbeats 4000000 in
theorem en_cf9 : en_CF 9 ("EvenSteps$Trace", en_T9, 2) en_t9 := ⟨by decide +kernel, by decide +kernel, by decide +kernel, by decide +kernel, by decide +kernel, by decide +kernel, by decide +kernel⟩
set_option maxRecDepth 100000 in
set_option maxHeartbeats 4000000 in
theorem en_cf10 : en_CF 10 ("EvenSteps", en_T10, 11) en_t10 := ⟨by decide +kernel, by decide +kernel, by decide +kernel, by decide +kernel, by decide +kernel, by decide +kernel, by decide +kernel⟩
set_option maxRecDepth 100000 in
set_option maxHeartbeats 4000000 in
theorem en_cf11 : en_CF 11 ("EvenStepsModel", en_T11, 33) en_t11 := ⟨by decide +kernel, by decide +kernel, by decide +kernel, by decide +kernel, by decide +kernel, by decide +kernel, by decide +kernel⟩
theorem en_cok : ∀ (ci : Nat) (q : vw_C), en_cs[ci]? = some q → ∃ ty, en_CF ci q ty
  | 0, _, h => by cases h; exact ⟨_, en_cf0⟩
  | 1, _, h => by cases h; exact ⟨_, en_cf1⟩
  | 2, _, h => by cases h; exact ⟨_, en_cf2⟩
  | 3, _, h => by cases h; exact ⟨_, en_cf3⟩
  | 4, _, h => by cases h; exact ⟨_, en_cf4⟩
  | 5, _, h => by cases h; exact ⟨_, en_cf5⟩
  | 6, _, h => by cases h; exact ⟨_, en_cf6⟩
  | 7, _, h => by cases h; exact ⟨_, en_cf7⟩
  | 8, _, h => by cases h; exact ⟨_, en_cf8⟩
  | 9, _, h => by cases h; exact ⟨_, en_cf9⟩
  | 10, _, h => by cases h; exact ⟨_, en_cf10⟩
  | 11, _, h => by cases h; exact ⟨_, en_cf11⟩
  | n + 12, _, h => by simp [en_cs] at h
theorem en_df_rv (b B0 : Nat) : ∀ ci : Nat, (en_df ci).map (en_rv b B0) = en_df ci
  | 0 => rfl
  | 1 => rfl
  | 2 => rfl
  | 3 => rfl
  | 4 => rfl
  | 5 => rfl
  | 6 => rfl
  | 7 => rfl
  | 8 => rfl
  | 9 => rfl
  | 10 => rfl
  | 11 => rfl
  | _ + 12 => rfl
theorem en_asok : ∀ (t : Nat) (q : Nat × Nat), q ∈ en_as t → t < 3 ∧ ∃ r, en_cs[q.1]? = some r ∧ (r.1 = en_el t ∨ Cond.castable r.1 (en_el t) ∈ en_nwl)
  | 0, q, h => ⟨by decide, by
      simp only [en_as, List.mem_cons, List.not_mem_nil, or_false] at h
      rcases h with rfl
      exact ⟨_, rfl, Or.inl rfl⟩⟩
  | 1, q, h => ⟨by decide, by
      simp only [en_as, List.mem_cons, List.not_mem_nil, or_false] at h
      rcases h with rfl | rfl | rfl | rfl | rfl
      · exact ⟨_, rfl, Or.inr (by decide +kernel)⟩
      · exact ⟨_, rfl, Or.inr (by decide +kernel)⟩
      · exact ⟨_, rfl, Or.inr (by decide +kernel)⟩
      · exact ⟨_, rfl, Or.inr (by decide +kernel)⟩
      · exact ⟨_, rfl, Or.inr (by decide +kernel)⟩⟩
  | 2, q, h => ⟨by decide, by
      simp only [en_as, List.mem_cons, List.not_mem_nil, or_false] at h
      rcases h with rfl
      exact ⟨_, rfl, Or.inl rfl⟩⟩
  | n + 3, q, h => by simp [en_as] at h
