/-! THE START: class and model hold the empty state -/
def S00 : ST5 := ([], [], fun _ => (-1, 0, fun _ => 0), 0, [])
theorem inv_start : INV S00 (hp st_XI (fun _ _ => 0) (fun _ _ => none) .null (fun _ => 0) st_MA (fun _ _ => 0) []) [] := by
  refine ⟨_, _, _, _, _, _, _, fun _ => none, rfl, ?_, ?_, Or.inl rfl, ?_⟩
  · refine ⟨rfl, rfl, rfl, rfl, ?_, ?_, ?_, ?_, ?_⟩
    · intro s q h; simp [S00] at h
    · intro r q h; simp [S00] at h
    · intro k hk
      match k, hk with
      | 0, _ => exact ⟨rfl, rfl, fun _ _ => rfl⟩
      | 1, _ => exact ⟨rfl, rfl, fun _ _ => rfl⟩
      | 2, _ => exact ⟨rfl, rfl, fun _ _ => rfl⟩
      | 3, _ => exact ⟨rfl, rfl, fun _ _ => rfl⟩
    · intro i x h; simp [S00] at h
    · intro p g h; cases h
  · refine ⟨rfl, rfl, rfl, rfl, ?_, ?_, ?_, ?_⟩
    · intro s q h; simp [S00] at h
    · intro r q h; simp [S00] at h
    · intro k hk
      match k, hk with
      | 0, _ => exact ⟨rfl, rfl, fun _ _ => rfl⟩
      | 1, _ => exact ⟨rfl, rfl, fun _ _ => rfl⟩
      | 2, _ => exact ⟨rfl, rfl, fun _ _ => rfl⟩
      | 3, _ => exact ⟨rfl, rfl, fun _ _ => rfl⟩
    · intro i x h; simp [S00] at h
  · refine ⟨by decide, by decide, ?_, ?_, ?_, by decide, by decide, by decide⟩
    · intro q h; simp [S00] at h
    · intro r h; simp [S00] at h
    · intro k hk
      exact ⟨by show (-1 : Int) ≤ -1; decide, by show (-1 : Int) ≤ 2; decide, by show (0 : Int) ≤ 0; decide, by show (0 : Int) ≤ 40; decide, fun _ => rfl, fun i _ => ⟨by show (-100 : Int) ≤ 0; decide, by show (0 : Int) ≤ 100; decide⟩⟩
