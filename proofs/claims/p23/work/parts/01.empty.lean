/-! NO PROOF OF p23. Evidence that the printed statement is empty: its head asks the class file for the law's method without an exception table; the file has one with one entry. -/
theorem p23_file_denies : classFile.hasCode x code maxLocals ret = false := by decide +kernel
/-- the file's own table, and that the word which speaks of it would hold -/
theorem p23_file_table : classFile.hasCodeWith x code maxLocals ret [(520, 534, 537, 136)] = true := by decide +kernel
/-- no launch meets what the claim takes as given -/
theorem p23_no_launch (l : Launch) : ¬ Lists l classFile x code maxLocals ret tables_1 room_1 := by
  intro h
  have h1 := h.2.2.1.1 (x, code, maxLocals, ret) (List.mem_append_left _ (List.mem_append_left _ (List.mem_singleton.mpr rfl)))
  rw [h.2.1] at h1
  simp only [Option.any_some] at h1
  rw [p23_file_denies] at h1
  exact absurd h1 (by decide)
/-- so what is claimed follows without a word on the class (under another name than the owed one: it is no proof of the promise) -/
theorem p23_says_nothing : Claimed_1_1 ∧ Claimed_1_2 := ⟨fun l _ h _ => absurd h (p23_no_launch l), fun l _ h _ => absurd h (p23_no_launch l)⟩
/-- and the witness, a start that meets what is given, is false -/
theorem p23_no_witness : ¬ WitnessClaimed_1 := by
  rintro ⟨p, e, s, m, args, below, h⟩
  exact p23_no_launch launch0 h.1
