/-! the reference begins as the class does -/
theorem RepM_0 : RepM mS0 A0 := by
  refine ⟨⟨rfl, Nat.zero_le _, fun f g hg => by simp [A0] at hg⟩, fun k _ => rfl, fun k _ => rfl, fun h _ => ⟨rfl, rfl, Nat.zero_le _, fun i v hv => by simp [A0] at hv⟩, ⟨rfl, Nat.zero_le _, fun j a ha => by simp [A0] at ha⟩, rfl, Nat.zero_le _⟩
