/-! hook keeps what holds -/
theorem Inv.shook {A : aA} (h : Inv A) (a kind f k : Int32) : Inv (sHook A a kind f k).2 := by
  unfold sHook
  by_cases hc : (¬ a < 0 ∧ a < 8) ∧ ¬ kind < 0 ∧ kind ≤ 5
  · rw [if_pos hc]
    obtain ⟨j, hj, rfl⟩ := nI_of hc.1.1
    have hj8 : j < 8 := (nI_ltI (b := 8) hj (by decide)).mp hc.1.2
    rw [nI_clamp hj]
    by_cases h0 : kind ≤ 0
    · rw [if_pos h0]
      exact h.hook hj8 ⟨fun z => absurd (show (1 : Int32) ≤ 0 by rw [← show kind = 1 from z]; exact h0) (by decide), Nat.zero_le _⟩
    · rw [if_neg h0]
      rcases aForm_cases A h.1.1.2 f with ⟨hh, hn⟩ | ⟨i, g, hi, rfl, hg, ha⟩
      · rw [hn]
        exact h
      · rw [ha]
        show Inv (if (¬ k < 0 ∧ ¬ nI g.2.length < k) ∧ ¬ (kind = 1 ∧ k = nI g.2.length) then _ else _ : Int32 × aA).2
        by_cases hk : (¬ k < 0 ∧ ¬ nI g.2.length < k) ∧ ¬ (kind = 1 ∧ k = nI g.2.length)
        · rw [if_pos hk]
          have h12 : g.2.length ≤ 12 := (h.wf i g hg).2.1
          obtain ⟨m, hm, rfl⟩ := nI_of hk.1.1
          have hml : m ≤ g.2.length := Nat.not_lt.mp (fun z => hk.1.2 (nI_lt z hm))
          refine h.hook hj8 ⟨fun z => ?_, ?_⟩
          · have z' : kind = 1 := z
            show (if kind = 1 then _ else _ : List Int64).length = 2
            rw [if_pos z', nI_clamp hm]
            have hlt : m < g.2.length := by
              have : ¬ m = g.2.length := fun e => hk.2 ⟨z', by rw [e]⟩
              omega
            rw [List.getElem?_eq_getElem hlt]
            rfl
          · show (if kind = 1 then _ else _ : List Int64).length ≤ 12
            by_cases z' : kind = 1
            · rw [if_pos z']
              split
              · show 2 ≤ 12
                decide
              · exact Nat.zero_le _
            · rw [if_neg z', nI_clamp hm]
              unfold aRow
              rw [List.length_map, List.length_range]
              omega
        · rw [if_neg hk]
          exact h
  · rw [if_neg hc]
    exact h
