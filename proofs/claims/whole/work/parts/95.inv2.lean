/-! drop keeps what holds -/
theorem kU2 {K : aK} {c : aAc} {g : aF} (e : c.1 = 2) (hg : K.1[c.2.1]? = some g) : kUndo K c = (K.1.set c.2.1 (g.1, g.2.dropLast), K.2) := by
  unfold kUndo
  rw [if_neg (by rw [e]; decide), if_pos e, hg]
theorem kU3 {K : aK} {c : aAc} (h1 : ¬ c.1 = 1) (h2 : ¬ c.1 = 2) (m : Nat) : kUndo (K.1.take m, K.2) c = ((kUndo K c).1.take m, (kUndo K c).2) ∧ (kUndo K c).1 = K.1 := by
  unfold kUndo
  rw [if_neg h1, if_neg h2, if_neg h1, if_neg h2]
  by_cases h3 : c.1 = 3
  · rw [if_pos h3, if_pos h3]; exact ⟨rfl, rfl⟩
  rw [if_neg h3, if_neg h3]
  by_cases h4 : c.1 = 4
  · rw [if_pos h4, if_pos h4]; exact ⟨rfl, rfl⟩
  rw [if_neg h4, if_neg h4]
  by_cases h5 : c.1 = 5
  · rw [if_pos h5, if_pos h5]; exact ⟨rfl, rfl⟩
  rw [if_neg h5, if_neg h5]
  exact ⟨rfl, rfl⟩
theorem chn_drop {m : Nat} : ∀ {L : List aAc} {K : aK}, K.1.length ≤ m + 1 → chn L K → chn (L.filter (keepA m)) (K.1.take m, K.2) := by
  intro L
  induction L with
  | nil => intro K _ _; trivial
  | cons c t ih =>
    intro K hK h
    obtain ⟨hc, ht⟩ := h
    by_cases hk : keepA m c = true
    · rw [List.filter_cons_of_pos hk]
      have hk' : ¬ (c.1 < 3 ∧ c.2.1 = m) := by
        intro z
        unfold keepA at hk
        simp [z.1, z.2] at hk
      by_cases e1 : c.1 = 1
      · have h1 : c.2.1 + 1 = K.1.length := by
          rcases hc with ⟨_, h1⟩ | ⟨e, _⟩ | ⟨e, _⟩ | ⟨e, _⟩ | ⟨e, _⟩ | ⟨e, _⟩
          · exact h1
          all_goals (rw [e1] at e; exact absurd e (by decide))
        have hm : c.2.1 < m := by
          have : ¬ c.2.1 = m := fun z => hk' ⟨by omega, z⟩
          omega
        have eT : K.1.take m = K.1 := List.take_of_length_le (by omega)
        have eK : kUndo K c = (K.1.take c.2.1, K.2) := if_pos e1
        rw [eK] at ht
        have h2 := ih (K := (K.1.take c.2.1, K.2)) (by show (K.1.take c.2.1).length ≤ m + 1; rw [List.length_take]; omega) ht
        rw [eT]
        refine ⟨hc, ?_⟩
        rw [eK]
        have e3 : (K.1.take c.2.1).take m = K.1.take c.2.1 := List.take_of_length_le (by rw [List.length_take]; omega)
        have h3 : chn (t.filter (keepA m)) ((K.1.take c.2.1).take m, K.2) := h2
        rw [e3] at h3
        exact h3
      · by_cases e2 : c.1 = 2
        · obtain ⟨g, hg, hne⟩ : ∃ g, K.1[c.2.1]? = some g ∧ g.2 ≠ [] := by
            rcases hc with ⟨e, _⟩ | ⟨_, h1⟩ | ⟨e, _⟩ | ⟨e, _⟩ | ⟨e, _⟩ | ⟨e, _⟩
            · exact absurd e e1
            · exact h1
            all_goals (rw [e2] at e; exact absurd e (by decide))
          have hl := (List.getElem?_eq_some_iff.mp hg).1
          have hm : c.2.1 < m := by
            have : ¬ c.2.1 = m := fun z => hk' ⟨by omega, z⟩
            omega
          have hg' : (K.1.take m)[c.2.1]? = some g := by
            rw [List.getElem?_take_of_lt hm]
            exact hg
          rw [kU2 e2 hg] at ht
          have h2 := ih (K := (K.1.set c.2.1 (g.1, g.2.dropLast), K.2)) (by show (K.1.set _ _).length ≤ m + 1; rw [List.length_set]; exact hK) ht
          refine ⟨Or.inr (Or.inl ⟨e2, g, hg', hne⟩), ?_⟩
          rw [kU2 (K := (K.1.take m, K.2)) e2 hg']
          have h3 : chn (t.filter (keepA m)) ((K.1.set c.2.1 (g.1, g.2.dropLast)).take m, K.2) := h2
          rw [List.take_set] at h3
          exact h3
        · obtain ⟨q1, q2⟩ := kU3 (K := K) e1 e2 m
          have h2 := ih (K := kUndo K c) (by rw [q2]; exact hK) ht
          refine ⟨?_, ?_⟩
          · rcases hc with ⟨e, _⟩ | ⟨e, _⟩ | h | h | h | h
            · exact absurd e e1
            · exact absurd e e2
            · exact Or.inr (Or.inr (Or.inl h))
            · exact Or.inr (Or.inr (Or.inr (Or.inl h)))
            · exact Or.inr (Or.inr (Or.inr (Or.inr (Or.inl h))))
            · exact Or.inr (Or.inr (Or.inr (Or.inr (Or.inr h))))
          · rw [q1]
            exact h2
    · rw [List.filter_cons_of_neg hk]
      have hk' : c.1 < 3 ∧ c.2.1 = m := by
        unfold keepA at hk
        simp at hk
        exact hk
      by_cases e1 : c.1 = 1
      · have eK : kUndo K c = (K.1.take c.2.1, K.2) := if_pos e1
        rw [eK, hk'.2] at ht
        have h2 := ih (K := (K.1.take m, K.2)) (by show (K.1.take m).length ≤ m + 1; rw [List.length_take]; omega) ht
        have h3 : chn (t.filter (keepA m)) ((K.1.take m).take m, K.2) := h2
        rw [List.take_take, Nat.min_self] at h3
        exact h3
      · have e2 : c.1 = 2 := by
          rcases hc with ⟨e, _⟩ | ⟨e, _⟩ | ⟨e, _⟩ | ⟨e, _⟩ | ⟨e, _⟩ | ⟨e, _⟩
          · exact absurd e e1
          · exact e
          all_goals (rw [e] at hk'; exact absurd hk'.1 (by decide))
        obtain ⟨g, hg, hne⟩ : ∃ g, K.1[c.2.1]? = some g ∧ g.2 ≠ [] := by
          rcases hc with ⟨e, _⟩ | ⟨_, h1⟩ | ⟨e, _⟩ | ⟨e, _⟩ | ⟨e, _⟩ | ⟨e, _⟩
          · exact absurd e e1
          · exact h1
          all_goals (rw [e2] at e; exact absurd e (by decide))
        rw [kU2 e2 hg] at ht
        have h2 := ih (K := (K.1.set c.2.1 (g.1, g.2.dropLast), K.2)) (by show (K.1.set _ _).length ≤ m + 1; rw [List.length_set]; exact hK) ht
        have h3 : chn (t.filter (keepA m)) ((K.1.set c.2.1 (g.1, g.2.dropLast)).take m, K.2) := h2
        rw [List.take_set, hk'.2, List.set_eq_of_length_le (by rw [List.length_take]; omega)] at h3
        exact h3
theorem Inv.drop {A : aA} (h : Inv A) : Inv (sDrop A).2 := by
  unfold sDrop
  split
  · exact h
  · rename_i h0
    have eT : A.1.dropLast = A.1.take (A.1.length - 1) := List.dropLast_eq_take
    refine ⟨⟨⟨fun f g hf => ?_, ?_⟩, h.1.2⟩, ?_, ?_⟩
    · have hf' : A.1.dropLast[f]? = some g := hf
      rw [eT, List.getElem?_take] at hf'
      split at hf'
      · exact h.1.1.1 f g hf'
      · cases hf'
    · show A.1.dropLast.length ≤ 60
      rw [List.length_dropLast]
      have : A.1.length ≤ 60 := h.1.1.2
      omega
    · show chn (A.2.2.2.2.1.filter (keepA (A.1.length - 1))).reverse (A.1.dropLast, A.2.1, A.2.2.1, A.2.2.2.1)
      rw [← List.filter_reverse, eT]
      exact chn_drop (K := core A) (by show A.1.length ≤ _; omega) h.2.1
    · show (A.2.2.2.2.1.filter _).length ≤ 50
      exact Nat.le_trans (List.length_filter_le _ _) h.2.2
