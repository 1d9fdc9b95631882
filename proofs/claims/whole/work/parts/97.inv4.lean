/-! form, price, tell keep what holds -/
theorem Inv.form {A : aA} (h : Inv A) (w : Int32) : Inv (sForm A w).2 := by
  unfold sForm
  split
  · rename_i hw
    split
    · exact h
    · rename_i hl
      have h60 : A.1.length ≤ 60 := h.1.1.2
      exact h.addF (by omega) ⟨hw, Nat.zero_le _, fun k s hs => by simp at hs⟩
  · exact h
theorem Inv.sprice {A : aA} (h : Inv A) (k c : Int32) : Inv (sPrice A k c).2 := by
  unfold sPrice
  split
  · rename_i hc
    obtain ⟨j, hj, rfl⟩ := ixle 12 (by decide) hc.1.1 hc.1.2
    have h0 : ¬ c < 0 := by
      intro q
      refine hc.2.1 (Int32.lt_iff_toInt_lt.mpr ?_)
      have q1 := Int32.lt_iff_toInt_lt.mp q
      have e0 : (0 : Int32).toInt = 0 := by decide
      have e1 : (1 : Int32).toInt = 1 := by decide
      omega
    obtain ⟨p, hp, rfl⟩ := ixle 50 (by decide) h0 hc.2.2
    have h1 : 1 ≤ p := by
      rcases Nat.eq_zero_or_pos p with z | z
      · subst z
        exact absurd (show nI 0 < 1 by decide) hc.2.1
      · exact z
    rw [nI_clamp (by omega)]
    exact h.price (by omega) h1 hp
  · exact h
theorem Inv.stell {A : aA} (h : Inv A) (p : Int32) (v : Int64) : Inv (sTell A p v).2 := by
  unfold sTell
  split
  · rename_i hc
    obtain ⟨j, hj, rfl⟩ := ixle 3 (by decide) hc.1 hc.2
    rw [nI_clamp (by omega)]
    exact h.tell (by omega) v
  · exact h
theorem Inv.use {A : aA} (h : Inv A) (a how x y : Int32) : Inv (sUse A a how x y).2 := by
  unfold sUse
  split
  · rename_i hc
    unfold use1
    by_cases a1 : (A.2.2.2.1 a.toNatClampNeg).1 = 0
    · rw [if_pos a1]; exact h
    rw [if_neg a1]
    by_cases a2 : how = 10
    · rw [if_pos a2]; exact h
    rw [if_neg a2]
    by_cases a3 : ¬ (A.2.2.2.1 a.toNatClampNeg).1 = nd how
    · rw [if_pos a3]; exact h
    rw [if_neg a3]
    by_cases a4 : how = 0
    · rw [if_pos a4]; exact h
    rw [if_neg a4]
    by_cases a5 : how = 1
    · rw [if_pos a5]; exact h
    rw [if_neg a5]
    by_cases a6 : how = 9
    · rw [if_pos a6]; exact h
    rw [if_neg a6]
    by_cases a7 : ¬ inR (A.2.2.2.1 a.toNatClampNeg).2 x ∨ ((how = 7 ∨ how = 8) ∧ ¬ inR (A.2.2.2.1 a.toNatClampNeg).2 y)
    · rw [if_pos a7]; exact h
    rw [if_neg a7]
    by_cases a8 : how < 6
    · rw [if_pos a8]; exact h
    rw [if_neg a8]
    by_cases a9 : how = 6
    rotate_left
    · rw [if_neg a9]
      by_cases b1 : (A.2.2.2.1 a.toNatClampNeg).2.getD y.toNatClampNeg 0 = 0
      · rw [if_pos b1]; exact h
      rw [if_neg b1]
      by_cases b2 : how = 7
      · rw [if_pos b2]; exact h
      rw [if_neg b2]
      exact h
    rw [if_pos a9]
    obtain ⟨j, hj, rfl⟩ := nI_of hc.1.1
    have hj8 : j < 8 := (nI_ltI (b := 8) hj (by decide)).mp hc.1.2
    have hcl : (nI j).toNatClampNeg = j := nI_clamp hj
    rw [hcl] at a3 a7 ⊢
    have hin : inR (A.2.2.2.1 j).2 x := Classical.not_not.mp (fun z => a7 (Or.inl z))
    have h12 := (h.1.2.2 j hj8).2
    have h12' : (A.2.2.2.1 j).2.length ≤ 12 := h12
    obtain ⟨i, hi, rfl⟩ := nI_of hin.1
    have hil : i < (A.2.2.2.1 j).2.length := (nI_ltI hi (by omega)).mp hin.2
    have h1 : ¬ (A.2.2.2.1 j).1 = 1 := by
      rw [Classical.not_not.mp a3, a9]
      decide
    rw [nI_clamp hi]
    exact h.cell hj8 hil h1 y.toInt64
  · exact h
