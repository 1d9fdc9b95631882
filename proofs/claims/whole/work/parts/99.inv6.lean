/-! step keeps what holds -/
theorem ylt {y : Int64} {n : Nat} (h0 : ¬ y < 0) (hn : n < 2 ^ 31) : (y < (nI n).toInt64 ↔ uN y < n) ∧ ((nI n).toInt64 < y ↔ n < uN y) := by
  have h1 : ¬ 9223372036854775808 ≤ uN y := fun z => h0 (neg_N.mpr z)
  have e1 : y.toInt = (uN y : Int) := lz_uN (by omega)
  have e2 : ((nI n).toInt64).toInt = (n : Int) := by
    rw [nI_l hn, lz_uN (by rw [uN_lN (by omega)]; omega), uN_lN (by omega)]
  rw [Int64.lt_iff_toInt_lt, Int64.lt_iff_toInt_lt, e1, e2]
  omega
theorem wfF_step {g : aF} (hg : wfF g) (hl : g.2.length < 12) {k x : Int32} {y : Int64} (h : okStep g k x y) : wfF (g.1, g.2 ++ [(k, x, aY k y g.1)]) := by
  obtain ⟨⟨a1, a2⟩, ⟨b1, b2⟩, c1, d1⟩ := h
  obtain ⟨N, hN, hw⟩ := isW_N hg.1
  have hN64 : N ≤ 64 := by omega
  refine ⟨hg.1, by show (g.2 ++ [_]).length ≤ 12; rw [List.length_append]; exact hl, fun i s hs => ?_⟩
  have hs' : (g.2 ++ [(k, x, aY k y g.1)])[i]? = some s := hs
  by_cases e : i < g.2.length
  · rw [List.getElem?_append_left e] at hs'
    exact hg.2.2 i s hs'
  · have hi : i = g.2.length := by
      have := (List.getElem?_eq_some_iff.mp hs').1
      simp at this
      omega
    subst hi
    simp at hs'
    subst hs'
    obtain ⟨c, hc, rfl⟩ := ixle 12 (by decide) a1 (Int32.not_lt.mp a2)
    obtain ⟨x', hx', rfl⟩ := nI_of b1
    refine ⟨⟨c, hc, rfl⟩, ⟨x', (nI_leI hx' (by omega)).mp b2, rfl⟩, fun ho => ?_, fun ht => ?_, fun ho ht => ?_⟩
    · have q := c1 ho
      refine ⟨uN y, Nat.not_lt.mp (fun z => q.2 ((ylt q.1 (by omega)).2.mpr z)), ?_⟩
      show aY (nI c) y g.1 = _
      rw [aY, if_pos (Or.inl ho), lN_uN]
    · have q := d1 ht
      rw [hw] at q
      have hy := (ylt q.1 (show N < 2 ^ 31 by omega)).1.mp q.2
      refine ⟨uN y, by show nI (uN y) < g.1; rw [hw]; exact nI_lt hy (by omega), by omega, ?_⟩
      show aY (nI c) y g.1 = _
      rw [aY, if_pos (Or.inr ht), lN_uN]
    · show mLow (aY (nI c) y g.1) g.1 = aY (nI c) y g.1
      rw [aY, if_neg (fun z => z.elim ho ht), hw]
      exact mLow_id hN (mLow_lt _ hN)
theorem Inv.sstep {A : aA} (h : Inv A) (f k x : Int32) (y : Int64) : Inv (sStep A f k x y).2 := by
  unfold sStep
  rcases aForm_cases A h.1.1.2 f with ⟨hh, hn⟩ | ⟨i, g, hi, rfl, hg, ha⟩
  · rw [hn]
    exact h
  · rw [ha]
    dsimp only
    by_cases ho : okStep g k x y
    · rw [if_pos ho]
      by_cases hl : g.2.length = 12
      · rw [if_pos hl]
        exact h
      · rw [if_neg hl]
        have h12 : g.2.length ≤ 12 := (h.wf i g hg).2.1
        have h60 : A.1.length ≤ 60 := h.1.1.2
        rw [nI_clamp (by omega)]
        exact h.step hg (wfF_step (h.wf i g hg) (by omega) ho)
    · rw [if_neg ho]
      exact h
