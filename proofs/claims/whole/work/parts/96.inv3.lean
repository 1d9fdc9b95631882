/-! bounds of the acts; the LEAST's form is well made -/
theorem kU_len (K : aK) (c : aAc) : (kUndo K c).1.length ≤ K.1.length := by
  by_cases h1 : c.1 = 1
  · have eK : kUndo K c = (K.1.take c.2.1, K.2) := if_pos h1
    rw [eK]
    show (K.1.take c.2.1).length ≤ _
    rw [List.length_take]
    omega
  · by_cases h2 : c.1 = 2
    · cases hg : K.1[c.2.1]? with
      | some g =>
        rw [kU2 h2 hg]
        show (K.1.set _ _).length ≤ _
        rw [List.length_set]
        exact Nat.le_refl _
      | none =>
        have eK : kUndo K c = K := by
          unfold kUndo
          rw [if_neg h1, if_pos h2, hg]
        rw [eK]
        exact Nat.le_refl _
    · rw [(kU3 (K := K) h1 h2 0).2]
      exact Nat.le_refl _
theorem chn_bd : ∀ {L : List aAc} {K : aK}, K.1.length ≤ 60 → chn L K → ∀ c ∈ L, 1 ≤ c.1 ∧ c.1 ≤ 6 ∧ c.2.1 < 60 := by
  intro L
  induction L with
  | nil => intro K _ _ c hc; cases hc
  | cons d t ih =>
    intro K hK h c hc
    rcases List.mem_cons.mp hc with e | hc
    · subst e
      rcases h.1 with ⟨e, h1⟩ | ⟨e, g, h1, _⟩ | ⟨e, h1, _⟩ | ⟨e, h1⟩ | ⟨e, h1, _⟩ | ⟨e, h1, _⟩
      · rw [e]; exact ⟨by decide, by decide, by omega⟩
      · have := (List.getElem?_eq_some_iff.mp h1).1
        rw [e]; exact ⟨by decide, by decide, by omega⟩
      all_goals (rw [e]; exact ⟨by decide, by decide, by omega⟩)
    · exact ih (Nat.le_trans (kU_len K d) hK) h.2 c hc
theorem Inv.bd {A : aA} (h : Inv A) : ∀ c ∈ A.2.2.2.2.1, 1 ≤ c.1 ∧ c.1 ≤ 6 ∧ c.2.1 < 60 := fun c hc => chn_bd h.1.1.2 h.2.1 c (List.mem_reverse.mpr hc)
theorem t8_ct {tl : Nat → Int64} {p : Nat} (h : ¬ 7 < t8 tl p) : uN (t8 tl p) < 8 := by
  have h1 := t8_lt tl p
  rw [Int64.lt_iff_toInt_lt] at h
  have e7 : (7 : Int64).toInt = 7 := by decide
  have e8 : (t8 tl p).toInt = (uN (t8 tl p) : Int) := lz_uN (by omega)
  rw [e7, e8] at h
  omega
theorem wfS_gd {tl : Nat → Int64} {k : Nat} (hk : k < 3) {s : aSt} (h : gdS tl k s) : wfS 8 k s := by
  obtain ⟨c, x, y, hc, hx, hy, hp, rfl⟩ := h
  have hy4 := ny_lt hk hy
  refine ⟨⟨c, hc, rfl⟩, ⟨x, hx, rfl⟩, fun ho => ⟨y, ny_op hy ho, ?_⟩, fun ht => ?_, fun ho ht => ?_⟩
  · have ho' : isOp (nI c) := ho
    show yOfV tl (nI c) y = lN y
    rw [yOfV, if_pos ho', nI_l (by omega)]
  · have ht' : isCt (nI c) := ht
    have ho' : ¬ isOp (nI c) := by
      rcases ht' with e | e | e <;> rw [e] <;> decide
    have h7 : ¬ 7 < t8 tl y := hp.elim (fun z => absurd z ho') (fun z q => z.1 ⟨ht', q⟩)
    have h8 := t8_ct h7
    refine ⟨uN (t8 tl y), nI_lt (b := 8) h8 (by decide), by omega, ?_⟩
    show yOfV tl (nI c) y = _
    rw [yOfV, if_neg ho', lN_uN]
  · exact mLow_id (N := 8) (Or.inl rfl) (mkS_y ho)
theorem wfF_gd {tl : Nat → Int64} {f : List aSt} (h : gdF tl f) (h3 : f.length ≤ 3) : wfF (8, f) := ⟨show isW 8 by decide, Nat.le_trans h3 (by decide), fun k s hs => wfS_gd (by have hh : k < f.length := (List.getElem?_eq_some_iff.mp hs).1; omega) (h k s hs)⟩
theorem Inv.look {A : aA} (h : Inv A) : Inv (aLook A) := h
theorem Inv.least {A : aA} (h : Inv A) (sg ws : Int32) (d : Int64) (most : Int32) : Inv (sLeast A sg ws d most).2 := by
  unfold sLeast
  split
  · split
    · exact h
    · split
      · exact h.look
      · rename_i hv hf h1000
        have hl : A.1.length < 60 := by
          have : A.1.length ≤ 60 := h.1.1.2
          have : ¬ A.1.length = 60 := fun z => hf (Or.inl z)
          omega
        have hm : most.toNatClampNeg ≤ 3 := by
          have h0 : ¬ most < 0 := by
            intro q
            refine hv.1.1 (Int32.lt_iff_toInt_lt.mpr ?_)
            have q1 := Int32.lt_iff_toInt_lt.mp q
            have e0 : (0 : Int32).toInt = 0 := by decide
            have e1 : (1 : Int32).toInt = 1 := by decide
            omega
          obtain ⟨j, hj, rfl⟩ := ixle 3 (by decide) h0 hv.1.2
          rw [nI_clamp (by omega)]
          exact hj
        have hok : bbOk A.2.2.1 (lsB A sg ws d most.toNatClampNeg) := scAll_ok _ hm
        obtain ⟨q1, q2, q3⟩ := hok.2 (by have := hok.1; omega)
        exact Inv.addF (A := aLook A) h.look hl (wfF_gd q1 q3)
  · exact h
