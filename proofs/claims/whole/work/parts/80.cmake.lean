/-! the class: make and proof -/
theorem dv_int {w : Int32} (hw : isW w) (d : Int64) : (mSig d w).toInt = (uN (mSz w 1 d) : Int) ∨ (mSig d w).toInt = -(uN (mSz w 1 d) : Int) := by
  obtain ⟨N, hN, rfl⟩ := isW_N hw
  have hl := mLow_lt d hN
  have hu := mUp_lt hN hl
  have e := sig_int d hN
  unfold mSz
  by_cases hc : mUp (mLow d (nI N)) (nI N)
  · right
    rw [if_pos ⟨rfl, hc⟩, uN_mLow _ hN, uN_neg, e]
    have h1 := hu.mp hc
    rw [uN_mLow d hN] at h1 hl ⊢
    rcases hN with rfl | rfl | rfl | rfl
    · simp only [Nat.reduceSub, Nat.reducePow] at *; split <;> omega
    · simp only [Nat.reduceSub, Nat.reducePow] at *; split <;> omega
    · simp only [Nat.reduceSub, Nat.reducePow] at *; split <;> omega
    · simp only [Nat.reduceSub, Nat.reducePow] at *; split <;> omega
  · left
    rw [if_neg (fun z => hc z.2), e, uN_mLow d hN]
    have h1 := mt hu.mpr hc
    rw [uN_mLow d hN] at h1 hl
    rcases hN with rfl | rfl | rfl | rfl
    · simp only [Nat.reduceSub, Nat.reducePow] at *; split <;> omega
    · simp only [Nat.reduceSub, Nat.reducePow] at *; split <;> omega
    · simp only [Nat.reduceSub, Nat.reducePow] at *; split <;> omega
    · simp only [Nat.reduceSub, Nat.reducePow] at *; split <;> omega
theorem odd_N {v : Int64} (h : v.toInt % 2 = 1) : uN v % 2 = 1 := by
  have e := uN_int v
  split at e <;> omega
theorem part_odd {w : Int32} (hw : isW w) {d : Int64} {tz : Nat} (h : Tz (mSz w 1 d) tz) : uN (gShr (mSig d w) (nI tz)) % 2 = 1 := by
  apply odd_N
  rw [gShr_int _ h.1]
  have he := h.eq
  have ho := h.2.1
  have hp : (0 : Int) < 2 ^ tz := by
    have := Nat.two_pow_pos tz
    have e2 : ((2 ^ tz : Nat) : Int) = (2 : Int) ^ tz := by simp
    omega
  generalize uN (mSz w 1 d) / 2 ^ tz = o at *
  have hcast : (uN (mSz w 1 d) : Int) = (2 : Int) ^ tz * (o : Int) := by
    rw [he]
    simp
  rcases dv_int hw d with z | z
  · rw [z, hcast, Int.mul_ediv_cancel_left _ (by omega)]
    omega
  · rw [z, hcast, ← Int.mul_neg, Int.mul_ediv_cancel_left _ (by omega)]
    omega
theorem w01 {ws : Int32} (h : 0 ≤ ws ∧ ws ≤ 5) (h2 : ¬ ws = 2) (h3 : ¬ ws = 3) (h4 : ¬ ws = 4) (h5 : ¬ ws = 5) : ws = 0 ∨ ws = 1 := by
  obtain ⟨j, hj, rfl⟩ := ixle 5 (by decide) (Int32.not_lt.mpr h.1) h.2
  rcases (show j = 0 ∨ j = 1 ∨ j = 2 ∨ j = 3 ∨ j = 4 ∨ j = 5 by omega) with rfl | rfl | rfl | rfl | rfl | rfl
  · exact Or.inl rfl
  · exact Or.inr rfl
  · exact absurd rfl h2
  · exact absurd rfl h3
  · exact absurd rfl h4
  · exact absurd rfl h5
section CMake
variable {l : Launch} {x : Nat} {A : aA} {ow : Nat → Nat} {ad hk : Nat → Nat} {cs : List cA} {ff : Nat → Option Nat} {j : Nat} {w : Int32} {b wq aq : Nat} {sgb ws : Int32} {dv D : Int64} {tz : Nat} {od : Int64} {N : Nat} {τ : gH}
theorem c_X9_writePlain (h : CWr τ ow x A ad hk cs ff j w [] b wq aq sgb ws dv D tz od) (hH : WH N w D tz od) (hws : 0 ≤ ws ∧ ws ≤ 5) (hdv : mLow dv w = mLow D w) : Ct l mX9_writePlain 5 1 4 [.ref wq] τ (pV (wCP x A ad hk cs ff j w (wplL w ws D od tz) b wq aq sgb ws dv D tz od)) := by
  have hH0 := hH
  obtain ⟨hN, hwN, hT, hod, hDN, hD⟩ := hH
  have hW : isW w := by rw [hwN]; rcases hN with rfl | rfl | rfl | rfl <;> decide
  have hoo : uN od % 2 = 1 := by rw [hod, hT.od]; exact hT.2.1
  have hD1 : D - 1 = aY 9 (D - 1) w := by
    rw [aY_n (by decide), hwN]
    refine (mLow_id hN ?_).symm
    have := uN_lt D
    rw [uN_sub, show uN 1 = 1 from by decide]
    omega
  have hp5 := pqL_len w D od tz 0 0
  have hfin : ∀ (bc bs : Nat) (σ : gH) (L : List aSt), L = wplL w ws D od tz → wCP x A ad hk cs ff j w L b wq aq sgb ws dv D tz od σ → G l mX9_writePlain 5 bc bs (pV (wCP x A ad hk cs ff j w (wplL w ws D od tz) b wq aq sgb ws dv D tz od)) σ 124 [some (.ref wq)] [] := by
    intro bc bs σ L hL hC
    subst hL
    refine g_vret dX9_writePlain_124 rfl ?_
    exact ⟨rfl, hC⟩
  have x5 : ∀ (σ : gH) , CWr σ ow x A ad hk cs ff j w [] b wq aq sgb ws dv D tz od → ws = 5 → G l mX9_writePlain 5 0 0 (pV (wCP x A ad hk cs ff j w (wplL w ws D od tz) b wq aq sgb ws dv D tz od)) σ 112 [some (.ref wq)] [.long (bInv w od), .int (bI (od = 1)), .int 0, .ref wq] := by
    intro σ h h5
    refine g_callVv (My := mX9_exact) [_, _, _] dX9_writePlain_112 lkX9_77 mvX9_exact rfl (h.2.2.2.1.1) rfl (c_X9_exact h hT.1 (Or.inl rfl) (p := od = 1) (y := mInv od) (bInv_eq hW hoo)) (by decide) (by decide) (by decide) rfl (Nat.le_of_ble_eq_true rfl) (fun σ zh112 => ?_)
    obtain ⟨L', hC, q1, q2, q3⟩ := zh112
    refine g_goto (tgt := 124) dX9_writePlain_115 (by decide) ?_
    refine hfin _ _ _ L' ?_ hC
    unfold wplL
    rw [if_neg (by rw [h5]; decide), if_neg (by rw [h5]; decide), if_neg (by rw [h5]; decide)]
    by_cases ho : od = 1
    · rw [if_pos ho]; exact q1 ho
    · rw [if_neg ho]
      by_cases ht : 0 < nI tz
      · rw [if_pos ht]; exact q2 ho ht
      · rw [if_neg ht]; exact q3 ho ht
  refine Ct_of moX9_writePlain [some (.ref wq)] rfl (Nat.le_of_ble_eq_true rfl) ?_
  refine g_aload_n (i := 0) dX9_writePlain_0 rfl rfl ?_
  refine g_getf dX9_writePlain_1 flX9_13 (by first | exact h.2.2.2.1.1 | exact h.2.2.2.2.1) rfl ?_
  refine g_getf dX9_writePlain_4 flX9_53 (by first | exact h.2.2.2.1.1 | exact h.2.2.2.2.1) rfl ?_
  by_cases e7_2 : ws = 2
  · refine g_tbIn (c := 2) (tgt := 36) e7_2 dX9_writePlain_7 (by decide) (by decide) rfl (by decide) ?_
    refine g_aload_n (i := 0) dX9_writePlain_36 rfl rfl ?_
    refine g_getf dX9_writePlain_37 flX9_50 (by first | exact h.2.2.2.1.1 | exact h.2.2.2.2.1) rfl ?_
    refine g_lconst (v := 1) dX9_writePlain_40 (by decide) ?_
    refine g_lcmp dX9_writePlain_41 ?_
    refine g_if_ne (tgt := 65) dX9_writePlain_42 (by decide) (fun zc42 => ?_) (fun zc42 => ?_)
    · refine g_aload_n (i := 0) dX9_writePlain_65 rfl rfl ?_
      refine g_aload_n (i := 0) dX9_writePlain_66 rfl rfl ?_
      refine g_iconst (v := 0) dX9_writePlain_67 (by decide) ?_
      refine g_callVi (My := mX9_plainQuotient) [_] dX9_writePlain_68 lkX9_62 mvX9_plainQuotient rfl (by first | exact h.2.2.2.1.1 | exact h.2.2.2.2.1) rfl (c_X9_plainQuotient h hH0 (by decide) 0) (by decide) (by decide) (by decide) rfl (Nat.le_of_ble_eq_true rfl) (fun zr68 σ zh68 => ?_)
      obtain ⟨ze68, ow', h1⟩ := zh68
      rw [ze68]
      have h1 : CWr _ ow' x A ad hk cs ff j w (pqL w D od tz 0 0) b wq aq sgb ws dv D tz od := h1
      refine g_callVv (My := mX9_restAfter) [_] dX9_writePlain_71 lkX9_66 mvX9_restAfter rfl (h1.2.2.2.1.1) rfl (c_X9_restAfter h1 hW rfl (by omega) _ hdv) (by decide) (by decide) (by decide) rfl (Nat.le_of_ble_eq_true rfl) (fun σ zh71 => ?_)
      obtain ⟨ow2, h2⟩ := zh71
      refine g_goto (tgt := 124) dX9_writePlain_74 (by decide) ?_
      first
      | (refine hfin _ _ _ _ ?_ ⟨_, h1⟩; unfold wplL; rw [if_neg (by rw [e7_2]; decide), if_pos (Or.inl e7_2), if_pos ((lg_cmp_eq _ _).mp zc42)]; rfl)
      | (refine hfin _ _ _ _ ?_ ⟨_, h1⟩; unfold wplL; rw [if_neg (by rw [e7_3]; decide), if_pos (Or.inr e7_3), if_pos ((lg_cmp_eq _ _).mp zc42)]; rfl)
      | (refine hfin _ _ _ _ ?_ ⟨_, h2⟩; unfold wplL; rw [if_neg (by rw [e7_2]; decide), if_pos (Or.inl e7_2), if_neg (fun z => zc42 ((lg_cmp_eq _ _).mpr z))]; rfl)
      | (refine hfin _ _ _ _ ?_ ⟨_, h2⟩; unfold wplL; rw [if_neg (by rw [e7_3]; decide), if_pos (Or.inr e7_3), if_neg (fun z => zc42 ((lg_cmp_eq _ _).mpr z))]; rfl)
      | (refine hfin _ _ _ _ ?_ ⟨_, h2⟩; unfold wplL; rw [if_neg (by rw [e7_4]; decide), if_neg (by rw [e7_4]; decide), if_pos e7_4]; rfl)
      | (refine hfin _ _ _ _ ?_ ⟨_, h1⟩; unfold wplL; rw [if_pos (w01 hws e7_2 e7_3 e7_4 e7_5)])
    · refine g_aload_n (i := 0) dX9_writePlain_45 rfl rfl ?_
      refine g_getf dX9_writePlain_46 flX9_7 (by first | exact h.2.2.2.1.1 | exact h.2.2.2.2.1) rfl ?_
      refine g_bipush (v := 9) dX9_writePlain_49 (by decide) ?_
      refine g_iconst (v := 0) dX9_writePlain_51 (by decide) ?_
      refine g_aload_n (i := 0) dX9_writePlain_52 rfl rfl ?_
      refine g_getf dX9_writePlain_53 flX9_38 (by first | exact h.2.2.2.1.1 | exact h.2.2.2.2.1) rfl ?_
      refine g_lconst (v := 1) dX9_writePlain_56 (by decide) ?_
      refine g_lsub dX9_writePlain_57 ?_
      refine g_callVi (My := mX3_add) [_, _, _] dX9_writePlain_58 lkX9_56 mvX3_add rfl (h.tb.choose_spec) rfl (c_adW h rfl (by decide) 9 0 _ hD1) (by decide) (by decide) (by decide) rfl (Nat.le_of_ble_eq_true rfl) (fun zr58 σ zh58 => ?_)
      obtain ⟨ze58, h1, l1⟩ := zh58
      rw [ze58]
      refine g_pop dX9_writePlain_61 rfl ?_
      refine g_goto (tgt := 124) dX9_writePlain_62 (by decide) ?_
      first
      | (refine hfin _ _ _ _ ?_ ⟨_, h1⟩; unfold wplL; rw [if_neg (by rw [e7_2]; decide), if_pos (Or.inl e7_2), if_pos ((lg_cmp_eq _ _).mp zc42)]; rfl)
      | (refine hfin _ _ _ _ ?_ ⟨_, h1⟩; unfold wplL; rw [if_neg (by rw [e7_3]; decide), if_pos (Or.inr e7_3), if_pos ((lg_cmp_eq _ _).mp zc42)]; rfl)
      | (refine hfin _ _ _ _ ?_ ⟨_, h2⟩; unfold wplL; rw [if_neg (by rw [e7_2]; decide), if_pos (Or.inl e7_2), if_neg (fun z => zc42 ((lg_cmp_eq _ _).mpr z))]; rfl)
      | (refine hfin _ _ _ _ ?_ ⟨_, h2⟩; unfold wplL; rw [if_neg (by rw [e7_3]; decide), if_pos (Or.inr e7_3), if_neg (fun z => zc42 ((lg_cmp_eq _ _).mpr z))]; rfl)
      | (refine hfin _ _ _ _ ?_ ⟨_, h2⟩; unfold wplL; rw [if_neg (by rw [e7_4]; decide), if_neg (by rw [e7_4]; decide), if_pos e7_4]; rfl)
      | (refine hfin _ _ _ _ ?_ ⟨_, h1⟩; unfold wplL; rw [if_pos (w01 hws e7_2 e7_3 e7_4 e7_5)])
  by_cases e7_3 : ws = 3
  · refine g_tbIn (c := 3) (tgt := 36) e7_3 dX9_writePlain_7 (by decide) (by decide) rfl (by decide) ?_
    refine g_aload_n (i := 0) dX9_writePlain_36 rfl rfl ?_
    refine g_getf dX9_writePlain_37 flX9_50 (by first | exact h.2.2.2.1.1 | exact h.2.2.2.2.1) rfl ?_
    refine g_lconst (v := 1) dX9_writePlain_40 (by decide) ?_
    refine g_lcmp dX9_writePlain_41 ?_
    refine g_if_ne (tgt := 65) dX9_writePlain_42 (by decide) (fun zc42 => ?_) (fun zc42 => ?_)
    · refine g_aload_n (i := 0) dX9_writePlain_65 rfl rfl ?_
      refine g_aload_n (i := 0) dX9_writePlain_66 rfl rfl ?_
      refine g_iconst (v := 0) dX9_writePlain_67 (by decide) ?_
      refine g_callVi (My := mX9_plainQuotient) [_] dX9_writePlain_68 lkX9_62 mvX9_plainQuotient rfl (by first | exact h.2.2.2.1.1 | exact h.2.2.2.2.1) rfl (c_X9_plainQuotient h hH0 (by decide) 0) (by decide) (by decide) (by decide) rfl (Nat.le_of_ble_eq_true rfl) (fun zr68 σ zh68 => ?_)
      obtain ⟨ze68, ow', h1⟩ := zh68
      rw [ze68]
      have h1 : CWr _ ow' x A ad hk cs ff j w (pqL w D od tz 0 0) b wq aq sgb ws dv D tz od := h1
      refine g_callVv (My := mX9_restAfter) [_] dX9_writePlain_71 lkX9_66 mvX9_restAfter rfl (h1.2.2.2.1.1) rfl (c_X9_restAfter h1 hW rfl (by omega) _ hdv) (by decide) (by decide) (by decide) rfl (Nat.le_of_ble_eq_true rfl) (fun σ zh71 => ?_)
      obtain ⟨ow2, h2⟩ := zh71
      refine g_goto (tgt := 124) dX9_writePlain_74 (by decide) ?_
      first
      | (refine hfin _ _ _ _ ?_ ⟨_, h1⟩; unfold wplL; rw [if_neg (by rw [e7_2]; decide), if_pos (Or.inl e7_2), if_pos ((lg_cmp_eq _ _).mp zc42)]; rfl)
      | (refine hfin _ _ _ _ ?_ ⟨_, h1⟩; unfold wplL; rw [if_neg (by rw [e7_3]; decide), if_pos (Or.inr e7_3), if_pos ((lg_cmp_eq _ _).mp zc42)]; rfl)
      | (refine hfin _ _ _ _ ?_ ⟨_, h2⟩; unfold wplL; rw [if_neg (by rw [e7_2]; decide), if_pos (Or.inl e7_2), if_neg (fun z => zc42 ((lg_cmp_eq _ _).mpr z))]; rfl)
      | (refine hfin _ _ _ _ ?_ ⟨_, h2⟩; unfold wplL; rw [if_neg (by rw [e7_3]; decide), if_pos (Or.inr e7_3), if_neg (fun z => zc42 ((lg_cmp_eq _ _).mpr z))]; rfl)
      | (refine hfin _ _ _ _ ?_ ⟨_, h2⟩; unfold wplL; rw [if_neg (by rw [e7_4]; decide), if_neg (by rw [e7_4]; decide), if_pos e7_4]; rfl)
      | (refine hfin _ _ _ _ ?_ ⟨_, h1⟩; unfold wplL; rw [if_pos (w01 hws e7_2 e7_3 e7_4 e7_5)])
    · refine g_aload_n (i := 0) dX9_writePlain_45 rfl rfl ?_
      refine g_getf dX9_writePlain_46 flX9_7 (by first | exact h.2.2.2.1.1 | exact h.2.2.2.2.1) rfl ?_
      refine g_bipush (v := 9) dX9_writePlain_49 (by decide) ?_
      refine g_iconst (v := 0) dX9_writePlain_51 (by decide) ?_
      refine g_aload_n (i := 0) dX9_writePlain_52 rfl rfl ?_
      refine g_getf dX9_writePlain_53 flX9_38 (by first | exact h.2.2.2.1.1 | exact h.2.2.2.2.1) rfl ?_
      refine g_lconst (v := 1) dX9_writePlain_56 (by decide) ?_
      refine g_lsub dX9_writePlain_57 ?_
      refine g_callVi (My := mX3_add) [_, _, _] dX9_writePlain_58 lkX9_56 mvX3_add rfl (h.tb.choose_spec) rfl (c_adW h rfl (by decide) 9 0 _ hD1) (by decide) (by decide) (by decide) rfl (Nat.le_of_ble_eq_true rfl) (fun zr58 σ zh58 => ?_)
      obtain ⟨ze58, h1, l1⟩ := zh58
      rw [ze58]
      refine g_pop dX9_writePlain_61 rfl ?_
      refine g_goto (tgt := 124) dX9_writePlain_62 (by decide) ?_
      first
      | (refine hfin _ _ _ _ ?_ ⟨_, h1⟩; unfold wplL; rw [if_neg (by rw [e7_2]; decide), if_pos (Or.inl e7_2), if_pos ((lg_cmp_eq _ _).mp zc42)]; rfl)
      | (refine hfin _ _ _ _ ?_ ⟨_, h1⟩; unfold wplL; rw [if_neg (by rw [e7_3]; decide), if_pos (Or.inr e7_3), if_pos ((lg_cmp_eq _ _).mp zc42)]; rfl)
      | (refine hfin _ _ _ _ ?_ ⟨_, h2⟩; unfold wplL; rw [if_neg (by rw [e7_2]; decide), if_pos (Or.inl e7_2), if_neg (fun z => zc42 ((lg_cmp_eq _ _).mpr z))]; rfl)
      | (refine hfin _ _ _ _ ?_ ⟨_, h2⟩; unfold wplL; rw [if_neg (by rw [e7_3]; decide), if_pos (Or.inr e7_3), if_neg (fun z => zc42 ((lg_cmp_eq _ _).mpr z))]; rfl)
      | (refine hfin _ _ _ _ ?_ ⟨_, h2⟩; unfold wplL; rw [if_neg (by rw [e7_4]; decide), if_neg (by rw [e7_4]; decide), if_pos e7_4]; rfl)
      | (refine hfin _ _ _ _ ?_ ⟨_, h1⟩; unfold wplL; rw [if_pos (w01 hws e7_2 e7_3 e7_4 e7_5)])
  by_cases e7_4 : ws = 4
  · refine g_tbIn (c := 4) (tgt := 77) e7_4 dX9_writePlain_7 (by decide) (by decide) rfl (by decide) ?_
    refine g_aload_n (i := 0) dX9_writePlain_77 rfl rfl ?_
    refine g_iconst (v := 0) dX9_writePlain_78 (by decide) ?_
    refine g_callVv (My := mX9_noRest) [_] dX9_writePlain_79 lkX9_70 mvX9_noRest rfl (by first | exact h.2.2.2.1.1 | exact h.2.2.2.2.1) rfl (c_X9_noRest h hH0 rfl (by decide) 0) (by decide) (by decide) (by decide) rfl (Nat.le_of_ble_eq_true rfl) (fun σ zh79 => ?_)
    obtain ⟨ow2, h2⟩ := zh79
    refine g_goto (tgt := 124) dX9_writePlain_82 (by decide) ?_
    first
    | (refine hfin _ _ _ _ ?_ ⟨_, h1⟩; unfold wplL; rw [if_neg (by rw [e7_2]; decide), if_pos (Or.inl e7_2), if_pos ((lg_cmp_eq _ _).mp zc42)]; rfl)
    | (refine hfin _ _ _ _ ?_ ⟨_, h1⟩; unfold wplL; rw [if_neg (by rw [e7_3]; decide), if_pos (Or.inr e7_3), if_pos ((lg_cmp_eq _ _).mp zc42)]; rfl)
    | (refine hfin _ _ _ _ ?_ ⟨_, h2⟩; unfold wplL; rw [if_neg (by rw [e7_2]; decide), if_pos (Or.inl e7_2), if_neg (fun z => zc42 ((lg_cmp_eq _ _).mpr z))]; rfl)
    | (refine hfin _ _ _ _ ?_ ⟨_, h2⟩; unfold wplL; rw [if_neg (by rw [e7_3]; decide), if_pos (Or.inr e7_3), if_neg (fun z => zc42 ((lg_cmp_eq _ _).mpr z))]; rfl)
    | (refine hfin _ _ _ _ ?_ ⟨_, h2⟩; unfold wplL; rw [if_neg (by rw [e7_4]; decide), if_neg (by rw [e7_4]; decide), if_pos e7_4]; rfl)
    | (refine hfin _ _ _ _ ?_ ⟨_, h1⟩; unfold wplL; rw [if_pos (w01 hws e7_2 e7_3 e7_4 e7_5)])
  by_cases e7_5 : ws = 5
  · refine g_tbIn (c := 5) (tgt := 85) e7_5 dX9_writePlain_7 (by decide) (by decide) rfl (by decide) ?_
    refine g_aload_n (i := 0) dX9_writePlain_85 rfl rfl ?_
    refine g_iconst (v := 0) dX9_writePlain_86 (by decide) ?_
    refine g_aload_n (i := 0) dX9_writePlain_87 rfl rfl ?_
    refine g_getf dX9_writePlain_88 flX9_50 (by first | exact h.2.2.2.1.1 | exact h.2.2.2.2.1) rfl ?_
    refine g_lconst (v := 1) dX9_writePlain_91 (by decide) ?_
    refine g_lcmp dX9_writePlain_92 ?_
    refine g_if_ne (tgt := 100) dX9_writePlain_93 (by decide) (fun zc93 => ?_) (fun zc93 => ?_)
    · refine g_iconst (v := 0) dX9_writePlain_100 (by decide) ?_
      refine g_aload_n (i := 0) dX9_writePlain_101 rfl rfl ?_
      refine g_getf dX9_writePlain_102 flX9_23 (by first | exact h.2.2.2.1.1 | exact h.2.2.2.2.1) rfl ?_
      refine g_aload_n (i := 0) dX9_writePlain_105 rfl rfl ?_
      refine g_getf dX9_writePlain_106 flX9_50 (by first | exact h.2.2.2.1.1 | exact h.2.2.2.2.1) rfl ?_
      refine g_callSl (My := mX2_inverseOf) [_, _] dX9_writePlain_109 lkX9_73 mvX2_inverseOf rfl (c_X2_inverseOf _ hW _) (by decide) (by decide) (by decide) rfl (Nat.le_of_ble_eq_true rfl) (fun zr109 σ zh109 => ?_)
      obtain ⟨ze109, zf109⟩ := zh109
      rw [ze109, zf109]
      first
      | (have hb : (1 : Int32) = bI (od = 1) := (bI_t ((lg_cmp_eq _ _).mp zc93)).symm
         refine g_cs (st' := [.long (bInv w od), .int (bI (od = 1)), .int 0, .ref wq]) (by rw [← hb]) (g_bud (Nat.zero_le _) (Nat.zero_le _) (x5 _ h e7_5)))
      | (have hb : (0 : Int32) = bI (od = 1) := (bI_f (fun z => zc93 ((lg_cmp_eq _ _).mpr z))).symm
         refine g_cs (st' := [.long (bInv w od), .int (bI (od = 1)), .int 0, .ref wq]) (by rw [← hb]) (g_bud (Nat.zero_le _) (Nat.zero_le _) (x5 _ h e7_5)))
    · refine g_iconst (v := 1) dX9_writePlain_96 (by decide) ?_
      refine g_goto (tgt := 101) dX9_writePlain_97 (by decide) ?_
      refine g_aload_n (i := 0) dX9_writePlain_101 rfl rfl ?_
      refine g_getf dX9_writePlain_102 flX9_23 (by first | exact h.2.2.2.1.1 | exact h.2.2.2.2.1) rfl ?_
      refine g_aload_n (i := 0) dX9_writePlain_105 rfl rfl ?_
      refine g_getf dX9_writePlain_106 flX9_50 (by first | exact h.2.2.2.1.1 | exact h.2.2.2.2.1) rfl ?_
      refine g_callSl (My := mX2_inverseOf) [_, _] dX9_writePlain_109 lkX9_73 mvX2_inverseOf rfl (c_X2_inverseOf _ hW _) (by decide) (by decide) (by decide) rfl (Nat.le_of_ble_eq_true rfl) (fun zr109 σ zh109 => ?_)
      obtain ⟨ze109, zf109⟩ := zh109
      rw [ze109, zf109]
      first
      | (have hb : (1 : Int32) = bI (od = 1) := (bI_t ((lg_cmp_eq _ _).mp zc93)).symm
         refine g_cs (st' := [.long (bInv w od), .int (bI (od = 1)), .int 0, .ref wq]) (by rw [← hb]) (g_bud (Nat.zero_le _) (Nat.zero_le _) (x5 _ h e7_5)))
      | (have hb : (0 : Int32) = bI (od = 1) := (bI_f (fun z => zc93 ((lg_cmp_eq _ _).mpr z))).symm
         refine g_cs (st' := [.long (bInv w od), .int (bI (od = 1)), .int 0, .ref wq]) (by rw [← hb]) (g_bud (Nat.zero_le _) (Nat.zero_le _) (x5 _ h e7_5)))
  refine g_tbOut (tgt := 118) dX9_writePlain_7 (g_out 2 5 (by intro i h1 h2; (rcases (show i = 2 ∨ i = 3 ∨ i = 4 ∨ i = 5 by omega) with rfl | rfl | rfl | rfl) <;> simp_all)) (by decide) ?_
  refine g_aload_n (i := 0) dX9_writePlain_118 rfl rfl ?_
  refine g_iconst (v := 0) dX9_writePlain_119 (by decide) ?_
  refine g_callVi (My := mX9_plainQuotient) [_] dX9_writePlain_120 lkX9_62 mvX9_plainQuotient rfl (by first | exact h.2.2.2.1.1 | exact h.2.2.2.2.1) rfl (c_X9_plainQuotient h hH0 (by decide) 0) (by decide) (by decide) (by decide) rfl (Nat.le_of_ble_eq_true rfl) (fun zr120 σ zh120 => ?_)
  obtain ⟨ze120, ow', h1⟩ := zh120
  rw [ze120]
  have h1 : CWr _ ow' x A ad hk cs ff j w (pqL w D od tz 0 0) b wq aq sgb ws dv D tz od := h1
  refine g_pop dX9_writePlain_123 rfl ?_
  first
  | (refine hfin _ _ _ _ ?_ ⟨_, h1⟩; unfold wplL; rw [if_neg (by rw [e7_2]; decide), if_pos (Or.inl e7_2), if_pos ((lg_cmp_eq _ _).mp zc42)]; rfl)
  | (refine hfin _ _ _ _ ?_ ⟨_, h1⟩; unfold wplL; rw [if_neg (by rw [e7_3]; decide), if_pos (Or.inr e7_3), if_pos ((lg_cmp_eq _ _).mp zc42)]; rfl)
  | (refine hfin _ _ _ _ ?_ ⟨_, h2⟩; unfold wplL; rw [if_neg (by rw [e7_2]; decide), if_pos (Or.inl e7_2), if_neg (fun z => zc42 ((lg_cmp_eq _ _).mpr z))]; rfl)
  | (refine hfin _ _ _ _ ?_ ⟨_, h2⟩; unfold wplL; rw [if_neg (by rw [e7_3]; decide), if_pos (Or.inr e7_3), if_neg (fun z => zc42 ((lg_cmp_eq _ _).mpr z))]; rfl)
  | (refine hfin _ _ _ _ ?_ ⟨_, h2⟩; unfold wplL; rw [if_neg (by rw [e7_4]; decide), if_neg (by rw [e7_4]; decide), if_pos e7_4]; rfl)
  | (refine hfin _ _ _ _ ?_ ⟨_, h1⟩; unfold wplL; rw [if_pos (w01 hws e7_2 e7_3 e7_4 e7_5)])
theorem c_X9_writeSigned {d : Int64} (h : CWr τ ow x A ad hk cs ff j w [] b wq aq sgb ws dv D tz od) (hH : WH N w D tz od) (hws : 0 ≤ ws ∧ ws ≤ 5) (hdv : dv = mSig d w) (hD' : D = mSz w 1 d) : Ct l mX9_writeSigned 6 1 4 [.ref wq] τ (pV (wCP x A ad hk cs ff j w (wsgL w ws d D od tz) b wq aq sgb ws dv D tz od)) := by
  have hH0 := hH
  obtain ⟨hN, hwN, hT, hod, hDN, hD⟩ := hH
  have hW : isW w := by rw [hwN]; rcases hN with rfl | rfl | rfl | rfl <;> decide
  have hbl : bI (mUp (mLow d w) w) = bI (dv < 0) := by
    rw [hdv]
    by_cases z : mUp (mLow d w) w
    · rw [bI_t z, bI_t ((sig_neg d hW).mpr z)]
    · rw [bI_f z, bI_f (fun y => z ((sig_neg d hW).mp y))]
  have h1d : D = 1 → (dv = 1 ↔ ¬ dv < 0) := by
    intro z
    have e := dv_int hW d
    rw [← hD', z, ← hdv, show uN 1 = 1 from by decide] at e
    have t1 : (1 : Int64).toInt = 1 := i64c3
    constructor
    · intro y
      rw [y]
      decide
    · intro y
      rcases e with q | q
      · exact Int64.toInt_inj.mp (by rw [q, t1]; rfl)
      · exact absurd (Int64.lt_iff_toInt_lt.mpr (by rw [q, i64c4]; decide)) y
  have hlow : mLow dv w = mLow d w := by
    rw [hdv, hwN]
    apply uN_inj
    have e := low_sig d hW
    rw [hwN, nI_clamp (by omega)] at e
    rw [uN_mLow _ hN, uN_mLow _ hN, e]
  have hsl := sqL_len w D od tz (bI (mUp (mLow d w) w))
  have hdl := sdL_len w D od tz
  have hpo : uN (gShr dv (nI tz)) % 2 = 1 := by
    rw [hdv]
    rw [hD'] at hT
    exact part_odd hW hT
  have hfin : ∀ (bc bs : Nat) (σ : gH) (L : List aSt) (v1 : Option Value), L = wsgL w ws d D od tz → wCP x A ad hk cs ff j w L b wq aq sgb ws dv D tz od σ → G l mX9_writeSigned 6 bc bs (pV (wCP x A ad hk cs ff j w (wsgL w ws d D od tz) b wq aq sgb ws dv D tz od)) σ 126 [some (.ref wq), v1, none] [] := by
    intro bc bs σ L v1 hL hC
    subst hL
    refine g_vret dX9_writeSigned_126 rfl ?_
    exact ⟨rfl, hC⟩
  have x5 : ∀ (σ : gH) , CWr σ ow x A ad hk cs ff j w [] b wq aq sgb ws dv D tz od → ¬ ws = 0 → ¬ ws = 1 → ¬ ws = 2 → ¬ ws = 3 → ¬ ws = 4 → G l mX9_writeSigned 6 0 0 (pV (wCP x A ad hk cs ff j w (wsgL w ws d D od tz) b wq aq sgb ws dv D tz od)) σ 123 [some (.ref wq), some (.long (gShr dv (nI tz))), none] [.long (bInv w (gShr dv (nI tz))), .int (bI (gShr dv (nI tz) = 1)), .int 1, .ref wq] := by
    intro σ h n0 n1 n2 n3 n4
    refine g_callVv (My := mX9_exact) [_, _, _] dX9_writeSigned_123 lkX9_77 mvX9_exact rfl (h.2.2.2.1.1) rfl (c_X9_exact h hT.1 (Or.inr (Or.inl rfl)) (p := gShr dv (nI tz) = 1) (y := mInv (gShr dv (nI tz))) (bInv_eq hW hpo)) (by decide) (by decide) (by decide) rfl (Nat.le_of_ble_eq_true rfl) (fun σ zh123 => ?_)
    obtain ⟨L', hC, q1, q2, q3⟩ := zh123
    refine hfin _ _ _ L' _ ?_ hC
    unfold wsgL
    rw [if_neg n0, if_neg n1, if_neg n2, if_neg n3, if_neg n4, sig_low _ hW, ← hdv]
    by_cases ho : gShr dv (nI tz) = 1
    · rw [if_pos ho]; exact q1 ho
    · rw [if_neg ho]
      by_cases ht : 0 < nI tz
      · rw [if_pos ht]; exact q2 ho ht
      · rw [if_neg ht]; exact q3 ho ht
  refine Ct_of moX9_writeSigned [some (.ref wq), none, none] rfl (Nat.le_of_ble_eq_true rfl) ?_
  refine g_aload_n (i := 0) dX9_writeSigned_0 rfl rfl ?_
  refine g_getf dX9_writeSigned_1 flX9_13 (by first | exact h.2.2.2.1.1 | exact h.2.2.2.2.1) rfl ?_
  refine g_getf dX9_writeSigned_4 flX9_53 (by first | exact h.2.2.2.1.1 | exact h.2.2.2.2.1) rfl ?_
  by_cases e7_0 : ws = 0
  · refine g_tbIn (c := 0) (tgt := 40) e7_0 dX9_writeSigned_7 (by decide) (by decide) rfl (by decide) ?_
    refine g_aload_n (i := 0) dX9_writeSigned_40 rfl rfl ?_
    refine g_callVi (My := mX9_signedQuotient) [] dX9_writeSigned_41 lkX9_81 mvX9_signedQuotient rfl (by first | exact h.2.2.2.1.1 | exact h.2.2.2.2.1) rfl (c_X9_signedQuotient h hH0 hbl h1d) (by decide) (by decide) (by decide) rfl (Nat.le_of_ble_eq_true rfl) (fun zr41 σ zh41 => ?_)
    obtain ⟨ze41, ow', h1⟩ := zh41
    rw [ze41]
    refine g_pop dX9_writeSigned_44 rfl ?_
    refine g_goto (tgt := 126) dX9_writeSigned_45 (by decide) ?_
    first
    | (refine hfin _ _ _ _ _ ?_ ⟨_, h1⟩; unfold wsgL; rw [if_pos e7_0]; done)
    | (refine hfin _ _ _ _ _ ?_ ⟨_, h1⟩; unfold wsgL; rw [if_neg e7_0, if_pos e7_1]; done)
    | (refine hfin _ _ _ _ _ ?_ ⟨_, h2⟩; unfold wsgL; rw [if_neg e7_0, if_neg e7_1, if_pos e7_2]; rfl)
    | (refine hfin _ _ _ _ _ ?_ ⟨_, h2⟩; unfold wsgL; rw [if_neg e7_0, if_neg e7_1, if_neg e7_2, if_pos e7_3]; rfl)
    | (refine hfin _ _ _ _ _ ?_ ⟨_, h2⟩; unfold wsgL; rw [if_neg e7_0, if_neg e7_1, if_neg e7_2, if_neg e7_3, if_pos e7_4]; done)
  by_cases e7_1 : ws = 1
  · refine g_tbIn (c := 1) (tgt := 48) e7_1 dX9_writeSigned_7 (by decide) (by decide) rfl (by decide) ?_
    refine g_aload_n (i := 0) dX9_writeSigned_48 rfl rfl ?_
    refine g_callVi (My := mX9_quotientDownwards) [] dX9_writeSigned_49 lkX9_85 mvX9_quotientDownwards rfl (by first | exact h.2.2.2.1.1 | exact h.2.2.2.2.1) rfl (c_X9_quotientDownwards h hH0) (by decide) (by decide) (by decide) rfl (Nat.le_of_ble_eq_true rfl) (fun zr49 σ zh49 => ?_)
    obtain ⟨ze49, ow', h1⟩ := zh49
    rw [ze49]
    refine g_pop dX9_writeSigned_52 rfl ?_
    refine g_goto (tgt := 126) dX9_writeSigned_53 (by decide) ?_
    first
    | (refine hfin _ _ _ _ _ ?_ ⟨_, h1⟩; unfold wsgL; rw [if_pos e7_0]; done)
    | (refine hfin _ _ _ _ _ ?_ ⟨_, h1⟩; unfold wsgL; rw [if_neg e7_0, if_pos e7_1]; done)
    | (refine hfin _ _ _ _ _ ?_ ⟨_, h2⟩; unfold wsgL; rw [if_neg e7_0, if_neg e7_1, if_pos e7_2]; rfl)
    | (refine hfin _ _ _ _ _ ?_ ⟨_, h2⟩; unfold wsgL; rw [if_neg e7_0, if_neg e7_1, if_neg e7_2, if_pos e7_3]; rfl)
    | (refine hfin _ _ _ _ _ ?_ ⟨_, h2⟩; unfold wsgL; rw [if_neg e7_0, if_neg e7_1, if_neg e7_2, if_neg e7_3, if_pos e7_4]; done)
  by_cases e7_2 : ws = 2
  · refine g_tbIn (c := 2) (tgt := 56) e7_2 dX9_writeSigned_7 (by decide) (by decide) rfl (by decide) ?_
    refine g_aload_n (i := 0) dX9_writeSigned_56 rfl rfl ?_
    refine g_aload_n (i := 0) dX9_writeSigned_57 rfl rfl ?_
    refine g_callVi (My := mX9_signedQuotient) [] dX9_writeSigned_58 lkX9_81 mvX9_signedQuotient rfl (by first | exact h.2.2.2.1.1 | exact h.2.2.2.2.1) rfl (c_X9_signedQuotient h hH0 hbl h1d) (by decide) (by decide) (by decide) rfl (Nat.le_of_ble_eq_true rfl) (fun zr58 σ zh58 => ?_)
    obtain ⟨ze58, ow', h1⟩ := zh58
    rw [ze58]
    refine g_callVv (My := mX9_restAfter) [_] dX9_writeSigned_61 lkX9_66 mvX9_restAfter rfl (h1.2.2.2.1.1) rfl (c_X9_restAfter h1 hW rfl (by omega) _ hlow) (by decide) (by decide) (by decide) rfl (Nat.le_of_ble_eq_true rfl) (fun σ zh61 => ?_)
    obtain ⟨ow2, h2⟩ := zh61
    refine g_goto (tgt := 126) dX9_writeSigned_64 (by decide) ?_
    first
    | (refine hfin _ _ _ _ _ ?_ ⟨_, h1⟩; unfold wsgL; rw [if_pos e7_0]; done)
    | (refine hfin _ _ _ _ _ ?_ ⟨_, h1⟩; unfold wsgL; rw [if_neg e7_0, if_pos e7_1]; done)
    | (refine hfin _ _ _ _ _ ?_ ⟨_, h2⟩; unfold wsgL; rw [if_neg e7_0, if_neg e7_1, if_pos e7_2]; rfl)
    | (refine hfin _ _ _ _ _ ?_ ⟨_, h2⟩; unfold wsgL; rw [if_neg e7_0, if_neg e7_1, if_neg e7_2, if_pos e7_3]; rfl)
    | (refine hfin _ _ _ _ _ ?_ ⟨_, h2⟩; unfold wsgL; rw [if_neg e7_0, if_neg e7_1, if_neg e7_2, if_neg e7_3, if_pos e7_4]; done)
  by_cases e7_3 : ws = 3
  · refine g_tbIn (c := 3) (tgt := 67) e7_3 dX9_writeSigned_7 (by decide) (by decide) rfl (by decide) ?_
    refine g_aload_n (i := 0) dX9_writeSigned_67 rfl rfl ?_
    refine g_aload_n (i := 0) dX9_writeSigned_68 rfl rfl ?_
    refine g_callVi (My := mX9_quotientDownwards) [] dX9_writeSigned_69 lkX9_85 mvX9_quotientDownwards rfl (by first | exact h.2.2.2.1.1 | exact h.2.2.2.2.1) rfl (c_X9_quotientDownwards h hH0) (by decide) (by decide) (by decide) rfl (Nat.le_of_ble_eq_true rfl) (fun zr69 σ zh69 => ?_)
    obtain ⟨ze69, ow', h1⟩ := zh69
    rw [ze69]
    refine g_callVv (My := mX9_restAfter) [_] dX9_writeSigned_72 lkX9_66 mvX9_restAfter rfl (h1.2.2.2.1.1) rfl (c_X9_restAfter h1 hW rfl (by omega) _ hlow) (by decide) (by decide) (by decide) rfl (Nat.le_of_ble_eq_true rfl) (fun σ zh72 => ?_)
    obtain ⟨ow2, h2⟩ := zh72
    refine g_goto (tgt := 126) dX9_writeSigned_75 (by decide) ?_
    first
    | (refine hfin _ _ _ _ _ ?_ ⟨_, h1⟩; unfold wsgL; rw [if_pos e7_0]; done)
    | (refine hfin _ _ _ _ _ ?_ ⟨_, h1⟩; unfold wsgL; rw [if_neg e7_0, if_pos e7_1]; done)
    | (refine hfin _ _ _ _ _ ?_ ⟨_, h2⟩; unfold wsgL; rw [if_neg e7_0, if_neg e7_1, if_pos e7_2]; rfl)
    | (refine hfin _ _ _ _ _ ?_ ⟨_, h2⟩; unfold wsgL; rw [if_neg e7_0, if_neg e7_1, if_neg e7_2, if_pos e7_3]; rfl)
    | (refine hfin _ _ _ _ _ ?_ ⟨_, h2⟩; unfold wsgL; rw [if_neg e7_0, if_neg e7_1, if_neg e7_2, if_neg e7_3, if_pos e7_4]; done)
  by_cases e7_4 : ws = 4
  · refine g_tbIn (c := 4) (tgt := 78) e7_4 dX9_writeSigned_7 (by decide) (by decide) rfl (by decide) ?_
    refine g_aload_n (i := 0) dX9_writeSigned_78 rfl rfl ?_
    refine g_aload_n (i := 0) dX9_writeSigned_79 rfl rfl ?_
    refine g_callVi (My := mX9_sizeOfNumber) [] dX9_writeSigned_80 lkX9_88 mvX9_sizeOfNumber rfl (by first | exact h.2.2.2.1.1 | exact h.2.2.2.2.1) rfl (c_X9_sizeOfNumber h) (by decide) (by decide) (by decide) rfl (Nat.le_of_ble_eq_true rfl) (fun zr80 σ zh80 => ?_)
    obtain ⟨ze80, h1⟩ := zh80
    rw [ze80]
    refine g_callVv (My := mX9_noRest) [_] dX9_writeSigned_83 lkX9_70 mvX9_noRest rfl (h1.2.2.2.1.1) rfl (c_X9_noRest h1 hH0 (n := 3) rfl (by decide) 3) (by decide) (by decide) (by decide) rfl (Nat.le_of_ble_eq_true rfl) (fun σ zh83 => ?_)
    obtain ⟨ow2, h2⟩ := zh83
    refine g_goto (tgt := 126) dX9_writeSigned_86 (by decide) ?_
    first
    | (refine hfin _ _ _ _ _ ?_ ⟨_, h1⟩; unfold wsgL; rw [if_pos e7_0]; done)
    | (refine hfin _ _ _ _ _ ?_ ⟨_, h1⟩; unfold wsgL; rw [if_neg e7_0, if_pos e7_1]; done)
    | (refine hfin _ _ _ _ _ ?_ ⟨_, h2⟩; unfold wsgL; rw [if_neg e7_0, if_neg e7_1, if_pos e7_2]; rfl)
    | (refine hfin _ _ _ _ _ ?_ ⟨_, h2⟩; unfold wsgL; rw [if_neg e7_0, if_neg e7_1, if_neg e7_2, if_pos e7_3]; rfl)
    | (refine hfin _ _ _ _ _ ?_ ⟨_, h2⟩; unfold wsgL; rw [if_neg e7_0, if_neg e7_1, if_neg e7_2, if_neg e7_3, if_pos e7_4]; done)
  refine g_tbOut (tgt := 89) dX9_writeSigned_7 (g_out 0 4 (by intro i h1 h2; (rcases (show i = 0 ∨ i = 1 ∨ i = 2 ∨ i = 3 ∨ i = 4 by omega) with rfl | rfl | rfl | rfl | rfl) <;> simp_all)) (by decide) ?_
  refine g_aload_n (i := 0) dX9_writeSigned_89 rfl rfl ?_
  refine g_getf dX9_writeSigned_90 flX9_13 (by first | exact h.2.2.2.1.1 | exact h.2.2.2.2.1) rfl ?_
  refine g_getf dX9_writeSigned_93 flX9_24 (by first | exact h.2.2.2.1.1 | exact h.2.2.2.2.1) rfl ?_
  refine g_aload_n (i := 0) dX9_writeSigned_96 rfl rfl ?_
  refine g_getf dX9_writeSigned_97 flX9_47 (by first | exact h.2.2.2.1.1 | exact h.2.2.2.2.1) rfl ?_
  refine g_lshr dX9_writeSigned_100 ?_
  refine g_lstore_n (i := 1) (ls' := [_, _, _]) dX9_writeSigned_101 rfl (by decide) rfl rfl ?_
  refine g_aload_n (i := 0) dX9_writeSigned_102 rfl rfl ?_
  refine g_iconst (v := 1) dX9_writeSigned_103 (by decide) ?_
  refine g_lload_n (i := 1) dX9_writeSigned_104 rfl rfl ?_
  refine g_lconst (v := 1) dX9_writeSigned_105 (by decide) ?_
  refine g_lcmp dX9_writeSigned_106 ?_
  refine g_if_ne (tgt := 114) dX9_writeSigned_107 (by decide) (fun zc107 => ?_) (fun zc107 => ?_)
  · refine g_iconst (v := 0) dX9_writeSigned_114 (by decide) ?_
    refine g_aload_n (i := 0) dX9_writeSigned_115 rfl rfl ?_
    refine g_getf dX9_writeSigned_116 flX9_23 (by first | exact h.2.2.2.1.1 | exact h.2.2.2.2.1) rfl ?_
    refine g_lload_n (i := 1) dX9_writeSigned_119 rfl rfl ?_
    refine g_callSl (My := mX2_inverseOf) [_, _] dX9_writeSigned_120 lkX9_73 mvX2_inverseOf rfl (c_X2_inverseOf _ hW _) (by decide) (by decide) (by decide) rfl (Nat.le_of_ble_eq_true rfl) (fun zr120 σ zh120 => ?_)
    obtain ⟨ze120, zf120⟩ := zh120
    rw [ze120, zf120]
    first
    | (have hb : (1 : Int32) = bI (gShr dv (nI tz) = 1) := (bI_t ((lg_cmp_eq _ _).mp zc107)).symm
       refine g_cs (st' := [.long (bInv w (gShr dv (nI tz))), .int (bI (gShr dv (nI tz) = 1)), .int 1, .ref wq]) (by rw [← hb]) (g_bud (Nat.zero_le _) (Nat.zero_le _) (x5 _ h e7_0 e7_1 e7_2 e7_3 e7_4)))
    | (have hb : (0 : Int32) = bI (gShr dv (nI tz) = 1) := (bI_f (fun z => zc107 ((lg_cmp_eq _ _).mpr z))).symm
       refine g_cs (st' := [.long (bInv w (gShr dv (nI tz))), .int (bI (gShr dv (nI tz) = 1)), .int 1, .ref wq]) (by rw [← hb]) (g_bud (Nat.zero_le _) (Nat.zero_le _) (x5 _ h e7_0 e7_1 e7_2 e7_3 e7_4)))
  · refine g_iconst (v := 1) dX9_writeSigned_110 (by decide) ?_
    refine g_goto (tgt := 115) dX9_writeSigned_111 (by decide) ?_
    refine g_aload_n (i := 0) dX9_writeSigned_115 rfl rfl ?_
    refine g_getf dX9_writeSigned_116 flX9_23 (by first | exact h.2.2.2.1.1 | exact h.2.2.2.2.1) rfl ?_
    refine g_lload_n (i := 1) dX9_writeSigned_119 rfl rfl ?_
    refine g_callSl (My := mX2_inverseOf) [_, _] dX9_writeSigned_120 lkX9_73 mvX2_inverseOf rfl (c_X2_inverseOf _ hW _) (by decide) (by decide) (by decide) rfl (Nat.le_of_ble_eq_true rfl) (fun zr120 σ zh120 => ?_)
    obtain ⟨ze120, zf120⟩ := zh120
    rw [ze120, zf120]
    first
    | (have hb : (1 : Int32) = bI (gShr dv (nI tz) = 1) := (bI_t ((lg_cmp_eq _ _).mp zc107)).symm
       refine g_cs (st' := [.long (bInv w (gShr dv (nI tz))), .int (bI (gShr dv (nI tz) = 1)), .int 1, .ref wq]) (by rw [← hb]) (g_bud (Nat.zero_le _) (Nat.zero_le _) (x5 _ h e7_0 e7_1 e7_2 e7_3 e7_4)))
    | (have hb : (0 : Int32) = bI (gShr dv (nI tz) = 1) := (bI_f (fun z => zc107 ((lg_cmp_eq _ _).mpr z))).symm
       refine g_cs (st' := [.long (bInv w (gShr dv (nI tz))), .int (bI (gShr dv (nI tz) = 1)), .int 1, .ref wq]) (by rw [← hb]) (g_bud (Nat.zero_le _) (Nat.zero_le _) (x5 _ h e7_0 e7_1 e7_2 e7_3 e7_4)))
end CMake
theorem RCx.oth2 {σ σ' : gH} {ow ow' : Nat → Nat} {x : Nat} {A : aA} {ad hk : Nat → Nat} {cs : List cA} {ff : Nat → Option Nat} (q : RCx σ ow x A ad hk cs ff) (hs : Sm (fun m => m = 401) σ ow σ' ow') : RCx σ' ow' x A ad hk cs ff := by
  obtain ⟨h1, h2, h3, h4, h5, h6, ⟨h7, h8, h9⟩, h10, h11, h12, h13⟩ := q
  exact ⟨h1.mono hs (by decide), h2.mono hs (by decide) (fun m _ _ => by omega), h3.mono hs (by decide), h4.mono hs (by decide), h5.mono hs (by decide) (by decide) (fun m _ => by omega), h6.mono hs (by decide) (by omega), ⟨h7.mono hs (by decide) (by decide) (by decide), h8, h9.mono hs (by decide) (fun m _ => by omega)⟩, h10, h11.mono hs (fun m _ _ _ => by omega), h12.mono hs (by decide), h13⟩
theorem plain_dv {w sg ws : Int32} {d : Int64} (hi : mIsA w sg ws d) (h : ¬ sg = 1) : mLow (cDv w sg d) w = mLow (mSz w sg d) w := by
  have e1 : cDv w sg d = mLow d w := by unfold cDv; rw [if_neg h, low_eq _ hi.1]
  have e2 : mSz w sg d = mLow d w := by unfold mSz; rw [if_neg (fun z => h z.1)]
  rw [e1, e2]
section CMake2
variable {l : Launch} {x : Nat} {A : aA} {τ : gH}
theorem c_X10_proof (hR : RC τ x A) (w : Int32) (d : Int64) (what : Int32) {z : Nat} (hz : isW w → ¬ mLow d w = 0 → isTz (mLow d w) z) : Ct l mX10_proof 4 1 4 [.ref x, .int w, .long d, .int what] τ (pL (cPl x (sProof w d what z, A))) := by
  obtain ⟨ow, ad, hk, cs, ff, hR⟩ := hR
  refine Ct_of moX10_proof [some (.ref x), some (.int w), some (.long d), none, some (.int what), none, none, none] rfl (Nat.le_of_ble_eq_true rfl) ?_
  by_cases hc : isW w ∧ (¬ what < 0 ∧ what ≤ 3) ∧ ¬ mLow d w = 0
  · obtain ⟨hW, hwh, hd⟩ := hc
    have hT := Tz_of (hz hW hd)
    have hp2 := hT.p2
    obtain ⟨N, hN, hwN⟩ := isW_N hW
    have hDN : uN (mLow d w) < 2 ^ N := by rw [hwN]; exact mLow_lt d hN
    have hD := ne0_N.mp hd
    by_cases ho : gUshr (mLow d w) (nI z) = 1
    · have hv : sProof w d what z = 0 := by unfold sProof; rw [if_pos ⟨hW, hwh, hd⟩, if_pos ho]
      rw [hv]
      refine g_iload_n (i := 1) dX10_proof_0 rfl rfl ?_
      refine g_callSi (My := mX2_isWidth) [_] dX10_proof_1 lkX10_62 mvX2_isWidth rfl (c_X2_isWidth _) (by decide) (by decide) (by decide) rfl (Nat.le_of_ble_eq_true rfl) (fun zr1 σ zh1 => ?_)
      obtain ⟨ze1, zf1⟩ := zh1
      rw [ze1, zf1]
      refine g_if_eq (tgt := 18) dX10_proof_4 (by decide) (fun zc4 => ?_) (fun zc4 => ?_)
      · exact absurd hW (bI_eq0.mp zc4)
      · refine g_iload dX10_proof_7 rfl ?_
        refine g_if_lt (tgt := 18) dX10_proof_9 (by decide) (fun zc9 => ?_) (fun zc9 => ?_)
        · exact absurd zc9 hwh.1
        · refine g_iload dX10_proof_12 rfl ?_
          refine g_iconst (v := 3) dX10_proof_14 (by decide) ?_
          refine g_icmp_le (tgt := 22) dX10_proof_15 (by decide) (fun zc15 => ?_) (fun zc15 => ?_)
          · refine g_lload_n (i := 2) dX10_proof_22 rfl rfl ?_
            refine g_iload_n (i := 1) dX10_proof_23 rfl rfl ?_
            refine g_callSl (My := mX2_mask) [_] dX10_proof_24 lkX10_92 mvX2_mask rfl (c_X2_mask _) (by decide) (by decide) (by decide) rfl (Nat.le_of_ble_eq_true rfl) (fun zr24 σ zh24 => ?_)
            obtain ⟨ze24, zf24⟩ := zh24
            rw [ze24, zf24]
            refine g_land dX10_proof_27 ?_
            rw [low_eq _ hW]
            refine g_lstore (ls' := [_, _, _, _, _, _, _, _]) dX10_proof_28 (by decide) rfl rfl ?_
            refine g_lload dX10_proof_30 rfl ?_
            refine g_lconst (v := 0) dX10_proof_32 (by decide) ?_
            refine g_lcmp dX10_proof_33 ?_
            refine g_if_ne (tgt := 41) dX10_proof_34 (by decide) (fun zc34 => ?_) (fun zc34 => ?_)
            · refine g_lload dX10_proof_41 rfl ?_
              refine g_lload dX10_proof_43 rfl ?_
              refine g_lconst (v := 1) dX10_proof_45 (by decide) ?_
              refine g_lsub dX10_proof_46 ?_
              refine g_land dX10_proof_47 ?_
              refine g_lconst (v := 0) dX10_proof_48 (by decide) ?_
              refine g_lcmp dX10_proof_49 ?_
              refine g_if_ne (tgt := 55) dX10_proof_50 (by decide) (fun zc50 => ?_) (fun zc50 => ?_)
              · exact absurd ((lg_cmp_eq _ _).mpr (hp2.mpr ho)) zc50
              · refine g_lconst (v := 0) dX10_proof_53 (by decide) ?_
                refine g_lret dX10_proof_54 rfl ?_
                exact ⟨_, rfl, rfl, hR.rc⟩
            · exact absurd ((lg_cmp_eq _ _).mp zc34) hd
          · exact absurd hwh.2 zc15
    · have hv : sProof w d what z = (if what = 0 then (fMoved w 0 (mLow d w)).toInt64 else if what = 1 then fFactor w 0 (mLow d w) else if what = 2 then (fOver w 0 (mLow d w)).toInt64 else fMiss w 0 (mLow d w)) := by unfold sProof; rw [if_pos ⟨hW, hwh, hd⟩, if_neg ho]
      rw [hv]
      have hnd := hT.nd (N := N) ho
      subst hwN
      refine g_iload_n (i := 1) dX10_proof_0 rfl rfl ?_
      refine g_callSi (My := mX2_isWidth) [_] dX10_proof_1 lkX10_62 mvX2_isWidth rfl (c_X2_isWidth _) (by decide) (by decide) (by decide) rfl (Nat.le_of_ble_eq_true rfl) (fun zr1 σ zh1 => ?_)
      obtain ⟨ze1, zf1⟩ := zh1
      rw [ze1, zf1]
      refine g_if_eq (tgt := 18) dX10_proof_4 (by decide) (fun zc4 => ?_) (fun zc4 => ?_)
      · exact absurd hW (bI_eq0.mp zc4)
      · refine g_iload dX10_proof_7 rfl ?_
        refine g_if_lt (tgt := 18) dX10_proof_9 (by decide) (fun zc9 => ?_) (fun zc9 => ?_)
        · exact absurd zc9 hwh.1
        · refine g_iload dX10_proof_12 rfl ?_
          refine g_iconst (v := 3) dX10_proof_14 (by decide) ?_
          refine g_icmp_le (tgt := 22) dX10_proof_15 (by decide) (fun zc15 => ?_) (fun zc15 => ?_)
          · refine g_lload_n (i := 2) dX10_proof_22 rfl rfl ?_
            refine g_iload_n (i := 1) dX10_proof_23 rfl rfl ?_
            refine g_callSl (My := mX2_mask) [_] dX10_proof_24 lkX10_92 mvX2_mask rfl (c_X2_mask _) (by decide) (by decide) (by decide) rfl (Nat.le_of_ble_eq_true rfl) (fun zr24 σ zh24 => ?_)
            obtain ⟨ze24, zf24⟩ := zh24
            rw [ze24, zf24]
            refine g_land dX10_proof_27 ?_
            rw [low_eq _ hW]
            refine g_lstore (ls' := [_, _, _, _, _, _, _, _]) dX10_proof_28 (by decide) rfl rfl ?_
            refine g_lload dX10_proof_30 rfl ?_
            refine g_lconst (v := 0) dX10_proof_32 (by decide) ?_
            refine g_lcmp dX10_proof_33 ?_
            refine g_if_ne (tgt := 41) dX10_proof_34 (by decide) (fun zc34 => ?_) (fun zc34 => ?_)
            · refine g_lload dX10_proof_41 rfl ?_
              refine g_lload dX10_proof_43 rfl ?_
              refine g_lconst (v := 1) dX10_proof_45 (by decide) ?_
              refine g_lsub dX10_proof_46 ?_
              refine g_land dX10_proof_47 ?_
              refine g_lconst (v := 0) dX10_proof_48 (by decide) ?_
              refine g_lcmp dX10_proof_49 ?_
              refine g_if_ne (tgt := 55) dX10_proof_50 (by decide) (fun zc50 => ?_) (fun zc50 => ?_)
              · refine g_new dX10_proof_55 nwX10_158 (by decide) (by decide) (fun zq55 zhq55 => ?_)
                refine g_dup dX10_proof_58 rfl ?_
                refine g_iload_n (i := 1) dX10_proof_59 rfl rfl ?_
                refine g_lload dX10_proof_60 rfl ?_
                refine g_iconst (v := 0) dX10_proof_62 (by decide) ?_
                refine g_callIv (My := mX7_init) [_, _, _] dX10_proof_63 lkX10_160 mvX7_init rfl (c_X7_init (su_self _ _ _) hN hD hDN hnd (Or.inl rfl)) (by decide) (by decide) (by decide) rfl (Nat.le_of_ble_eq_true rfl) (fun σ zh63 => ?_)
                obtain ⟨ze63, ov1, jm, jmN, ejm⟩ := zh63
                rw [ze63, su_su]
                have hR1 := hR.new (Sm.none zhq55 (mgO N 0 (mLow d (nI N))) 402)
                have m1 : (su τ zq55 (mgO N 0 (mLow d (nI N)))) zq55 = some (mgO N 0 (mLow d (nI N))) := su_self _ _ _
                refine g_astore (ls' := [_, _, _, _, _, _, _, _]) dX10_proof_66 (by decide) rfl rfl ?_
                refine g_iload dX10_proof_68 rfl ?_
                by_cases e70_0 : what = 0
                · refine g_tbIn (c := 0) (tgt := 96) e70_0 dX10_proof_70 (by decide) (by decide) rfl (by decide) ?_
                  refine g_aload dX10_proof_96 rfl ?_
                  refine g_getf dX10_proof_98 flX10_163 (m1) rfl ?_
                  refine g_i2l dX10_proof_101 ?_
                  refine g_lret dX10_proof_102 rfl ?_
                  refine ⟨_, rfl, ?_, hR1.rc⟩
                  first
                  | (rw [if_pos e70_0]; done)
                  | (rw [if_neg e70_0, if_pos e70_1]; done)
                  | (rw [if_neg e70_0, if_neg e70_1, if_pos e70_2, zc114]; show (0 : Int64) = Int32.toInt64 0; decide)
                  | (rw [if_neg e70_0, if_neg e70_1, if_pos e70_2, Or.resolve_left ov1 zc114]; show (1 : Int64) = Int32.toInt64 1; decide)
                  | (rw [if_neg e70_0, if_neg e70_1, if_neg e70_2]; done)
                by_cases e70_1 : what = 1
                · refine g_tbIn (c := 1) (tgt := 103) e70_1 dX10_proof_70 (by decide) (by decide) rfl (by decide) ?_
                  refine g_aload dX10_proof_103 rfl ?_
                  refine g_getf dX10_proof_105 flX10_166 (m1) rfl ?_
                  refine g_lret dX10_proof_108 rfl ?_
                  refine ⟨_, rfl, ?_, hR1.rc⟩
                  first
                  | (rw [if_pos e70_0]; done)
                  | (rw [if_neg e70_0, if_pos e70_1]; done)
                  | (rw [if_neg e70_0, if_neg e70_1, if_pos e70_2, zc114]; show (0 : Int64) = Int32.toInt64 0; decide)
                  | (rw [if_neg e70_0, if_neg e70_1, if_pos e70_2, Or.resolve_left ov1 zc114]; show (1 : Int64) = Int32.toInt64 1; decide)
                  | (rw [if_neg e70_0, if_neg e70_1, if_neg e70_2]; done)
                by_cases e70_2 : what = 2
                · refine g_tbIn (c := 2) (tgt := 109) e70_2 dX10_proof_70 (by decide) (by decide) rfl (by decide) ?_
                  refine g_aload dX10_proof_109 rfl ?_
                  refine g_getf dX10_proof_111 flX10_170 (m1) rfl ?_
                  refine g_if_eq (tgt := 121) dX10_proof_114 (by decide) (fun zc114 => ?_) (fun zc114 => ?_)
                  · refine g_lconst (v := 0) dX10_proof_121 (by decide) ?_
                    refine g_lret dX10_proof_122 rfl ?_
                    refine ⟨_, rfl, ?_, hR1.rc⟩
                    first
                    | (rw [if_pos e70_0]; done)
                    | (rw [if_neg e70_0, if_pos e70_1]; done)
                    | (rw [if_neg e70_0, if_neg e70_1, if_pos e70_2, zc114]; show (0 : Int64) = Int32.toInt64 0; decide)
                    | (rw [if_neg e70_0, if_neg e70_1, if_pos e70_2, Or.resolve_left ov1 zc114]; show (1 : Int64) = Int32.toInt64 1; decide)
                    | (rw [if_neg e70_0, if_neg e70_1, if_neg e70_2]; done)
                  · refine g_lconst (v := 1) dX10_proof_117 (by decide) ?_
                    refine g_goto (tgt := 122) dX10_proof_118 (by decide) ?_
                    refine g_lret dX10_proof_122 rfl ?_
                    refine ⟨_, rfl, ?_, hR1.rc⟩
                    first
                    | (rw [if_pos e70_0]; done)
                    | (rw [if_neg e70_0, if_pos e70_1]; done)
                    | (rw [if_neg e70_0, if_neg e70_1, if_pos e70_2, zc114]; show (0 : Int64) = Int32.toInt64 0; decide)
                    | (rw [if_neg e70_0, if_neg e70_1, if_pos e70_2, Or.resolve_left ov1 zc114]; show (1 : Int64) = Int32.toInt64 1; decide)
                    | (rw [if_neg e70_0, if_neg e70_1, if_neg e70_2]; done)
                refine g_tbOut (tgt := 123) dX10_proof_70 (g_out 0 2 (by intro i h1 h2; (rcases (show i = 0 ∨ i = 1 ∨ i = 2 by omega) with rfl | rfl | rfl) <;> simp_all)) (by decide) ?_
                refine g_aload dX10_proof_123 rfl ?_
                refine g_getf dX10_proof_125 flX10_174 (m1) rfl ?_
                refine g_lret dX10_proof_128 rfl ?_
                refine ⟨_, rfl, ?_, hR1.rc⟩
                first
                | (rw [if_pos e70_0]; done)
                | (rw [if_neg e70_0, if_pos e70_1]; done)
                | (rw [if_neg e70_0, if_neg e70_1, if_pos e70_2, zc114]; show (0 : Int64) = Int32.toInt64 0; decide)
                | (rw [if_neg e70_0, if_neg e70_1, if_pos e70_2, Or.resolve_left ov1 zc114]; show (1 : Int64) = Int32.toInt64 1; decide)
                | (rw [if_neg e70_0, if_neg e70_1, if_neg e70_2]; done)
              · exact absurd (hp2.mp ((lg_cmp_eq _ _).mp zc50)) ho
            · exact absurd ((lg_cmp_eq _ _).mp zc34) hd
          · exact absurd hwh.2 zc15
  · have hv : sProof w d what z = -1 := by unfold sProof; rw [if_neg hc]
    rw [hv]
    refine g_iload_n (i := 1) dX10_proof_0 rfl rfl ?_
    refine g_callSi (My := mX2_isWidth) [_] dX10_proof_1 lkX10_62 mvX2_isWidth rfl (c_X2_isWidth _) (by decide) (by decide) (by decide) rfl (Nat.le_of_ble_eq_true rfl) (fun zr1 σ zh1 => ?_)
    obtain ⟨ze1, zf1⟩ := zh1
    rw [ze1, zf1]
    refine g_if_eq (tgt := 18) dX10_proof_4 (by decide) (fun zc4 => ?_) (fun zc4 => ?_)
    · refine g_ldc2 (v := (-1)) dX10_proof_18 klX10_135 ?_
      refine g_lret dX10_proof_21 rfl ?_
      exact ⟨_, rfl, rfl, hR.rc⟩
    · refine g_iload dX10_proof_7 rfl ?_
      refine g_if_lt (tgt := 18) dX10_proof_9 (by decide) (fun zc9 => ?_) (fun zc9 => ?_)
      · refine g_ldc2 (v := (-1)) dX10_proof_18 klX10_135 ?_
        refine g_lret dX10_proof_21 rfl ?_
        exact ⟨_, rfl, rfl, hR.rc⟩
      · refine g_iload dX10_proof_12 rfl ?_
        refine g_iconst (v := 3) dX10_proof_14 (by decide) ?_
        refine g_icmp_le (tgt := 22) dX10_proof_15 (by decide) (fun zc15 => ?_) (fun zc15 => ?_)
        · refine g_lload_n (i := 2) dX10_proof_22 rfl rfl ?_
          refine g_iload_n (i := 1) dX10_proof_23 rfl rfl ?_
          refine g_callSl (My := mX2_mask) [_] dX10_proof_24 lkX10_92 mvX2_mask rfl (c_X2_mask _) (by decide) (by decide) (by decide) rfl (Nat.le_of_ble_eq_true rfl) (fun zr24 σ zh24 => ?_)
          obtain ⟨ze24, zf24⟩ := zh24
          rw [ze24, zf24]
          have hW := bI_ne0.mp zc4
          refine g_land dX10_proof_27 ?_
          rw [low_eq _ hW]
          refine g_lstore (ls' := [_, _, _, _, _, _, _, _]) dX10_proof_28 (by decide) rfl rfl ?_
          refine g_lload dX10_proof_30 rfl ?_
          refine g_lconst (v := 0) dX10_proof_32 (by decide) ?_
          refine g_lcmp dX10_proof_33 ?_
          refine g_if_ne (tgt := 41) dX10_proof_34 (by decide) (fun zc34 => ?_) (fun zc34 => ?_)
          · exact absurd ⟨hW, ⟨zc9, zc15⟩, fun q => zc34 ((lg_cmp_eq _ _).mpr q)⟩ hc
          · refine g_ldc2 (v := (-1)) dX10_proof_37 klX10_135 ?_
            refine g_lret dX10_proof_40 rfl ?_
            exact ⟨_, rfl, rfl, hR.rc⟩
        · refine g_ldc2 (v := (-1)) dX10_proof_18 klX10_135 ?_
          refine g_lret dX10_proof_21 rfl ?_
          exact ⟨_, rfl, rfl, hR.rc⟩
theorem c_X10_make (hR : RC τ x A) (w sg ws : Int32) (d : Int64) {tz : Nat} (hz : mIsA w sg ws d → isTz (mSz w sg d) tz) : Ct l mX10_make 7 8 60 [.ref x, .int w, .int sg, .int ws, .long d] τ (pI (cP x (sMake A w sg ws d tz))) := by
  obtain ⟨ow, ad, hk, cs, ff, hR⟩ := hR
  have h60 := hR.2.1.2.1
  refine Ct_of moX10_make [some (.ref x), some (.int w), some (.int sg), some (.int ws), some (.long d), none, none] rfl (Nat.le_of_ble_eq_true rfl) ?_
  by_cases hi : mIsA w sg ws d
  · by_cases hl : A.1.length = 60
    · have hv : sMake A w sg ws d tz = (-2, A) := by unfold sMake; rw [if_pos hi, if_pos hl]
      rw [hv]
      refine g_iload_n (i := 1) dX10_make_0 rfl rfl ?_
      refine g_iload_n (i := 2) dX10_make_1 rfl rfl ?_
      refine g_iload_n (i := 3) dX10_make_2 rfl rfl ?_
      refine g_lload dX10_make_3 rfl ?_
      refine g_callSi (My := mX1_isAsking) [_, _, _, _] dX10_make_5 lkX10_108 mvX1_isAsking rfl (c_X1_isAsking _ _ _ _) (by decide) (by decide) (by decide) rfl (Nat.le_of_ble_eq_true rfl) (fun zr5 σ zh5 => ?_)
      obtain ⟨ze5, zf5⟩ := zh5
      rw [ze5, zf5]
      refine g_if_ne (tgt := 13) dX10_make_8 (by decide) (fun zc8 => ?_) (fun zc8 => ?_)
      · refine g_aload_n (i := 0) dX10_make_13 rfl rfl ?_
        refine g_getf dX10_make_14 flX10_68 (hR.1.1) rfl ?_
        refine g_bipush (v := 60) dX10_make_17 (by decide) ?_
        refine g_icmp_lt (tgt := 25) dX10_make_19 (by decide) (fun zc19 => ?_) (fun zc19 => ?_)
        · exact absurd zc19 (by rw [hl]; decide)
        · refine g_bipush (v := (-2)) dX10_make_22 (by decide) ?_
          refine g_iret dX10_make_24 rfl ?_
          exact ⟨_, rfl, rfl, hR.rc⟩
      · exact absurd hi (bI_eq0.mp zc8)
    · have hv : sMake A w sg ws d tz = (nI A.1.length, aNote (A.1 ++ [(w, mkL w sg ws d tz)], A.2) (1, A.1.length, 0, 0, (0, []))) := by unfold sMake; rw [if_pos hi, if_neg hl]
      rw [hv]
      obtain ⟨N, hN, hwN⟩ := isW_N hi.1
      have hT := Tz_of (hz hi)
      have hH : WH N w (mSz w sg d) tz (gUshr (mSz w sg d) (nI tz)) := ⟨hN, hwN, hT, rfl, sz_lt hN hwN, ne0_N.mp (sz_pos hi)⟩
      have hset : ∀ X Y : List aSt, (A.1 ++ [(w, X)]).set A.1.length (w, Y) = A.1 ++ [(w, Y)] := by
        intro X Y
        rw [List.set_append_right _ _ (Nat.le_refl _), Nat.sub_self]
        rfl
      have t69 : ∀ (bc bs : Nat) (σ : gH) (ow' : Nat → Nat) (cs' : List cA) (ff' : Nat → Option Nat) (v6 : Option Value), RCx σ ow' x (aNote (A.1 ++ [(w, mkL w sg ws d tz)], A.2) (1, A.1.length, 0, 0, (0, []))) ad hk cs' ff' → G l mX10_make 7 bc bs (pI (cP x (nI A.1.length, aNote (A.1 ++ [(w, mkL w sg ws d tz)], A.2) (1, A.1.length, 0, 0, (0, []))))) σ 69 [some (.ref x), some (.int w), some (.int sg), some (.int ws), some (.long d), none, v6] [] := by
        intro bc bs σ ow' cs' ff' v6 hR5
        refine g_aload_n (i := 0) dX10_make_69 rfl rfl ?_
        refine g_getf dX10_make_70 flX10_68 (hR5.1.1) rfl ?_
        refine g_iconst (v := 1) dX10_make_73 (by decide) ?_
        refine g_isub dX10_make_74 ?_
        rw [show nI (aNote (A.1 ++ [(w, mkL w sg ws d tz)], A.2) (1, A.1.length, 0, 0, (0, []))).1.length - 1 = nI A.1.length from by (show nI (A.1 ++ [(w, mkL w sg ws d tz)]).length - 1 = _; rw [List.length_append]; exact nI_pred _)]
        refine g_iret dX10_make_75 rfl ?_
        exact ⟨_, rfl, rfl, hR5.rc⟩
      refine g_iload_n (i := 1) dX10_make_0 rfl rfl ?_
      refine g_iload_n (i := 2) dX10_make_1 rfl rfl ?_
      refine g_iload_n (i := 3) dX10_make_2 rfl rfl ?_
      refine g_lload dX10_make_3 rfl ?_
      refine g_callSi (My := mX1_isAsking) [_, _, _, _] dX10_make_5 lkX10_108 mvX1_isAsking rfl (c_X1_isAsking _ _ _ _) (by decide) (by decide) (by decide) rfl (Nat.le_of_ble_eq_true rfl) (fun zr5 σ zh5 => ?_)
      obtain ⟨ze5, zf5⟩ := zh5
      rw [ze5, zf5]
      refine g_if_ne (tgt := 13) dX10_make_8 (by decide) (fun zc8 => ?_) (fun zc8 => ?_)
      · refine g_aload_n (i := 0) dX10_make_13 rfl rfl ?_
        refine g_getf dX10_make_14 flX10_68 (hR.1.1) rfl ?_
        refine g_bipush (v := 60) dX10_make_17 (by decide) ?_
        refine g_icmp_lt (tgt := 25) dX10_make_19 (by decide) (fun zc19 => ?_) (fun zc19 => ?_)
        · refine g_new dX10_make_25 nwX10_114 (by decide) (by decide) (fun zq25 zhq25 => ?_)
          have hsW := Sm.none (ow := ow) zhq25 (gO 7 [.null, .null, .int 0, .long 0, .int 0, .long 0]) 401
          have hR1 := hR.new hsW
          have hW1 : Pt (su τ zq25 (gO 7 [.null, .null, .int 0, .long 0, .int 0, .long 0])) (va_up ow zq25 401) zq25 401 (gO 7 [.null, .null, .int 0, .long 0, .int 0, .long 0]) := ⟨su_self _ _ _, va_up_self _ _ _⟩
          refine g_dup dX10_make_28 rfl ?_
          refine g_aload_n (i := 0) dX10_make_29 rfl rfl ?_
          refine g_iload_n (i := 1) dX10_make_30 rfl rfl ?_
          refine g_callVq (My := mX10_openForm) [_] dX10_make_31 lkX10_72 mvX10_openForm rfl (hR1.1.1) rfl (c_X10_openForm hR1 (by omega) w) (by decide) (by decide) (by decide) rfl (Nat.le_of_ble_eq_true rfl) (fun zr31 σ2 zh31 => ?_)
          obtain ⟨b, ow2, ff2, ze31, hb2, hs2, hR2⟩ := zh31
          rw [ze31]
          refine g_tor b rfl ?_
          have hW2 := hW1.mono hs2 (by omega)
          refine g_new dX10_make_34 nwX10_109 (by decide) (by decide) (fun zq34 zhq34 => ?_)
          refine g_dup dX10_make_37 rfl ?_
          refine g_iload_n (i := 1) dX10_make_38 rfl rfl ?_
          refine g_iload_n (i := 2) dX10_make_39 rfl rfl ?_
          refine g_iload_n (i := 3) dX10_make_40 rfl rfl ?_
          refine g_lload dX10_make_41 rfl ?_
          refine g_callIv (My := mX1_init) [_, _, _, _] dX10_make_43 lkX10_116 mvX1_init rfl (c_X1_init (su_self _ _ _) _ _ _ _) (by decide) (by decide) (by decide) rfl (Nat.le_of_ble_eq_true rfl) (fun σ zh43 => ?_)
          rw [zh43, su_su]
          have hs3 := Sm.none (ow := ow2) zhq34 (gO 1 [.int w, .int (bI (sg = 1)), .int ws, .long (cDv w sg d)]) 400
          have hR3 := hR2.new hs3
          have hW3 := hW2.mono hs3 (fun z => z)
          have hA3 : Pt (su σ2 zq34 (gO 1 [.int w, .int (bI (sg = 1)), .int ws, .long (cDv w sg d)])) (va_up ow2 zq34 400) zq34 400 (gO 1 [.int w, .int (bI (sg = 1)), .int ws, .long (cDv w sg d)]) := ⟨su_self _ _ _, va_up_self _ _ _⟩
          refine g_callIv (My := mX9_init) [_, _] dX10_make_46 lkX10_119 mvX9_init rfl (c_X9_init hW3.1 hA3.1 hi.1 hi.2.1 (hz hi)) (by decide) (by decide) (by decide) rfl (Nat.le_of_ble_eq_true rfl) (fun σ zh46 => ?_)
          rw [zh46]
          have hs4 : Sm (fun m => m = 401) (su σ2 zq34 (gO 1 [.int w, .int (bI (sg = 1)), .int ws, .long (cDv w sg d)])) (va_up ow2 zq34 400) (su (su σ2 zq34 (gO 1 [.int w, .int (bI (sg = 1)), .int ws, .long (cDv w sg d)])) zq25 (gO 7 [.ref b, .ref zq34, .int w, .long (mSz w sg d), .int (nI tz), .long (gUshr (mSz w sg d) (nI tz))])) (va_up ow2 zq34 400) := Sm.stp hW3.2 _
          have hR4 := hR3.oth2 hs4
          have hC : CWr _ (va_up ow2 zq34 400) x (aNote (A.1 ++ [(w, [])], A.2) (1, A.1.length, 0, 0, (0, []))) ad hk _ ff2 A.1.length w [] b zq25 zq34 (bI (sg = 1)) ws (cDv w sg d) (mSz w sg d) tz (gUshr (mSz w sg d) (nI tz)) := ⟨by (have e : ((aNote (A.1 ++ [(w, ([] : List aSt))], A.2) (1, A.1.length, 0, 0, (0, []))).1.set A.1.length (w, [])) = A.1 ++ [(w, [])] := hset _ _); rw [e]; exact hR4, by (show A.1.length < (A.1 ++ [(w, [])]).length); rw [List.length_append]; exact Nat.lt_succ_self _, hb2, hW3.up _, hA3.mono hs4 (by decide)⟩
          refine g_astore (ls' := [_, _, _, _, _, _, _]) dX10_make_49 (by decide) rfl rfl ?_
          refine g_iload_n (i := 2) dX10_make_51 rfl rfl ?_
          refine g_iconst (v := 1) dX10_make_52 (by decide) ?_
          refine g_icmp_ne (tgt := 64) dX10_make_53 (by decide) (fun zc53 => ?_) (fun zc53 => ?_)
          · refine g_aload dX10_make_64 rfl ?_
            refine g_callVv (My := mX9_writePlain) [] dX10_make_66 lkX10_125 mvX9_writePlain rfl (hC.2.2.2.1.1) rfl (c_X9_writePlain hC hH hi.2.2.1 (plain_dv hi zc53)) (by decide) (by decide) (by decide) rfl (Nat.le_of_ble_eq_true rfl) (fun σ zh66 => ?_)
            obtain ⟨ow5, hC5⟩ := zh66
            have hR5 := hC5.1
            rw [show ((aNote (A.1 ++ [(w, ([] : List aSt))], A.2) (1, A.1.length, 0, 0, (0, []))).1.set A.1.length (w, wplL w ws (mSz w sg d) (gUshr (mSz w sg d) (nI tz)) tz)) = A.1 ++ [(w, mkL w sg ws d tz)] from by (unfold mkL; rw [if_pos (hi.2.1.elim (fun q => q) (fun q => absurd q zc53))]; exact hset _ _)] at hR5
            exact t69 _ _ _ _ _ _ _ hR5
          · refine g_aload dX10_make_56 rfl ?_
            refine g_callVv (My := mX9_writeSigned) [] dX10_make_58 lkX10_122 mvX9_writeSigned rfl (hC.2.2.2.1.1) rfl (c_X9_writeSigned (d := d) hC hH hi.2.2.1 (by rw [zc53]; unfold cDv; rw [if_pos rfl, sig_eq _ hi.1]) (by rw [zc53])) (by decide) (by decide) (by decide) rfl (Nat.le_of_ble_eq_true rfl) (fun σ zh58 => ?_)
            obtain ⟨ow5, hC5⟩ := zh58
            have hR5 := hC5.1
            rw [show ((aNote (A.1 ++ [(w, ([] : List aSt))], A.2) (1, A.1.length, 0, 0, (0, []))).1.set A.1.length (w, wsgL w ws d (mSz w sg d) (gUshr (mSz w sg d) (nI tz)) tz)) = A.1 ++ [(w, mkL w sg ws d tz)] from by (unfold mkL; rw [if_neg (by rw [zc53]; decide)]; exact hset _ _)] at hR5
            refine g_goto (tgt := 69) dX10_make_61 (by decide) ?_
            exact t69 _ _ _ _ _ _ _ hR5
        · exact absurd (nI_lt (b := 60) (by omega) (by decide)) zc19
      · exact absurd hi (bI_eq0.mp zc8)
  · have hv : sMake A w sg ws d tz = (-1, A) := by unfold sMake; rw [if_neg hi]
    rw [hv]
    refine g_iload_n (i := 1) dX10_make_0 rfl rfl ?_
    refine g_iload_n (i := 2) dX10_make_1 rfl rfl ?_
    refine g_iload_n (i := 3) dX10_make_2 rfl rfl ?_
    refine g_lload dX10_make_3 rfl ?_
    refine g_callSi (My := mX1_isAsking) [_, _, _, _] dX10_make_5 lkX10_108 mvX1_isAsking rfl (c_X1_isAsking _ _ _ _) (by decide) (by decide) (by decide) rfl (Nat.le_of_ble_eq_true rfl) (fun zr5 σ zh5 => ?_)
    obtain ⟨ze5, zf5⟩ := zh5
    rw [ze5, zf5]
    refine g_if_ne (tgt := 13) dX10_make_8 (by decide) (fun zc8 => ?_) (fun zc8 => ?_)
    · exact absurd (bI_ne0.mp zc8) hi
    · refine g_iconst (v := (-1)) dX10_make_11 (by decide) ?_
      refine g_iret dX10_make_12 rfl ?_
      exact ⟨_, rfl, rfl, hR.rc⟩
end CMake2
