/-! the reference: what MAKE writes, PLAIN -/
noncomputable def pwL (w : Int32) (D od : Int64) (tz : Nat) (z : Int32) (n : Nat) : List aSt :=
  if nI tz ≤ 0 then [st1 w 4 z (mInv od), st1 w 11 (nI (n + 1)) (mQuo (mLow (-1) w) D)] else [st1 w 4 z (mInv od), st1 w 10 (nI (n + 1)) (nI tz).toInt64, st1 w 11 (nI (n + 2)) (mQuo (mLow (-1) w) D)]
noncomputable def wplL (w ws : Int32) (D od : Int64) (tz : Nat) : List aSt :=
  if ws = 0 ∨ ws = 1 then pqL w D od tz 0 0 else if ws = 2 ∨ ws = 3 then (if od = 1 then [st1 w 9 0 (D - 1)] else pqL w D od tz 0 0 ++ roL w (nI (pqL w D od tz 0 0).length) D (pqL w D od tz 0 0).length) else if ws = 4 then pwL w D od tz 0 0 else
  if od = 1 then [st1 w 0 0 (nI tz).toInt64] else if 0 < nI tz then [st1 w 0 0 (nI tz).toInt64, st1 w 4 1 (mInv od)] else [st1 w 4 0 (mInv od)]
theorem pqL_len (w : Int32) (D od : Int64) (tz : Nat) (z : Int32) (n : Nat) : (pqL w D od tz z n).length ≤ 5 := by
  unfold pqL
  repeat' split
  all_goals exact Nat.le_of_ble_eq_true rfl
section CMwrite2
variable {l : Launch} {o : Nat} {ad : Nat → Nat} {S : mS} {A : aA} {σ : gH} {j : Nat} {w : Int32}
theorem c_X11_plainWhole (hM : Mm σ o ad S) {L : List aSt} (hW : WR S A j w L) (hl : L.length + 3 ≤ 12) (z : Int32) {D od : Int64} {tz : Nat} (hD : S.2.1 18 = D) (ht : S.1 19 = nI tz) (ho : S.2.1 20 = od) : Ct l mX11_plainWhole 3 0 0 [.ref o, .int (nI j), .int z] σ (pI (wP o ad S A j w (L ++ pwL w D od tz z L.length))) := by
  have hj := hW.j60
  have hcj : (nI j).toNatClampNeg = j := nI_clamp (by omega)
  have hJ : vp_in (nI j) 60 := vp_in_nI (by omega) (by decide)
  refine Ct_of moX11_plainWhole [some (.ref o), some (.int (nI j)), some (.int z), none, none] rfl (Nat.le_of_ble_eq_true rfl) ?_
  refine g_aload_n (i := 0) dX11_plainWhole_0 rfl rfl ?_
  refine gm_get hM (k := 3) dX11_plainWhole_1 flX11_7 rfl ?_
  refine g_iload_n (i := 1) dX11_plainWhole_4 rfl rfl ?_
  refine gm_iald hM dX11_plainWhole_5 rfl (hJ) ?_
  refine g_toi w (by rw [hcj]; exact hW.wd) ?_
  refine g_istore_n (i := 3) (ls' := [_, _, _, _, _]) dX11_plainWhole_6 rfl (by decide) rfl rfl ?_
  refine g_aload_n (i := 0) dX11_plainWhole_7 rfl rfl ?_
  refine g_iload_n (i := 1) dX11_plainWhole_8 rfl rfl ?_
  refine g_iconst (v := 4) dX11_plainWhole_9 (by decide) ?_
  refine g_iload_n (i := 2) dX11_plainWhole_10 rfl rfl ?_
  refine g_aload_n (i := 0) dX11_plainWhole_11 rfl rfl ?_
  refine gm_get hM (k := 20) dX11_plainWhole_12 flX11_177 rfl ?_
  refine g_tol od ho ?_
  refine g_callSl (My := mX11_inverseOf) [_] dX11_plainWhole_15 lkX11_198 mvX11_inverseOf rfl (c_X11_inverseOf _) (by decide) (by decide) (by decide) rfl (Nat.le_of_ble_eq_true rfl) (fun zr15 σ zh15 => ?_)
  obtain ⟨ze15, zf15⟩ := zh15
  rw [ze15, zf15]
  refine g_callVi (My := mX11_put) [_, _, _, _] dX11_plainWhole_18 lkX11_167 mvX11_put rfl hM.1 rfl (c_putW hM hW (by omega) _ _ _) (by decide) (by decide) (by decide) rfl (Nat.le_of_ble_eq_true rfl) (fun zr18 σ zh18 => ?_)
  obtain ⟨rfl, S1, hM, hW, e1, e2⟩ := zh18
  refine g_istore (ls' := [_, _, _, _, _]) dX11_plainWhole_21 (by decide) rfl rfl ?_
  refine g_aload_n (i := 0) dX11_plainWhole_23 rfl rfl ?_
  refine gm_get hM (k := 19) dX11_plainWhole_24 flX11_174 rfl ?_
  refine g_toi (nI tz) (by rw [e2]; exact ht) ?_
  refine g_if_le (tgt := 46) dX11_plainWhole_27 (by decide) (fun zc27 => ?_) (fun zc27 => ?_)
  · refine g_aload_n (i := 0) dX11_plainWhole_46 rfl rfl ?_
    refine g_iload_n (i := 1) dX11_plainWhole_47 rfl rfl ?_
    refine g_bipush (v := 11) dX11_plainWhole_48 (by decide) ?_
    refine g_iload dX11_plainWhole_50 rfl ?_
    refine g_aload_n (i := 0) dX11_plainWhole_52 rfl rfl ?_
    refine g_ldc2 (v := (-1)) dX11_plainWhole_53 klX11_202 ?_
    refine g_iload_n (i := 3) dX11_plainWhole_56 rfl rfl ?_
    refine g_callSl (My := mX11_low) [_, _] dX11_plainWhole_57 lkX11_105 mvX11_low rfl (c_X11_low _ _) (by decide) (by decide) (by decide) rfl (Nat.le_of_ble_eq_true rfl) (fun zr57 σ zh57 => ?_)
    obtain ⟨ze57, zf57⟩ := zh57
    rw [ze57, zf57]
    refine g_aload_n (i := 0) dX11_plainWhole_60 rfl rfl ?_
    skip
    refine gm_get hM (k := 18) dX11_plainWhole_61 flX11_171 rfl ?_
    first
    | refine g_tol D (by rw [e3, e1]; exact hD) ?_
    | refine g_tol D (by rw [e1]; exact hD) ?_
    refine g_callVl (My := mX11_quotient) [_, _] dX11_plainWhole_64 lkX11_180 mvX11_quotient rfl hM.1 rfl (c_X11_quotient hM _ _) (by decide) (by decide) (by decide) rfl (Nat.le_of_ble_eq_true rfl) (fun zr64 σ zh64 => ?_)
    obtain ⟨ze64, hM⟩ := zh64
    rw [ze64]
    have hW := hW.sF ((sF.rf _ [] [1]).ul (k := 1) (by decide) (mRem (mLow (-1) w) D)) (by decide)
    refine g_callVi (My := mX11_put) [_, _, _, _] dX11_plainWhole_67 lkX11_167 mvX11_put rfl hM.1 rfl (c_putW hM hW (by rw [List.length_append]; exact Nat.lt_of_le_of_lt (Nat.add_le_add_left (show _ ≤ 2 from Nat.le_of_ble_eq_true rfl) _) (by omega)) _ _ _) (by decide) (by decide) (by decide) rfl (Nat.le_of_ble_eq_true rfl) (fun zr67 σ zh67 => ?_)
    obtain ⟨ze67, S4, hM, hW, e5, e6⟩ := zh67
    rw [List.append_assoc] at hW
    rw [List.length_append] at ze67
    refine g_iret dX11_plainWhole_70 rfl ?_
    first
    | (have hv : pwL w D od tz z L.length = [st1 w 4 z (mInv od), st1 w 11 (nI (L.length + 1)) (mQuo (mLow (-1) w) D)] := if_pos zc27
       rw [hv]
       exact ⟨_, rfl, by rw [ze67, List.length_append (as := L)]; rfl, S4, hM, hW, by rw [e5]; show S1.2.1 18 = _; rw [e1], by rw [e6]; show S1.1 19 = _; rw [e2], by rw [e5]; show S1.2.1 20 = _; rw [e1]⟩)
    | (have hv : pwL w D od tz z L.length = [st1 w 4 z (mInv od), st1 w 10 (nI (L.length + 1)) (nI tz).toInt64, st1 w 11 (nI (L.length + 2)) (mQuo (mLow (-1) w) D)] := if_neg zc27
       rw [hv]
       exact ⟨_, rfl, by rw [ze67, List.length_append (as := L)]; rfl, S4, hM, hW, by rw [e5]; show S2.2.1 18 = _; rw [e3, e1], by rw [e6]; show S2.1 19 = _; rw [e4, e2], by rw [e5]; show S2.2.1 20 = _; rw [e3, e1]⟩)
  · refine g_aload_n (i := 0) dX11_plainWhole_30 rfl rfl ?_
    refine g_iload_n (i := 1) dX11_plainWhole_31 rfl rfl ?_
    refine g_bipush (v := 10) dX11_plainWhole_32 (by decide) ?_
    refine g_iload dX11_plainWhole_34 rfl ?_
    refine g_aload_n (i := 0) dX11_plainWhole_36 rfl rfl ?_
    refine gm_get hM (k := 19) dX11_plainWhole_37 flX11_174 rfl ?_
    refine g_toi (nI tz) (by rw [e2]; exact ht) ?_
    refine g_i2l dX11_plainWhole_40 ?_
    refine g_callVi (My := mX11_put) [_, _, _, _] dX11_plainWhole_41 lkX11_167 mvX11_put rfl hM.1 rfl (c_putW hM hW (by rw [List.length_append]; exact Nat.lt_of_lt_of_le (show L.length + 1 < L.length + 3 by omega) hl) _ _ _) (by decide) (by decide) (by decide) rfl (Nat.le_of_ble_eq_true rfl) (fun zr41 σ zh41 => ?_)
    obtain ⟨ze41, S2, hM, hW, e3, e4⟩ := zh41
    rw [List.append_assoc] at hW
    rw [List.length_append] at ze41
    rw [show zr41 = nI (L.length + 2) from ze41]
    refine g_istore (ls' := [_, _, _, _, _]) dX11_plainWhole_44 (by decide) rfl rfl ?_
    refine g_aload_n (i := 0) dX11_plainWhole_46 rfl rfl ?_
    refine g_iload_n (i := 1) dX11_plainWhole_47 rfl rfl ?_
    refine g_bipush (v := 11) dX11_plainWhole_48 (by decide) ?_
    refine g_iload dX11_plainWhole_50 rfl ?_
    refine g_aload_n (i := 0) dX11_plainWhole_52 rfl rfl ?_
    refine g_ldc2 (v := (-1)) dX11_plainWhole_53 klX11_202 ?_
    refine g_iload_n (i := 3) dX11_plainWhole_56 rfl rfl ?_
    refine g_callSl (My := mX11_low) [_, _] dX11_plainWhole_57 lkX11_105 mvX11_low rfl (c_X11_low _ _) (by decide) (by decide) (by decide) rfl (Nat.le_of_ble_eq_true rfl) (fun zr57 σ zh57 => ?_)
    obtain ⟨ze57, zf57⟩ := zh57
    rw [ze57, zf57]
    refine g_aload_n (i := 0) dX11_plainWhole_60 rfl rfl ?_
    skip
    refine gm_get hM (k := 18) dX11_plainWhole_61 flX11_171 rfl ?_
    first
    | refine g_tol D (by rw [e3, e1]; exact hD) ?_
    | refine g_tol D (by rw [e1]; exact hD) ?_
    refine g_callVl (My := mX11_quotient) [_, _] dX11_plainWhole_64 lkX11_180 mvX11_quotient rfl hM.1 rfl (c_X11_quotient hM _ _) (by decide) (by decide) (by decide) rfl (Nat.le_of_ble_eq_true rfl) (fun zr64 σ zh64 => ?_)
    obtain ⟨ze64, hM⟩ := zh64
    rw [ze64]
    have hW := hW.sF ((sF.rf _ [] [1]).ul (k := 1) (by decide) (mRem (mLow (-1) w) D)) (by decide)
    refine g_callVi (My := mX11_put) [_, _, _, _] dX11_plainWhole_67 lkX11_167 mvX11_put rfl hM.1 rfl (c_putW hM hW (by rw [List.length_append]; exact Nat.lt_of_le_of_lt (Nat.add_le_add_left (show _ ≤ 2 from Nat.le_of_ble_eq_true rfl) _) (by omega)) _ _ _) (by decide) (by decide) (by decide) rfl (Nat.le_of_ble_eq_true rfl) (fun zr67 σ zh67 => ?_)
    obtain ⟨ze67, S4, hM, hW, e5, e6⟩ := zh67
    rw [List.append_assoc] at hW
    rw [List.length_append] at ze67
    refine g_iret dX11_plainWhole_70 rfl ?_
    first
    | (have hv : pwL w D od tz z L.length = [st1 w 4 z (mInv od), st1 w 11 (nI (L.length + 1)) (mQuo (mLow (-1) w) D)] := if_pos zc27
       rw [hv]
       exact ⟨_, rfl, by rw [ze67, List.length_append (as := L)]; rfl, S4, hM, hW, by rw [e5]; show S1.2.1 18 = _; rw [e1], by rw [e6]; show S1.1 19 = _; rw [e2], by rw [e5]; show S1.2.1 20 = _; rw [e1]⟩)
    | (have hv : pwL w D od tz z L.length = [st1 w 4 z (mInv od), st1 w 10 (nI (L.length + 1)) (nI tz).toInt64, st1 w 11 (nI (L.length + 2)) (mQuo (mLow (-1) w) D)] := if_neg zc27
       rw [hv]
       exact ⟨_, rfl, by rw [ze67, List.length_append (as := L)]; rfl, S4, hM, hW, by rw [e5]; show S2.2.1 18 = _; rw [e3, e1], by rw [e6]; show S2.1 19 = _; rw [e4, e2], by rw [e5]; show S2.2.1 20 = _; rw [e3, e1]⟩)
theorem c_X11_writePlain (hM : Mm σ o ad S) (hW : WR S A j w []) (ws : Int32) (hws : 0 ≤ ws ∧ ws ≤ 5) {D od : Int64} {tz : Nat} (htz : tz < 64) (hD : S.2.1 18 = D) (ht : S.1 19 = nI tz) (ho : S.2.1 20 = od) : Ct l mX11_writePlain 5 0 0 [.ref o, .int (nI j), .int ws] σ (pI (wP o ad S A j w (wplL w ws D od tz))) := by
  refine Ct_of moX11_writePlain [some (.ref o), some (.int (nI j)), some (.int ws), none] rfl (Nat.le_of_ble_eq_true rfl) ?_
  refine g_iload_n (i := 2) dX11_writePlain_0 rfl rfl ?_
  by_cases e1_0 : ws = 0
  · refine g_tbIn (c := 0) (tgt := 36) e1_0 dX11_writePlain_1 (by decide) (by decide) rfl (by decide) ?_
    refine g_aload_n (i := 0) dX11_writePlain_36 rfl rfl ?_
    refine g_iload_n (i := 1) dX11_writePlain_37 rfl rfl ?_
    refine g_iconst (v := 0) dX11_writePlain_38 (by decide) ?_
    refine g_callVi (My := mX11_plainQuotient) [_, _] dX11_writePlain_39 lkX11_204 mvX11_plainQuotient rfl hM.1 rfl (c_X11_plainQuotient hM hW (by decide) 0 hD ht ho) (by decide) (by decide) (by decide) rfl (Nat.le_of_ble_eq_true rfl) (fun zr39 σ zh39 => ?_)
    have hv : wplL w ws D od tz = pqL w D od tz 0 0 := if_pos (by first | exact Or.inl e1_0 | exact Or.inr e1_1)
    rw [hv]
    refine g_iret dX11_writePlain_42 rfl ?_
    exact ⟨_, rfl, zh39⟩
  by_cases e1_1 : ws = 1
  · refine g_tbIn (c := 1) (tgt := 36) e1_1 dX11_writePlain_1 (by decide) (by decide) rfl (by decide) ?_
    refine g_aload_n (i := 0) dX11_writePlain_36 rfl rfl ?_
    refine g_iload_n (i := 1) dX11_writePlain_37 rfl rfl ?_
    refine g_iconst (v := 0) dX11_writePlain_38 (by decide) ?_
    refine g_callVi (My := mX11_plainQuotient) [_, _] dX11_writePlain_39 lkX11_204 mvX11_plainQuotient rfl hM.1 rfl (c_X11_plainQuotient hM hW (by decide) 0 hD ht ho) (by decide) (by decide) (by decide) rfl (Nat.le_of_ble_eq_true rfl) (fun zr39 σ zh39 => ?_)
    have hv : wplL w ws D od tz = pqL w D od tz 0 0 := if_pos (by first | exact Or.inl e1_0 | exact Or.inr e1_1)
    rw [hv]
    refine g_iret dX11_writePlain_42 rfl ?_
    exact ⟨_, rfl, zh39⟩
  by_cases e1_2 : ws = 2
  · refine g_tbIn (c := 2) (tgt := 43) e1_2 dX11_writePlain_1 (by decide) (by decide) rfl (by decide) ?_
    refine g_aload_n (i := 0) dX11_writePlain_43 rfl rfl ?_
    refine gm_get hM (k := 20) dX11_writePlain_44 flX11_177 rfl ?_
    refine g_tol od ho ?_
    refine g_lconst (v := 1) dX11_writePlain_47 (by decide) ?_
    refine g_lcmp dX11_writePlain_48 ?_
    refine g_if_ne (tgt := 69) dX11_writePlain_49 (by decide) (fun zc49 => ?_) (fun zc49 => ?_)
    · refine g_aload_n (i := 0) dX11_writePlain_69 rfl rfl ?_
      refine g_iload_n (i := 1) dX11_writePlain_70 rfl rfl ?_
      refine g_aload_n (i := 0) dX11_writePlain_71 rfl rfl ?_
      refine g_iload_n (i := 1) dX11_writePlain_72 rfl rfl ?_
      refine g_iconst (v := 0) dX11_writePlain_73 (by decide) ?_
      refine g_callVi (My := mX11_plainQuotient) [_, _] dX11_writePlain_74 lkX11_204 mvX11_plainQuotient rfl hM.1 rfl (c_X11_plainQuotient hM hW (by decide) 0 hD ht ho) (by decide) (by decide) (by decide) rfl (Nat.le_of_ble_eq_true rfl) (fun zr74 σ zh74 => ?_)
      obtain ⟨ze74, S1, hM, hW, hk⟩ := zh74
      rw [ze74]
      refine g_aload_n (i := 0) dX11_writePlain_77 rfl rfl ?_
      refine gm_get hM (k := 18) dX11_writePlain_78 flX11_171 rfl ?_
      refine g_tol D (hk.1.trans hD) ?_
      refine g_callVi (My := mX11_restOf) [_, _, _] dX11_writePlain_81 lkX11_208 mvX11_restOf rfl hM.1 rfl (c_X11_restOf hM hW (by have := pqL_len w D od tz 0 0; rw [List.nil_append]; exact Nat.le_trans (Nat.add_le_add_right this 2) (by decide)) _ _) (by decide) (by decide) (by decide) rfl (Nat.le_of_ble_eq_true rfl) (fun zr81 σ zh81 => ?_)
      obtain ⟨ze81, S2, hM, hW, hk2⟩ := zh81
      refine g_iret dX11_writePlain_84 rfl ?_
      have hn : ¬ (ws = 0 ∨ ws = 1) := fun z => z.elim e1_0 e1_1
      have h23 : ws = 2 ∨ ws = 3 := by first | exact Or.inl e1_2 | exact Or.inr e1_3
      first
      | (have hv : wplL w ws D od tz = [st1 w 9 0 (D - 1)] := (if_neg hn).trans ((if_pos h23).trans (if_pos ((lg_cmp_eq _ _).mp zc49)))
         rw [hv]
         exact ⟨_, rfl, rfl, S1, hM, hW, by rw [e1], by rw [e2], by rw [e1]⟩)
      | (have hv : wplL w ws D od tz = pqL w D od tz 0 0 ++ roL w (nI (pqL w D od tz 0 0).length) D (pqL w D od tz 0 0).length := (if_neg hn).trans ((if_pos h23).trans (if_neg (fun q => zc49 ((lg_cmp_eq _ _).mpr q))))
         rw [hv]
         exact ⟨_, rfl, ze81, S2, hM, hW, hk2.1.trans hk.1, hk2.2.1.trans hk.2.1, hk2.2.2.trans hk.2.2⟩)
    · refine g_aload_n (i := 0) dX11_writePlain_52 rfl rfl ?_
      refine g_iload_n (i := 1) dX11_writePlain_53 rfl rfl ?_
      refine g_bipush (v := 9) dX11_writePlain_54 (by decide) ?_
      refine g_iconst (v := 0) dX11_writePlain_56 (by decide) ?_
      refine g_aload_n (i := 0) dX11_writePlain_57 rfl rfl ?_
      refine gm_get hM (k := 18) dX11_writePlain_58 flX11_171 rfl ?_
      refine g_tol D hD ?_
      refine g_lconst (v := 1) dX11_writePlain_61 (by decide) ?_
      refine g_lsub dX11_writePlain_62 ?_
      refine g_callVi (My := mX11_put) [_, _, _, _] dX11_writePlain_63 lkX11_167 mvX11_put rfl hM.1 rfl (c_putW hM hW (by decide) _ _ _) (by decide) (by decide) (by decide) rfl (Nat.le_of_ble_eq_true rfl) (fun zr63 σ zh63 => ?_)
      obtain ⟨rfl, S1, hM, hW, e1, e2⟩ := zh63
      refine g_goto (tgt := 84) dX11_writePlain_66 (by decide) ?_
      refine g_iret dX11_writePlain_84 rfl ?_
      have hn : ¬ (ws = 0 ∨ ws = 1) := fun z => z.elim e1_0 e1_1
      have h23 : ws = 2 ∨ ws = 3 := by first | exact Or.inl e1_2 | exact Or.inr e1_3
      first
      | (have hv : wplL w ws D od tz = [st1 w 9 0 (D - 1)] := (if_neg hn).trans ((if_pos h23).trans (if_pos ((lg_cmp_eq _ _).mp zc49)))
         rw [hv]
         exact ⟨_, rfl, rfl, S1, hM, hW, by rw [e1], by rw [e2], by rw [e1]⟩)
      | (have hv : wplL w ws D od tz = pqL w D od tz 0 0 ++ roL w (nI (pqL w D od tz 0 0).length) D (pqL w D od tz 0 0).length := (if_neg hn).trans ((if_pos h23).trans (if_neg (fun q => zc49 ((lg_cmp_eq _ _).mpr q))))
         rw [hv]
         exact ⟨_, rfl, ze81, S2, hM, hW, hk2.1.trans hk.1, hk2.2.1.trans hk.2.1, hk2.2.2.trans hk.2.2⟩)
  by_cases e1_3 : ws = 3
  · refine g_tbIn (c := 3) (tgt := 43) e1_3 dX11_writePlain_1 (by decide) (by decide) rfl (by decide) ?_
    refine g_aload_n (i := 0) dX11_writePlain_43 rfl rfl ?_
    refine gm_get hM (k := 20) dX11_writePlain_44 flX11_177 rfl ?_
    refine g_tol od ho ?_
    refine g_lconst (v := 1) dX11_writePlain_47 (by decide) ?_
    refine g_lcmp dX11_writePlain_48 ?_
    refine g_if_ne (tgt := 69) dX11_writePlain_49 (by decide) (fun zc49 => ?_) (fun zc49 => ?_)
    · refine g_aload_n (i := 0) dX11_writePlain_69 rfl rfl ?_
      refine g_iload_n (i := 1) dX11_writePlain_70 rfl rfl ?_
      refine g_aload_n (i := 0) dX11_writePlain_71 rfl rfl ?_
      refine g_iload_n (i := 1) dX11_writePlain_72 rfl rfl ?_
      refine g_iconst (v := 0) dX11_writePlain_73 (by decide) ?_
      refine g_callVi (My := mX11_plainQuotient) [_, _] dX11_writePlain_74 lkX11_204 mvX11_plainQuotient rfl hM.1 rfl (c_X11_plainQuotient hM hW (by decide) 0 hD ht ho) (by decide) (by decide) (by decide) rfl (Nat.le_of_ble_eq_true rfl) (fun zr74 σ zh74 => ?_)
      obtain ⟨ze74, S1, hM, hW, hk⟩ := zh74
      rw [ze74]
      refine g_aload_n (i := 0) dX11_writePlain_77 rfl rfl ?_
      refine gm_get hM (k := 18) dX11_writePlain_78 flX11_171 rfl ?_
      refine g_tol D (hk.1.trans hD) ?_
      refine g_callVi (My := mX11_restOf) [_, _, _] dX11_writePlain_81 lkX11_208 mvX11_restOf rfl hM.1 rfl (c_X11_restOf hM hW (by have := pqL_len w D od tz 0 0; rw [List.nil_append]; exact Nat.le_trans (Nat.add_le_add_right this 2) (by decide)) _ _) (by decide) (by decide) (by decide) rfl (Nat.le_of_ble_eq_true rfl) (fun zr81 σ zh81 => ?_)
      obtain ⟨ze81, S2, hM, hW, hk2⟩ := zh81
      refine g_iret dX11_writePlain_84 rfl ?_
      have hn : ¬ (ws = 0 ∨ ws = 1) := fun z => z.elim e1_0 e1_1
      have h23 : ws = 2 ∨ ws = 3 := by first | exact Or.inl e1_2 | exact Or.inr e1_3
      first
      | (have hv : wplL w ws D od tz = [st1 w 9 0 (D - 1)] := (if_neg hn).trans ((if_pos h23).trans (if_pos ((lg_cmp_eq _ _).mp zc49)))
         rw [hv]
         exact ⟨_, rfl, rfl, S1, hM, hW, by rw [e1], by rw [e2], by rw [e1]⟩)
      | (have hv : wplL w ws D od tz = pqL w D od tz 0 0 ++ roL w (nI (pqL w D od tz 0 0).length) D (pqL w D od tz 0 0).length := (if_neg hn).trans ((if_pos h23).trans (if_neg (fun q => zc49 ((lg_cmp_eq _ _).mpr q))))
         rw [hv]
         exact ⟨_, rfl, ze81, S2, hM, hW, hk2.1.trans hk.1, hk2.2.1.trans hk.2.1, hk2.2.2.trans hk.2.2⟩)
    · refine g_aload_n (i := 0) dX11_writePlain_52 rfl rfl ?_
      refine g_iload_n (i := 1) dX11_writePlain_53 rfl rfl ?_
      refine g_bipush (v := 9) dX11_writePlain_54 (by decide) ?_
      refine g_iconst (v := 0) dX11_writePlain_56 (by decide) ?_
      refine g_aload_n (i := 0) dX11_writePlain_57 rfl rfl ?_
      refine gm_get hM (k := 18) dX11_writePlain_58 flX11_171 rfl ?_
      refine g_tol D hD ?_
      refine g_lconst (v := 1) dX11_writePlain_61 (by decide) ?_
      refine g_lsub dX11_writePlain_62 ?_
      refine g_callVi (My := mX11_put) [_, _, _, _] dX11_writePlain_63 lkX11_167 mvX11_put rfl hM.1 rfl (c_putW hM hW (by decide) _ _ _) (by decide) (by decide) (by decide) rfl (Nat.le_of_ble_eq_true rfl) (fun zr63 σ zh63 => ?_)
      obtain ⟨rfl, S1, hM, hW, e1, e2⟩ := zh63
      refine g_goto (tgt := 84) dX11_writePlain_66 (by decide) ?_
      refine g_iret dX11_writePlain_84 rfl ?_
      have hn : ¬ (ws = 0 ∨ ws = 1) := fun z => z.elim e1_0 e1_1
      have h23 : ws = 2 ∨ ws = 3 := by first | exact Or.inl e1_2 | exact Or.inr e1_3
      first
      | (have hv : wplL w ws D od tz = [st1 w 9 0 (D - 1)] := (if_neg hn).trans ((if_pos h23).trans (if_pos ((lg_cmp_eq _ _).mp zc49)))
         rw [hv]
         exact ⟨_, rfl, rfl, S1, hM, hW, by rw [e1], by rw [e2], by rw [e1]⟩)
      | (have hv : wplL w ws D od tz = pqL w D od tz 0 0 ++ roL w (nI (pqL w D od tz 0 0).length) D (pqL w D od tz 0 0).length := (if_neg hn).trans ((if_pos h23).trans (if_neg (fun q => zc49 ((lg_cmp_eq _ _).mpr q))))
         rw [hv]
         exact ⟨_, rfl, ze81, S2, hM, hW, hk2.1.trans hk.1, hk2.2.1.trans hk.2.1, hk2.2.2.trans hk.2.2⟩)
  by_cases e1_4 : ws = 4
  · refine g_tbIn (c := 4) (tgt := 85) e1_4 dX11_writePlain_1 (by decide) (by decide) rfl (by decide) ?_
    refine g_aload_n (i := 0) dX11_writePlain_85 rfl rfl ?_
    refine g_iload_n (i := 1) dX11_writePlain_86 rfl rfl ?_
    refine g_iconst (v := 0) dX11_writePlain_87 (by decide) ?_
    refine g_callVi (My := mX11_plainWhole) [_, _] dX11_writePlain_88 lkX11_212 mvX11_plainWhole rfl hM.1 rfl (c_X11_plainWhole hM hW (by decide) 0 hD ht ho) (by decide) (by decide) (by decide) rfl (Nat.le_of_ble_eq_true rfl) (fun zr88 σ zh88 => ?_)
    have hv : wplL w ws D od tz = pwL w D od tz 0 0 := (if_neg (fun z => z.elim e1_0 e1_1)).trans ((if_neg (fun z => z.elim e1_2 e1_3)).trans (if_pos e1_4))
    rw [hv]
    refine g_iret dX11_writePlain_91 rfl ?_
    exact ⟨_, rfl, zh88⟩
  refine g_tbOut (tgt := 92) dX11_writePlain_1 (g_out 0 4 (by intro i h1 h2; (rcases (show i = 0 ∨ i = 1 ∨ i = 2 ∨ i = 3 ∨ i = 4 by omega) with rfl | rfl | rfl | rfl | rfl) <;> simp_all)) (by decide) ?_
  refine g_aload_n (i := 0) dX11_writePlain_92 rfl rfl ?_
  refine gm_get hM (k := 19) dX11_writePlain_93 flX11_174 rfl ?_
  refine g_toi (nI tz) ht ?_
  refine g_if_gt (tgt := 108) dX11_writePlain_96 (by decide) (fun zc96 => ?_) (fun zc96 => ?_)
  · refine g_aload_n (i := 0) dX11_writePlain_108 rfl rfl ?_
    refine g_iload_n (i := 1) dX11_writePlain_109 rfl rfl ?_
    refine g_iconst (v := 0) dX11_writePlain_110 (by decide) ?_
    refine g_iconst (v := 0) dX11_writePlain_111 (by decide) ?_
    refine g_aload_n (i := 0) dX11_writePlain_112 rfl rfl ?_
    refine gm_get hM (k := 19) dX11_writePlain_113 flX11_174 rfl ?_
    refine g_toi (nI tz) ht ?_
    refine g_i2l dX11_writePlain_116 ?_
    refine g_callVi (My := mX11_put) [_, _, _, _] dX11_writePlain_117 lkX11_167 mvX11_put rfl hM.1 rfl (c_putW hM hW (by decide) _ _ _) (by decide) (by decide) (by decide) rfl (Nat.le_of_ble_eq_true rfl) (fun zr117 σ zh117 => ?_)
    obtain ⟨rfl, S1, hM, hW, e1, e2⟩ := zh117
    refine g_goto (tgt := 124) dX11_writePlain_120 (by decide) ?_
    refine g_istore_n (i := 3) (ls' := [_, _, _, _]) dX11_writePlain_124 rfl (by decide) rfl rfl ?_
    refine g_aload_n (i := 0) dX11_writePlain_125 rfl rfl ?_
    refine gm_get hM (k := 20) dX11_writePlain_126 flX11_177 rfl ?_
    first
    | refine g_tol od (by rw [e1]; exact ho) ?_
    | refine g_tol od ho ?_
    refine g_lconst (v := 1) dX11_writePlain_129 (by decide) ?_
    refine g_lcmp dX11_writePlain_130 ?_
    refine g_if_ne (tgt := 138) dX11_writePlain_131 (by decide) (fun zc131 => ?_) (fun zc131 => ?_)
    · refine g_aload_n (i := 0) dX11_writePlain_138 rfl rfl ?_
      refine g_iload_n (i := 1) dX11_writePlain_139 rfl rfl ?_
      refine g_iconst (v := 4) dX11_writePlain_140 (by decide) ?_
      refine g_iload_n (i := 3) dX11_writePlain_141 rfl rfl ?_
      refine g_aload_n (i := 0) dX11_writePlain_142 rfl rfl ?_
      refine gm_get hM (k := 20) dX11_writePlain_143 flX11_177 rfl ?_
      first
      | refine g_tol od (by rw [e1]; exact ho) ?_
      | refine g_tol od ho ?_
      refine g_callSl (My := mX11_inverseOf) [_] dX11_writePlain_146 lkX11_198 mvX11_inverseOf rfl (c_X11_inverseOf _) (by decide) (by decide) (by decide) rfl (Nat.le_of_ble_eq_true rfl) (fun zr146 σ zh146 => ?_)
      obtain ⟨ze146, zf146⟩ := zh146
      rw [ze146, zf146]
      refine g_callVi (My := mX11_put) [_, _, _, _] dX11_writePlain_149 lkX11_167 mvX11_put rfl hM.1 rfl (c_putW hM hW (Nat.le_of_ble_eq_true rfl) _ _ _) (by decide) (by decide) (by decide) rfl (Nat.le_of_ble_eq_true rfl) (fun zr149 σ zh149 => ?_)
      obtain ⟨ze149, S3, hM, hW, e3, e4⟩ := zh149
      refine g_iret dX11_writePlain_152 rfl ?_
      have hX : wplL w ws D od tz = (if od = 1 then [st1 w 0 0 (nI tz).toInt64] else if 0 < nI tz then [st1 w 0 0 (nI tz).toInt64, st1 w 4 1 (mInv od)] else [st1 w 4 0 (mInv od)]) := (if_neg (fun z => z.elim e1_0 e1_1)).trans ((if_neg (fun z => z.elim e1_2 e1_3)).trans (if_neg e1_4))
      first
      | (have hv := hX.trans (if_pos ((lg_cmp_eq _ _).mp zc131))
         rw [hv]
         first
         | exact ⟨_, rfl, rfl, S1, hM, hW, by rw [e1], by rw [e2], by rw [e1]⟩
         | exact absurd zc131 zc105)
      | (have hv := hX.trans ((if_neg (fun q => zc131 ((lg_cmp_eq _ _).mpr q))).trans (if_pos zc96))
         rw [hv]
         exact ⟨_, rfl, ze149, S3, hM, hW, by rw [e3, e1], by rw [e4, e2], by rw [e3, e1]⟩)
      | (have hv := hX.trans ((if_neg (fun q => zc131 ((lg_cmp_eq _ _).mpr q))).trans (if_neg zc96))
         rw [hv]
         first
         | exact ⟨_, rfl, ze149, S3, hM, hW, by rw [e3], by rw [e4], by rw [e3]⟩
         | exact absurd zc105 zc131)
    · refine g_iload_n (i := 3) dX11_writePlain_134 rfl rfl ?_
      refine g_goto (tgt := 152) dX11_writePlain_135 (by decide) ?_
      refine g_iret dX11_writePlain_152 rfl ?_
      have hX : wplL w ws D od tz = (if od = 1 then [st1 w 0 0 (nI tz).toInt64] else if 0 < nI tz then [st1 w 0 0 (nI tz).toInt64, st1 w 4 1 (mInv od)] else [st1 w 4 0 (mInv od)]) := (if_neg (fun z => z.elim e1_0 e1_1)).trans ((if_neg (fun z => z.elim e1_2 e1_3)).trans (if_neg e1_4))
      first
      | (have hv := hX.trans (if_pos ((lg_cmp_eq _ _).mp zc131))
         rw [hv]
         first
         | exact ⟨_, rfl, rfl, S1, hM, hW, by rw [e1], by rw [e2], by rw [e1]⟩
         | exact absurd zc131 zc105)
      | (have hv := hX.trans ((if_neg (fun q => zc131 ((lg_cmp_eq _ _).mpr q))).trans (if_pos zc96))
         rw [hv]
         exact ⟨_, rfl, ze149, S3, hM, hW, by rw [e3, e1], by rw [e4, e2], by rw [e3, e1]⟩)
      | (have hv := hX.trans ((if_neg (fun q => zc131 ((lg_cmp_eq _ _).mpr q))).trans (if_neg zc96))
         rw [hv]
         first
         | exact ⟨_, rfl, ze149, S3, hM, hW, by rw [e3], by rw [e4], by rw [e3]⟩
         | exact absurd zc105 zc131)
  · refine g_aload_n (i := 0) dX11_writePlain_99 rfl rfl ?_
    refine gm_get hM (k := 20) dX11_writePlain_100 flX11_177 rfl ?_
    refine g_tol od ho ?_
    refine g_lconst (v := 1) dX11_writePlain_103 (by decide) ?_
    refine g_lcmp dX11_writePlain_104 ?_
    refine g_if_ne (tgt := 123) dX11_writePlain_105 (by decide) (fun zc105 => ?_) (fun zc105 => ?_)
    · refine g_iconst (v := 0) dX11_writePlain_123 (by decide) ?_
      refine g_istore_n (i := 3) (ls' := [_, _, _, _]) dX11_writePlain_124 rfl (by decide) rfl rfl ?_
      refine g_aload_n (i := 0) dX11_writePlain_125 rfl rfl ?_
      refine gm_get hM (k := 20) dX11_writePlain_126 flX11_177 rfl ?_
      first
      | refine g_tol od (by rw [e1]; exact ho) ?_
      | refine g_tol od ho ?_
      refine g_lconst (v := 1) dX11_writePlain_129 (by decide) ?_
      refine g_lcmp dX11_writePlain_130 ?_
      refine g_if_ne (tgt := 138) dX11_writePlain_131 (by decide) (fun zc131 => ?_) (fun zc131 => ?_)
      · refine g_aload_n (i := 0) dX11_writePlain_138 rfl rfl ?_
        refine g_iload_n (i := 1) dX11_writePlain_139 rfl rfl ?_
        refine g_iconst (v := 4) dX11_writePlain_140 (by decide) ?_
        refine g_iload_n (i := 3) dX11_writePlain_141 rfl rfl ?_
        refine g_aload_n (i := 0) dX11_writePlain_142 rfl rfl ?_
        refine gm_get hM (k := 20) dX11_writePlain_143 flX11_177 rfl ?_
        first
        | refine g_tol od (by rw [e1]; exact ho) ?_
        | refine g_tol od ho ?_
        refine g_callSl (My := mX11_inverseOf) [_] dX11_writePlain_146 lkX11_198 mvX11_inverseOf rfl (c_X11_inverseOf _) (by decide) (by decide) (by decide) rfl (Nat.le_of_ble_eq_true rfl) (fun zr146 σ zh146 => ?_)
        obtain ⟨ze146, zf146⟩ := zh146
        rw [ze146, zf146]
        refine g_callVi (My := mX11_put) [_, _, _, _] dX11_writePlain_149 lkX11_167 mvX11_put rfl hM.1 rfl (c_putW hM hW (Nat.le_of_ble_eq_true rfl) _ _ _) (by decide) (by decide) (by decide) rfl (Nat.le_of_ble_eq_true rfl) (fun zr149 σ zh149 => ?_)
        obtain ⟨ze149, S3, hM, hW, e3, e4⟩ := zh149
        refine g_iret dX11_writePlain_152 rfl ?_
        have hX : wplL w ws D od tz = (if od = 1 then [st1 w 0 0 (nI tz).toInt64] else if 0 < nI tz then [st1 w 0 0 (nI tz).toInt64, st1 w 4 1 (mInv od)] else [st1 w 4 0 (mInv od)]) := (if_neg (fun z => z.elim e1_0 e1_1)).trans ((if_neg (fun z => z.elim e1_2 e1_3)).trans (if_neg e1_4))
        first
        | (have hv := hX.trans (if_pos ((lg_cmp_eq _ _).mp zc131))
           rw [hv]
           first
           | exact ⟨_, rfl, rfl, S1, hM, hW, by rw [e1], by rw [e2], by rw [e1]⟩
           | exact absurd zc131 zc105)
        | (have hv := hX.trans ((if_neg (fun q => zc131 ((lg_cmp_eq _ _).mpr q))).trans (if_pos zc96))
           rw [hv]
           exact ⟨_, rfl, ze149, S3, hM, hW, by rw [e3, e1], by rw [e4, e2], by rw [e3, e1]⟩)
        | (have hv := hX.trans ((if_neg (fun q => zc131 ((lg_cmp_eq _ _).mpr q))).trans (if_neg zc96))
           rw [hv]
           first
           | exact ⟨_, rfl, ze149, S3, hM, hW, by rw [e3], by rw [e4], by rw [e3]⟩
           | exact absurd zc105 zc131)
      · refine g_iload_n (i := 3) dX11_writePlain_134 rfl rfl ?_
        refine g_goto (tgt := 152) dX11_writePlain_135 (by decide) ?_
        refine g_iret dX11_writePlain_152 rfl ?_
        have hX : wplL w ws D od tz = (if od = 1 then [st1 w 0 0 (nI tz).toInt64] else if 0 < nI tz then [st1 w 0 0 (nI tz).toInt64, st1 w 4 1 (mInv od)] else [st1 w 4 0 (mInv od)]) := (if_neg (fun z => z.elim e1_0 e1_1)).trans ((if_neg (fun z => z.elim e1_2 e1_3)).trans (if_neg e1_4))
        first
        | (have hv := hX.trans (if_pos ((lg_cmp_eq _ _).mp zc131))
           rw [hv]
           first
           | exact ⟨_, rfl, rfl, S1, hM, hW, by rw [e1], by rw [e2], by rw [e1]⟩
           | exact absurd zc131 zc105)
        | (have hv := hX.trans ((if_neg (fun q => zc131 ((lg_cmp_eq _ _).mpr q))).trans (if_pos zc96))
           rw [hv]
           exact ⟨_, rfl, ze149, S3, hM, hW, by rw [e3, e1], by rw [e4, e2], by rw [e3, e1]⟩)
        | (have hv := hX.trans ((if_neg (fun q => zc131 ((lg_cmp_eq _ _).mpr q))).trans (if_neg zc96))
           rw [hv]
           first
           | exact ⟨_, rfl, ze149, S3, hM, hW, by rw [e3], by rw [e4], by rw [e3]⟩
           | exact absurd zc105 zc131)
    · refine g_aload_n (i := 0) dX11_writePlain_108 rfl rfl ?_
      refine g_iload_n (i := 1) dX11_writePlain_109 rfl rfl ?_
      refine g_iconst (v := 0) dX11_writePlain_110 (by decide) ?_
      refine g_iconst (v := 0) dX11_writePlain_111 (by decide) ?_
      refine g_aload_n (i := 0) dX11_writePlain_112 rfl rfl ?_
      refine gm_get hM (k := 19) dX11_writePlain_113 flX11_174 rfl ?_
      refine g_toi (nI tz) ht ?_
      refine g_i2l dX11_writePlain_116 ?_
      refine g_callVi (My := mX11_put) [_, _, _, _] dX11_writePlain_117 lkX11_167 mvX11_put rfl hM.1 rfl (c_putW hM hW (by decide) _ _ _) (by decide) (by decide) (by decide) rfl (Nat.le_of_ble_eq_true rfl) (fun zr117 σ zh117 => ?_)
      obtain ⟨rfl, S1, hM, hW, e1, e2⟩ := zh117
      refine g_goto (tgt := 124) dX11_writePlain_120 (by decide) ?_
      refine g_istore_n (i := 3) (ls' := [_, _, _, _]) dX11_writePlain_124 rfl (by decide) rfl rfl ?_
      refine g_aload_n (i := 0) dX11_writePlain_125 rfl rfl ?_
      refine gm_get hM (k := 20) dX11_writePlain_126 flX11_177 rfl ?_
      first
      | refine g_tol od (by rw [e1]; exact ho) ?_
      | refine g_tol od ho ?_
      refine g_lconst (v := 1) dX11_writePlain_129 (by decide) ?_
      refine g_lcmp dX11_writePlain_130 ?_
      refine g_if_ne (tgt := 138) dX11_writePlain_131 (by decide) (fun zc131 => ?_) (fun zc131 => ?_)
      · refine g_aload_n (i := 0) dX11_writePlain_138 rfl rfl ?_
        refine g_iload_n (i := 1) dX11_writePlain_139 rfl rfl ?_
        refine g_iconst (v := 4) dX11_writePlain_140 (by decide) ?_
        refine g_iload_n (i := 3) dX11_writePlain_141 rfl rfl ?_
        refine g_aload_n (i := 0) dX11_writePlain_142 rfl rfl ?_
        refine gm_get hM (k := 20) dX11_writePlain_143 flX11_177 rfl ?_
        first
        | refine g_tol od (by rw [e1]; exact ho) ?_
        | refine g_tol od ho ?_
        refine g_callSl (My := mX11_inverseOf) [_] dX11_writePlain_146 lkX11_198 mvX11_inverseOf rfl (c_X11_inverseOf _) (by decide) (by decide) (by decide) rfl (Nat.le_of_ble_eq_true rfl) (fun zr146 σ zh146 => ?_)
        obtain ⟨ze146, zf146⟩ := zh146
        rw [ze146, zf146]
        refine g_callVi (My := mX11_put) [_, _, _, _] dX11_writePlain_149 lkX11_167 mvX11_put rfl hM.1 rfl (c_putW hM hW (Nat.le_of_ble_eq_true rfl) _ _ _) (by decide) (by decide) (by decide) rfl (Nat.le_of_ble_eq_true rfl) (fun zr149 σ zh149 => ?_)
        obtain ⟨ze149, S3, hM, hW, e3, e4⟩ := zh149
        refine g_iret dX11_writePlain_152 rfl ?_
        have hX : wplL w ws D od tz = (if od = 1 then [st1 w 0 0 (nI tz).toInt64] else if 0 < nI tz then [st1 w 0 0 (nI tz).toInt64, st1 w 4 1 (mInv od)] else [st1 w 4 0 (mInv od)]) := (if_neg (fun z => z.elim e1_0 e1_1)).trans ((if_neg (fun z => z.elim e1_2 e1_3)).trans (if_neg e1_4))
        first
        | (have hv := hX.trans (if_pos ((lg_cmp_eq _ _).mp zc131))
           rw [hv]
           first
           | exact ⟨_, rfl, rfl, S1, hM, hW, by rw [e1], by rw [e2], by rw [e1]⟩
           | exact absurd zc131 zc105)
        | (have hv := hX.trans ((if_neg (fun q => zc131 ((lg_cmp_eq _ _).mpr q))).trans (if_pos zc96))
           rw [hv]
           exact ⟨_, rfl, ze149, S3, hM, hW, by rw [e3, e1], by rw [e4, e2], by rw [e3, e1]⟩)
        | (have hv := hX.trans ((if_neg (fun q => zc131 ((lg_cmp_eq _ _).mpr q))).trans (if_neg zc96))
           rw [hv]
           first
           | exact ⟨_, rfl, ze149, S3, hM, hW, by rw [e3], by rw [e4], by rw [e3]⟩
           | exact absurd zc105 zc131)
      · refine g_iload_n (i := 3) dX11_writePlain_134 rfl rfl ?_
        refine g_goto (tgt := 152) dX11_writePlain_135 (by decide) ?_
        refine g_iret dX11_writePlain_152 rfl ?_
        have hX : wplL w ws D od tz = (if od = 1 then [st1 w 0 0 (nI tz).toInt64] else if 0 < nI tz then [st1 w 0 0 (nI tz).toInt64, st1 w 4 1 (mInv od)] else [st1 w 4 0 (mInv od)]) := (if_neg (fun z => z.elim e1_0 e1_1)).trans ((if_neg (fun z => z.elim e1_2 e1_3)).trans (if_neg e1_4))
        first
        | (have hv := hX.trans (if_pos ((lg_cmp_eq _ _).mp zc131))
           rw [hv]
           first
           | exact ⟨_, rfl, rfl, S1, hM, hW, by rw [e1], by rw [e2], by rw [e1]⟩
           | exact absurd zc131 zc105)
        | (have hv := hX.trans ((if_neg (fun q => zc131 ((lg_cmp_eq _ _).mpr q))).trans (if_pos zc96))
           rw [hv]
           exact ⟨_, rfl, ze149, S3, hM, hW, by rw [e3, e1], by rw [e4, e2], by rw [e3, e1]⟩)
        | (have hv := hX.trans ((if_neg (fun q => zc131 ((lg_cmp_eq _ _).mpr q))).trans (if_neg zc96))
           rw [hv]
           first
           | exact ⟨_, rfl, ze149, S3, hM, hW, by rw [e3], by rw [e4], by rw [e3]⟩
           | exact absurd zc105 zc131)
end CMwrite2
