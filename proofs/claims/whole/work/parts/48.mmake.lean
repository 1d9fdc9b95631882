/-! the reference: SIGNED forms, make() -/
noncomputable def sdP (w : Int32) : List aSt := [st1 w 1 0 (w - 1).toInt64, st1 w 8 0 (nI 1).toInt64]
noncomputable def sdQ (w : Int32) (D od : Int64) (tz : Nat) : List aSt := sdP w ++ pqL w D od tz 2 2
noncomputable def sdL (w : Int32) (D od : Int64) (tz : Nat) : List aSt := sdQ w D od tz ++ [st1 w 8 (nI (sdQ w D od tz).length) (nI 1).toInt64]
theorem sdQ_len (w : Int32) (D od : Int64) (tz : Nat) : (sdQ w D od tz).length ≤ 7 := by
  unfold sdQ
  rw [List.length_append]
  have := pqL_len w D od tz 2 2
  show 2 + _ ≤ 7
  omega
theorem sdL_len (w : Int32) (D od : Int64) (tz : Nat) : (sdL w D od tz).length ≤ 8 := by
  unfold sdL
  rw [List.length_append]
  have := sdQ_len w D od tz
  show _ + 1 ≤ 8
  omega
theorem sqL_len (w : Int32) (D od : Int64) (tz : Nat) (bl : Int32) : (sqL w D od tz bl).length ≤ 6 := by
  unfold sqL
  split
  · split <;> exact Nat.le_of_ble_eq_true rfl
  · split
    · exact Nat.le_trans (sqT_len _ _ _) (Nat.le_of_ble_eq_true rfl)
    · have h1 := sqA_len w (fFactor w 1 D) (fOver w 1 D)
      have h2 := sqB_len w (fMoved w 1 D) (sqA w (fFactor w 1 D) (fOver w 1 D))
      have h3 := sqC_len w (sqB w (fMoved w 1 D) (sqA w (fFactor w 1 D) (fOver w 1 D)))
      have h4 := sqT_len w bl (sqC w (sqB w (fMoved w 1 D) (sqA w (fFactor w 1 D) (fOver w 1 D))))
      omega
noncomputable def roT (w : Int32) (d : Int64) (L : List aSt) : List aSt := L ++ roL w (nI L.length) d L.length
noncomputable def wsgL (w ws : Int32) (d D od : Int64) (tz : Nat) : List aSt :=
  if ws = 0 then sqL w D od tz (bI (mUp (mLow d w) w)) else if ws = 1 then sdL w D od tz else if ws = 2 then roT w d (sqL w D od tz (bI (mUp (mLow d w) w))) else if ws = 3 then roT w d (sdL w D od tz) else
  if ws = 4 then [st1 w 1 0 (w - 1).toInt64, st1 w 8 0 (nI 1).toInt64, st1 w 6 2 (nI 1).toInt64] ++ pwL w D od tz 3 3 else
  if gShr (mSig (mLow d w) w) (nI tz) = 1 then [st1 w 1 0 (nI tz).toInt64] else if 0 < nI tz then [st1 w 1 0 (nI tz).toInt64, st1 w 4 1 (mInv (gShr (mSig (mLow d w) w) (nI tz)))] else [st1 w 4 0 (mInv (gShr (mSig (mLow d w) w) (nI tz)))]
section CMmake
variable {l : Launch} {o : Nat} {ad : Nat → Nat} {S : mS} {A : aA} {σ : gH} {j : Nat} {w : Int32}
theorem c_X11_signedDown (hM : Mm σ o ad S) (hW : WR S A j w []) {D od : Int64} {tz : Nat} (hD : S.2.1 18 = D) (ht : S.1 19 = nI tz) (ho : S.2.1 20 = od) : Ct l mX11_signedDown 5 0 0 [.ref o, .int (nI j)] σ (pI (wP o ad S A j w (sdL w D od tz))) := by
  have hj := hW.j60
  have hcj : (nI j).toNatClampNeg = j := nI_clamp (by omega)
  have hJ : vp_in (nI j) 60 := vp_in_nI (by omega) (by decide)
  have k0 : sK S S := ⟨rfl, rfl, rfl⟩
  refine Ct_of moX11_signedDown [some (.ref o), some (.int (nI j)), none, none, none] rfl (Nat.le_of_ble_eq_true rfl) ?_
  refine g_aload_n (i := 0) dX11_signedDown_0 rfl rfl ?_
  refine g_iload_n (i := 1) dX11_signedDown_1 rfl rfl ?_
  refine g_iconst (v := 1) dX11_signedDown_2 (by decide) ?_
  refine g_iconst (v := 0) dX11_signedDown_3 (by decide) ?_
  refine g_aload_n (i := 0) dX11_signedDown_4 rfl rfl ?_
  refine gm_get hM (k := 3) dX11_signedDown_5 flX11_7 rfl ?_
  refine g_iload_n (i := 1) dX11_signedDown_8 rfl rfl ?_
  refine gm_iald hM dX11_signedDown_9 rfl (hJ) ?_
  refine g_toi w (by rw [hcj]; exact hW.wd) ?_
  refine g_iconst (v := 1) dX11_signedDown_10 (by decide) ?_
  refine g_isub dX11_signedDown_11 ?_
  refine g_i2l dX11_signedDown_12 ?_
  refine g_callVi (My := mX11_put) [_, _, _, _] dX11_signedDown_13 lkX11_167 mvX11_put rfl hM.1 rfl (c_putW hM hW (by decide) _ _ _) (by decide) (by decide) (by decide) rfl (Nat.le_of_ble_eq_true rfl) (fun zr13 σ zh13 => ?_)
  obtain ⟨ze13, S2, hM, hW, e1, e2⟩ := zh13
  rw [ze13]
  refine g_istore_n (i := 2) (ls' := [_, _, _, _, _]) dX11_signedDown_16 rfl (by decide) rfl rfl ?_
  refine g_aload_n (i := 0) dX11_signedDown_17 rfl rfl ?_
  refine g_iload_n (i := 1) dX11_signedDown_18 rfl rfl ?_
  refine g_bipush (v := 8) dX11_signedDown_19 (by decide) ?_
  refine g_iconst (v := 0) dX11_signedDown_21 (by decide) ?_
  refine g_iload_n (i := 2) dX11_signedDown_22 rfl rfl ?_
  refine g_i2l dX11_signedDown_23 ?_
  refine g_callVi (My := mX11_put) [_, _, _, _] dX11_signedDown_24 lkX11_167 mvX11_put rfl hM.1 rfl (c_putW hM hW (Nat.le_of_ble_eq_true rfl) _ _ _) (by decide) (by decide) (by decide) rfl (Nat.le_of_ble_eq_true rfl) (fun zr24 σ zh24 => ?_)
  obtain ⟨ze24, S3, hM, hW, e3, e4⟩ := zh24
  rw [ze24]
  have k3 := (k0.put e1 e2).put e3 e4
  have hW : WR S3 A j w (sdP w) := hW
  refine g_istore_n (i := 3) (ls' := [_, _, _, _, _]) dX11_signedDown_27 rfl (by decide) rfl rfl ?_
  refine g_aload_n (i := 0) dX11_signedDown_28 rfl rfl ?_
  refine g_iload_n (i := 1) dX11_signedDown_29 rfl rfl ?_
  refine g_iload_n (i := 3) dX11_signedDown_30 rfl rfl ?_
  refine g_callVi (My := mX11_plainQuotient) [_, _] dX11_signedDown_31 lkX11_204 mvX11_plainQuotient rfl hM.1 rfl (c_X11_plainQuotient hM hW (Nat.le_of_ble_eq_true rfl) 2 (k3.1.trans hD) (k3.2.1.trans ht) (k3.2.2.trans ho)) (by decide) (by decide) (by decide) rfl (Nat.le_of_ble_eq_true rfl) (fun zr31 σ zh31 => ?_)
  obtain ⟨ze31, S4, hM, hW, k4⟩ := zh31
  rw [ze31]
  have hW : WR S4 A j w (sdQ w D od tz) := hW
  refine g_istore (ls' := [_, _, _, _, _]) dX11_signedDown_34 (by decide) rfl rfl ?_
  refine g_aload_n (i := 0) dX11_signedDown_36 rfl rfl ?_
  refine g_iload_n (i := 1) dX11_signedDown_37 rfl rfl ?_
  refine g_bipush (v := 8) dX11_signedDown_38 (by decide) ?_
  refine g_iload dX11_signedDown_40 rfl ?_
  refine g_iload_n (i := 2) dX11_signedDown_42 rfl rfl ?_
  refine g_i2l dX11_signedDown_43 ?_
  refine g_callVi (My := mX11_put) [_, _, _, _] dX11_signedDown_44 lkX11_167 mvX11_put rfl hM.1 rfl (c_putW hM hW (Nat.lt_of_le_of_lt (sdQ_len w D od tz) (by decide)) _ _ _) (by decide) (by decide) (by decide) rfl (Nat.le_of_ble_eq_true rfl) (fun zr44 σ zh44 => ?_)
  obtain ⟨ze44, S5, hM, hW, e5, e6⟩ := zh44
  rw [ze44]
  refine g_iret dX11_signedDown_47 rfl ?_
  exact ⟨_, rfl, by unfold sdL; rw [List.length_append (as := sdQ w D od tz)]; rfl, S5, hM, hW, by rw [e5]; exact k4.1.trans k3.1, by rw [e6]; exact k4.2.1.trans k3.2.1, by rw [e5]; exact k4.2.2.trans k3.2.2⟩
theorem c_X11_writeSigned (hM : Mm σ o ad S) (hW : WR S A j w []) (ws : Int32) (d : Int64) {D od : Int64} {tz : Nat} (hD : S.2.1 18 = D) (ht : S.1 19 = nI tz) (ho : S.2.1 20 = od) : Ct l mX11_writeSigned 6 0 0 [.ref o, .int (nI j), .int ws, .long d] σ (pI (wP o ad S A j w (wsgL w ws d D od tz))) := by
  have hj := hW.j60
  have hcj : (nI j).toNatClampNeg = j := nI_clamp (by omega)
  have hJ : vp_in (nI j) 60 := vp_in_nI (by omega) (by decide)
  have k0 : sK S S := ⟨rfl, rfl, rfl⟩
  refine Ct_of moX11_writeSigned [some (.ref o), some (.int (nI j)), some (.int ws), some (.long d), none, none, none, none, none, none] rfl (Nat.le_of_ble_eq_true rfl) ?_
  refine g_aload_n (i := 0) dX11_writeSigned_0 rfl rfl ?_
  refine gm_get hM (k := 3) dX11_writeSigned_1 flX11_7 rfl ?_
  refine g_iload_n (i := 1) dX11_writeSigned_4 rfl rfl ?_
  refine gm_iald hM dX11_writeSigned_5 rfl (hJ) ?_
  refine g_toi w (by rw [hcj]; exact hW.wd) ?_
  refine g_istore (ls' := [_, _, _, _, _, _, _, _, _, _]) dX11_writeSigned_6 (by decide) rfl rfl ?_
  refine g_lload_n (i := 3) dX11_writeSigned_8 rfl rfl ?_
  refine g_iload dX11_writeSigned_9 rfl ?_
  refine g_callSl (My := mX11_low) [_, _] dX11_writeSigned_11 lkX11_105 mvX11_low rfl (c_X11_low _ _) (by decide) (by decide) (by decide) rfl (Nat.le_of_ble_eq_true rfl) (fun zr11 σ zh11 => ?_)
  obtain ⟨rfl, rfl⟩ := zh11
  refine g_iload dX11_writeSigned_14 rfl ?_
  refine g_callSi (My := mX11_isUp) [_, _] dX11_writeSigned_16 lkX11_128 mvX11_isUp rfl (c_X11_isUp _ _) (by decide) (by decide) (by decide) rfl (Nat.le_of_ble_eq_true rfl) (fun zr16 σ zh16 => ?_)
  obtain ⟨rfl, rfl⟩ := zh16
  refine g_istore (ls' := [_, _, _, _, _, _, _, _, _, _]) dX11_writeSigned_19 (by decide) rfl rfl ?_
  refine g_iload_n (i := 2) dX11_writeSigned_21 rfl rfl ?_
  by_cases e22_0 : ws = 0
  · refine g_tbIn (c := 0) (tgt := 56) e22_0 dX11_writeSigned_22 (by decide) (by decide) rfl (by decide) ?_
    refine g_aload_n (i := 0) dX11_writeSigned_56 rfl rfl ?_
    refine g_iload_n (i := 1) dX11_writeSigned_57 rfl rfl ?_
    refine g_iload dX11_writeSigned_58 rfl ?_
    refine g_callVi (My := mX11_signedQuotient) [_, _] dX11_writeSigned_60 lkX11_215 mvX11_signedQuotient rfl hM.1 rfl (c_X11_signedQuotient hM hW _ hD ht ho) (by decide) (by decide) (by decide) rfl (Nat.le_of_ble_eq_true rfl) (fun zr60 σ zh60 => ?_)
    have hv : wsgL w ws d D od tz = sqL w D od tz (bI (mUp (mLow d w) w)) := if_pos e22_0
    rw [hv]
    refine g_iret dX11_writeSigned_63 rfl ?_
    exact ⟨_, rfl, zh60⟩
  by_cases e22_1 : ws = 1
  · refine g_tbIn (c := 1) (tgt := 64) e22_1 dX11_writeSigned_22 (by decide) (by decide) rfl (by decide) ?_
    refine g_aload_n (i := 0) dX11_writeSigned_64 rfl rfl ?_
    refine g_iload_n (i := 1) dX11_writeSigned_65 rfl rfl ?_
    refine g_callVi (My := mX11_signedDown) [_] dX11_writeSigned_66 lkX11_219 mvX11_signedDown rfl hM.1 rfl (c_X11_signedDown hM hW hD ht ho) (by decide) (by decide) (by decide) rfl (Nat.le_of_ble_eq_true rfl) (fun zr66 σ zh66 => ?_)
    have hv : wsgL w ws d D od tz = sdL w D od tz := (if_neg e22_0).trans (if_pos e22_1)
    rw [hv]
    refine g_iret dX11_writeSigned_69 rfl ?_
    exact ⟨_, rfl, zh66⟩
  by_cases e22_2 : ws = 2
  · refine g_tbIn (c := 2) (tgt := 70) e22_2 dX11_writeSigned_22 (by decide) (by decide) rfl (by decide) ?_
    refine g_aload_n (i := 0) dX11_writeSigned_70 rfl rfl ?_
    refine g_iload_n (i := 1) dX11_writeSigned_71 rfl rfl ?_
    refine g_aload_n (i := 0) dX11_writeSigned_72 rfl rfl ?_
    refine g_iload_n (i := 1) dX11_writeSigned_73 rfl rfl ?_
    refine g_iload dX11_writeSigned_74 rfl ?_
    refine g_callVi (My := mX11_signedQuotient) [_, _] dX11_writeSigned_76 lkX11_215 mvX11_signedQuotient rfl hM.1 rfl (c_X11_signedQuotient hM hW _ hD ht ho) (by decide) (by decide) (by decide) rfl (Nat.le_of_ble_eq_true rfl) (fun zr76 σ zh76 => ?_)
    obtain ⟨ze76, S1, hM, hW, k1⟩ := zh76
    rw [ze76]
    refine g_lload_n (i := 3) dX11_writeSigned_79 rfl rfl ?_
    refine g_callVi (My := mX11_restOf) [_, _, _] dX11_writeSigned_80 lkX11_208 mvX11_restOf rfl hM.1 rfl (c_X11_restOf hM hW (Nat.le_trans (Nat.add_le_add_right (sqL_len w D od tz (bI (mUp (mLow d w) w))) 2) (by decide)) _ _) (by decide) (by decide) (by decide) rfl (Nat.le_of_ble_eq_true rfl) (fun zr80 σ zh80 => ?_)
    obtain ⟨ze80, S2, hM, hW, k2⟩ := zh80
    have hv : wsgL w ws d D od tz = roT w d (sqL w D od tz (bI (mUp (mLow d w) w))) := (if_neg e22_0).trans ((if_neg e22_1).trans (if_pos e22_2))
    rw [hv]
    refine g_iret dX11_writeSigned_83 rfl ?_
    exact ⟨_, rfl, ze80, S2, hM, hW, k2.1.trans k1.1, k2.2.1.trans k1.2.1, k2.2.2.trans k1.2.2⟩
  by_cases e22_3 : ws = 3
  · refine g_tbIn (c := 3) (tgt := 84) e22_3 dX11_writeSigned_22 (by decide) (by decide) rfl (by decide) ?_
    refine g_aload_n (i := 0) dX11_writeSigned_84 rfl rfl ?_
    refine g_iload_n (i := 1) dX11_writeSigned_85 rfl rfl ?_
    refine g_aload_n (i := 0) dX11_writeSigned_86 rfl rfl ?_
    refine g_iload_n (i := 1) dX11_writeSigned_87 rfl rfl ?_
    refine g_callVi (My := mX11_signedDown) [_] dX11_writeSigned_88 lkX11_219 mvX11_signedDown rfl hM.1 rfl (c_X11_signedDown hM hW hD ht ho) (by decide) (by decide) (by decide) rfl (Nat.le_of_ble_eq_true rfl) (fun zr88 σ zh88 => ?_)
    obtain ⟨ze88, S1, hM, hW, k1⟩ := zh88
    rw [ze88]
    refine g_lload_n (i := 3) dX11_writeSigned_91 rfl rfl ?_
    refine g_callVi (My := mX11_restOf) [_, _, _] dX11_writeSigned_92 lkX11_208 mvX11_restOf rfl hM.1 rfl (c_X11_restOf hM hW (Nat.le_trans (Nat.add_le_add_right (sdL_len w D od tz) 2) (by decide)) _ _) (by decide) (by decide) (by decide) rfl (Nat.le_of_ble_eq_true rfl) (fun zr92 σ zh92 => ?_)
    obtain ⟨ze92, S2, hM, hW, k2⟩ := zh92
    have hv : wsgL w ws d D od tz = roT w d (sdL w D od tz) := (if_neg e22_0).trans ((if_neg e22_1).trans ((if_neg e22_2).trans (if_pos e22_3)))
    rw [hv]
    refine g_iret dX11_writeSigned_95 rfl ?_
    exact ⟨_, rfl, ze92, S2, hM, hW, k2.1.trans k1.1, k2.2.1.trans k1.2.1, k2.2.2.trans k1.2.2⟩
  by_cases e22_4 : ws = 4
  · refine g_tbIn (c := 4) (tgt := 96) e22_4 dX11_writeSigned_22 (by decide) (by decide) rfl (by decide) ?_
    refine g_aload_n (i := 0) dX11_writeSigned_96 rfl rfl ?_
    refine g_iload_n (i := 1) dX11_writeSigned_97 rfl rfl ?_
    refine g_iconst (v := 1) dX11_writeSigned_98 (by decide) ?_
    refine g_iconst (v := 0) dX11_writeSigned_99 (by decide) ?_
    refine g_iload dX11_writeSigned_100 rfl ?_
    refine g_iconst (v := 1) dX11_writeSigned_102 (by decide) ?_
    refine g_isub dX11_writeSigned_103 ?_
    refine g_i2l dX11_writeSigned_104 ?_
    refine g_callVi (My := mX11_put) [_, _, _, _] dX11_writeSigned_105 lkX11_167 mvX11_put rfl hM.1 rfl (c_putW hM hW (by decide) _ _ _) (by decide) (by decide) (by decide) rfl (Nat.le_of_ble_eq_true rfl) (fun zr105 σ zh105 => ?_)
    obtain ⟨ze105, S2, hM, hW, e1, e2⟩ := zh105
    rw [ze105]
    refine g_istore (ls' := [_, _, _, _, _, _, _, _, _, _]) dX11_writeSigned_108 (by decide) rfl rfl ?_
    refine g_aload_n (i := 0) dX11_writeSigned_110 rfl rfl ?_
    refine g_iload_n (i := 1) dX11_writeSigned_111 rfl rfl ?_
    refine g_bipush (v := 8) dX11_writeSigned_112 (by decide) ?_
    refine g_iconst (v := 0) dX11_writeSigned_114 (by decide) ?_
    refine g_iload dX11_writeSigned_115 rfl ?_
    refine g_i2l dX11_writeSigned_117 ?_
    refine g_callVi (My := mX11_put) [_, _, _, _] dX11_writeSigned_118 lkX11_167 mvX11_put rfl hM.1 rfl (c_putW hM hW (Nat.le_of_ble_eq_true rfl) _ _ _) (by decide) (by decide) (by decide) rfl (Nat.le_of_ble_eq_true rfl) (fun zr118 σ zh118 => ?_)
    obtain ⟨ze118, S3, hM, hW, e3, e4⟩ := zh118
    rw [ze118]
    refine g_istore (ls' := [_, _, _, _, _, _, _, _, _, _]) dX11_writeSigned_121 (by decide) rfl rfl ?_
    refine g_aload_n (i := 0) dX11_writeSigned_123 rfl rfl ?_
    refine g_iload_n (i := 1) dX11_writeSigned_124 rfl rfl ?_
    refine g_bipush (v := 6) dX11_writeSigned_125 (by decide) ?_
    refine g_iload dX11_writeSigned_127 rfl ?_
    refine g_iload dX11_writeSigned_129 rfl ?_
    refine g_i2l dX11_writeSigned_131 ?_
    refine g_callVi (My := mX11_put) [_, _, _, _] dX11_writeSigned_132 lkX11_167 mvX11_put rfl hM.1 rfl (c_putW hM hW (Nat.le_of_ble_eq_true rfl) _ _ _) (by decide) (by decide) (by decide) rfl (Nat.le_of_ble_eq_true rfl) (fun zr132 σ zh132 => ?_)
    obtain ⟨ze132, S4, hM, hW, e5, e6⟩ := zh132
    rw [ze132]
    have k4 := ((k0.put e1 e2).put e3 e4).put e5 e6
    have hW : WR S4 A j w [st1 w 1 0 (w - 1).toInt64, st1 w 8 0 (nI 1).toInt64, st1 w 6 2 (nI 1).toInt64] := hW
    refine g_istore (ls' := [_, _, _, _, _, _, _, _, _, _]) dX11_writeSigned_135 (by decide) rfl rfl ?_
    refine g_aload_n (i := 0) dX11_writeSigned_137 rfl rfl ?_
    refine g_iload_n (i := 1) dX11_writeSigned_138 rfl rfl ?_
    refine g_iload dX11_writeSigned_139 rfl ?_
    refine g_callVi (My := mX11_plainWhole) [_, _] dX11_writeSigned_141 lkX11_212 mvX11_plainWhole rfl hM.1 rfl (c_X11_plainWhole hM hW (Nat.le_of_ble_eq_true rfl) 3 (k4.1.trans hD) (k4.2.1.trans ht) (k4.2.2.trans ho)) (by decide) (by decide) (by decide) rfl (Nat.le_of_ble_eq_true rfl) (fun zr141 σ zh141 => ?_)
    obtain ⟨ze141, S5, hM, hW, k5⟩ := zh141
    have hv : wsgL w ws d D od tz = [st1 w 1 0 (w - 1).toInt64, st1 w 8 0 (nI 1).toInt64, st1 w 6 2 (nI 1).toInt64] ++ pwL w D od tz 3 3 := (if_neg e22_0).trans ((if_neg e22_1).trans ((if_neg e22_2).trans ((if_neg e22_3).trans (if_pos e22_4))))
    rw [hv]
    refine g_iret dX11_writeSigned_144 rfl ?_
    exact ⟨_, rfl, ze141, S5, hM, hW, k5.1.trans k4.1, k5.2.1.trans k4.2.1, k5.2.2.trans k4.2.2⟩
  refine g_tbOut (tgt := 145) dX11_writeSigned_22 (g_out 0 4 (by intro i h1 h2; (rcases (show i = 0 ∨ i = 1 ∨ i = 2 ∨ i = 3 ∨ i = 4 by omega) with rfl | rfl | rfl | rfl | rfl) <;> simp_all)) (by decide) ?_
  refine g_lload_n (i := 3) dX11_writeSigned_145 rfl rfl ?_
  refine g_iload dX11_writeSigned_146 rfl ?_
  refine g_callSl (My := mX11_low) [_, _] dX11_writeSigned_148 lkX11_105 mvX11_low rfl (c_X11_low _ _) (by decide) (by decide) (by decide) rfl (Nat.le_of_ble_eq_true rfl) (fun zr148 σ zh148 => ?_)
  obtain ⟨rfl, rfl⟩ := zh148
  refine g_iload dX11_writeSigned_151 rfl ?_
  refine g_callSl (My := mX11_signed) [_, _] dX11_writeSigned_153 lkX11_101 mvX11_signed rfl (c_X11_signed _ _) (by decide) (by decide) (by decide) rfl (Nat.le_of_ble_eq_true rfl) (fun zr153 σ zh153 => ?_)
  obtain ⟨rfl, rfl⟩ := zh153
  refine g_aload_n (i := 0) dX11_writeSigned_156 rfl rfl ?_
  refine gm_get hM (k := 19) dX11_writeSigned_157 flX11_174 rfl ?_
  refine g_toi (nI tz) ht ?_
  refine g_lshr dX11_writeSigned_160 ?_
  refine g_lstore (ls' := [_, _, _, _, _, _, _, _, _, _]) dX11_writeSigned_161 (by decide) rfl rfl ?_
  refine g_aload_n (i := 0) dX11_writeSigned_163 rfl rfl ?_
  refine gm_get hM (k := 19) dX11_writeSigned_164 flX11_174 rfl ?_
  refine g_toi (nI tz) ht ?_
  refine g_if_gt (tgt := 177) dX11_writeSigned_167 (by decide) (fun zc167 => ?_) (fun zc167 => ?_)
  · refine g_aload_n (i := 0) dX11_writeSigned_177 rfl rfl ?_
    refine g_iload_n (i := 1) dX11_writeSigned_178 rfl rfl ?_
    refine g_iconst (v := 1) dX11_writeSigned_179 (by decide) ?_
    refine g_iconst (v := 0) dX11_writeSigned_180 (by decide) ?_
    refine g_aload_n (i := 0) dX11_writeSigned_181 rfl rfl ?_
    refine gm_get hM (k := 19) dX11_writeSigned_182 flX11_174 rfl ?_
    refine g_toi (nI tz) ht ?_
    refine g_i2l dX11_writeSigned_185 ?_
    refine g_callVi (My := mX11_put) [_, _, _, _] dX11_writeSigned_186 lkX11_167 mvX11_put rfl hM.1 rfl (c_putW hM hW (by decide) _ _ _) (by decide) (by decide) (by decide) rfl (Nat.le_of_ble_eq_true rfl) (fun zr186 σ zh186 => ?_)
    obtain ⟨rfl, S1, hM, hW, e1, e2⟩ := zh186
    refine g_goto (tgt := 193) dX11_writeSigned_189 (by decide) ?_
    refine g_istore (ls' := [_, _, _, _, _, _, _, _, _, _]) dX11_writeSigned_193 (by decide) rfl rfl ?_
    refine g_lload dX11_writeSigned_195 rfl ?_
    refine g_lconst (v := 1) dX11_writeSigned_197 (by decide) ?_
    refine g_lcmp dX11_writeSigned_198 ?_
    refine g_if_ne (tgt := 207) dX11_writeSigned_199 (by decide) (fun zc199 => ?_) (fun zc199 => ?_)
    · refine g_aload_n (i := 0) dX11_writeSigned_207 rfl rfl ?_
      refine g_iload_n (i := 1) dX11_writeSigned_208 rfl rfl ?_
      refine g_iconst (v := 4) dX11_writeSigned_209 (by decide) ?_
      refine g_iload dX11_writeSigned_210 rfl ?_
      refine g_lload dX11_writeSigned_212 rfl ?_
      refine g_callSl (My := mX11_inverseOf) [_] dX11_writeSigned_214 lkX11_198 mvX11_inverseOf rfl (c_X11_inverseOf _) (by decide) (by decide) (by decide) rfl (Nat.le_of_ble_eq_true rfl) (fun zr214 σ zh214 => ?_)
      obtain ⟨ze214, zf214⟩ := zh214
      rw [ze214, zf214]
      refine g_callVi (My := mX11_put) [_, _, _, _] dX11_writeSigned_217 lkX11_167 mvX11_put rfl hM.1 rfl (c_putW hM hW (Nat.le_of_ble_eq_true rfl) _ _ _) (by decide) (by decide) (by decide) rfl (Nat.le_of_ble_eq_true rfl) (fun zr217 σ zh217 => ?_)
      obtain ⟨ze217, S3, hM, hW, e3, e4⟩ := zh217
      refine g_iret dX11_writeSigned_220 rfl ?_
      have hX : wsgL w ws d D od tz = (if gShr (mSig (mLow d w) w) (nI tz) = 1 then [st1 w 1 0 (nI tz).toInt64] else if 0 < nI tz then [st1 w 1 0 (nI tz).toInt64, st1 w 4 1 (mInv (gShr (mSig (mLow d w) w) (nI tz)))] else [st1 w 4 0 (mInv (gShr (mSig (mLow d w) w) (nI tz)))]) := (if_neg e22_0).trans ((if_neg e22_1).trans ((if_neg e22_2).trans ((if_neg e22_3).trans (if_neg e22_4))))
      first
      | (have hv := hX.trans (if_pos ((lg_cmp_eq _ _).mp zc199))
         rw [hv]
         first
         | exact ⟨_, rfl, rfl, S1, hM, hW, k0.put e1 e2⟩
         | exact absurd zc199 zc174)
      | (have hv := hX.trans ((if_neg (fun q => zc199 ((lg_cmp_eq _ _).mpr q))).trans (if_pos zc167))
         rw [hv]
         exact ⟨_, rfl, ze217, S3, hM, hW, (k0.put e1 e2).put e3 e4⟩)
      | (have hv := hX.trans ((if_neg (fun q => zc199 ((lg_cmp_eq _ _).mpr q))).trans (if_neg zc167))
         rw [hv]
         first
         | exact ⟨_, rfl, ze217, S3, hM, hW, k0.put e3 e4⟩
         | exact absurd zc174 zc199)
    · refine g_iload dX11_writeSigned_202 rfl ?_
      refine g_goto (tgt := 220) dX11_writeSigned_204 (by decide) ?_
      refine g_iret dX11_writeSigned_220 rfl ?_
      have hX : wsgL w ws d D od tz = (if gShr (mSig (mLow d w) w) (nI tz) = 1 then [st1 w 1 0 (nI tz).toInt64] else if 0 < nI tz then [st1 w 1 0 (nI tz).toInt64, st1 w 4 1 (mInv (gShr (mSig (mLow d w) w) (nI tz)))] else [st1 w 4 0 (mInv (gShr (mSig (mLow d w) w) (nI tz)))]) := (if_neg e22_0).trans ((if_neg e22_1).trans ((if_neg e22_2).trans ((if_neg e22_3).trans (if_neg e22_4))))
      first
      | (have hv := hX.trans (if_pos ((lg_cmp_eq _ _).mp zc199))
         rw [hv]
         first
         | exact ⟨_, rfl, rfl, S1, hM, hW, k0.put e1 e2⟩
         | exact absurd zc199 zc174)
      | (have hv := hX.trans ((if_neg (fun q => zc199 ((lg_cmp_eq _ _).mpr q))).trans (if_pos zc167))
         rw [hv]
         exact ⟨_, rfl, ze217, S3, hM, hW, (k0.put e1 e2).put e3 e4⟩)
      | (have hv := hX.trans ((if_neg (fun q => zc199 ((lg_cmp_eq _ _).mpr q))).trans (if_neg zc167))
         rw [hv]
         first
         | exact ⟨_, rfl, ze217, S3, hM, hW, k0.put e3 e4⟩
         | exact absurd zc174 zc199)
  · refine g_lload dX11_writeSigned_170 rfl ?_
    refine g_lconst (v := 1) dX11_writeSigned_172 (by decide) ?_
    refine g_lcmp dX11_writeSigned_173 ?_
    refine g_if_ne (tgt := 192) dX11_writeSigned_174 (by decide) (fun zc174 => ?_) (fun zc174 => ?_)
    · refine g_iconst (v := 0) dX11_writeSigned_192 (by decide) ?_
      refine g_istore (ls' := [_, _, _, _, _, _, _, _, _, _]) dX11_writeSigned_193 (by decide) rfl rfl ?_
      refine g_lload dX11_writeSigned_195 rfl ?_
      refine g_lconst (v := 1) dX11_writeSigned_197 (by decide) ?_
      refine g_lcmp dX11_writeSigned_198 ?_
      refine g_if_ne (tgt := 207) dX11_writeSigned_199 (by decide) (fun zc199 => ?_) (fun zc199 => ?_)
      · refine g_aload_n (i := 0) dX11_writeSigned_207 rfl rfl ?_
        refine g_iload_n (i := 1) dX11_writeSigned_208 rfl rfl ?_
        refine g_iconst (v := 4) dX11_writeSigned_209 (by decide) ?_
        refine g_iload dX11_writeSigned_210 rfl ?_
        refine g_lload dX11_writeSigned_212 rfl ?_
        refine g_callSl (My := mX11_inverseOf) [_] dX11_writeSigned_214 lkX11_198 mvX11_inverseOf rfl (c_X11_inverseOf _) (by decide) (by decide) (by decide) rfl (Nat.le_of_ble_eq_true rfl) (fun zr214 σ zh214 => ?_)
        obtain ⟨ze214, zf214⟩ := zh214
        rw [ze214, zf214]
        refine g_callVi (My := mX11_put) [_, _, _, _] dX11_writeSigned_217 lkX11_167 mvX11_put rfl hM.1 rfl (c_putW hM hW (Nat.le_of_ble_eq_true rfl) _ _ _) (by decide) (by decide) (by decide) rfl (Nat.le_of_ble_eq_true rfl) (fun zr217 σ zh217 => ?_)
        obtain ⟨ze217, S3, hM, hW, e3, e4⟩ := zh217
        refine g_iret dX11_writeSigned_220 rfl ?_
        have hX : wsgL w ws d D od tz = (if gShr (mSig (mLow d w) w) (nI tz) = 1 then [st1 w 1 0 (nI tz).toInt64] else if 0 < nI tz then [st1 w 1 0 (nI tz).toInt64, st1 w 4 1 (mInv (gShr (mSig (mLow d w) w) (nI tz)))] else [st1 w 4 0 (mInv (gShr (mSig (mLow d w) w) (nI tz)))]) := (if_neg e22_0).trans ((if_neg e22_1).trans ((if_neg e22_2).trans ((if_neg e22_3).trans (if_neg e22_4))))
        first
        | (have hv := hX.trans (if_pos ((lg_cmp_eq _ _).mp zc199))
           rw [hv]
           first
           | exact ⟨_, rfl, rfl, S1, hM, hW, k0.put e1 e2⟩
           | exact absurd zc199 zc174)
        | (have hv := hX.trans ((if_neg (fun q => zc199 ((lg_cmp_eq _ _).mpr q))).trans (if_pos zc167))
           rw [hv]
           exact ⟨_, rfl, ze217, S3, hM, hW, (k0.put e1 e2).put e3 e4⟩)
        | (have hv := hX.trans ((if_neg (fun q => zc199 ((lg_cmp_eq _ _).mpr q))).trans (if_neg zc167))
           rw [hv]
           first
           | exact ⟨_, rfl, ze217, S3, hM, hW, k0.put e3 e4⟩
           | exact absurd zc174 zc199)
      · refine g_iload dX11_writeSigned_202 rfl ?_
        refine g_goto (tgt := 220) dX11_writeSigned_204 (by decide) ?_
        refine g_iret dX11_writeSigned_220 rfl ?_
        have hX : wsgL w ws d D od tz = (if gShr (mSig (mLow d w) w) (nI tz) = 1 then [st1 w 1 0 (nI tz).toInt64] else if 0 < nI tz then [st1 w 1 0 (nI tz).toInt64, st1 w 4 1 (mInv (gShr (mSig (mLow d w) w) (nI tz)))] else [st1 w 4 0 (mInv (gShr (mSig (mLow d w) w) (nI tz)))]) := (if_neg e22_0).trans ((if_neg e22_1).trans ((if_neg e22_2).trans ((if_neg e22_3).trans (if_neg e22_4))))
        first
        | (have hv := hX.trans (if_pos ((lg_cmp_eq _ _).mp zc199))
           rw [hv]
           first
           | exact ⟨_, rfl, rfl, S1, hM, hW, k0.put e1 e2⟩
           | exact absurd zc199 zc174)
        | (have hv := hX.trans ((if_neg (fun q => zc199 ((lg_cmp_eq _ _).mpr q))).trans (if_pos zc167))
           rw [hv]
           exact ⟨_, rfl, ze217, S3, hM, hW, (k0.put e1 e2).put e3 e4⟩)
        | (have hv := hX.trans ((if_neg (fun q => zc199 ((lg_cmp_eq _ _).mpr q))).trans (if_neg zc167))
           rw [hv]
           first
           | exact ⟨_, rfl, ze217, S3, hM, hW, k0.put e3 e4⟩
           | exact absurd zc174 zc199)
    · refine g_aload_n (i := 0) dX11_writeSigned_177 rfl rfl ?_
      refine g_iload_n (i := 1) dX11_writeSigned_178 rfl rfl ?_
      refine g_iconst (v := 1) dX11_writeSigned_179 (by decide) ?_
      refine g_iconst (v := 0) dX11_writeSigned_180 (by decide) ?_
      refine g_aload_n (i := 0) dX11_writeSigned_181 rfl rfl ?_
      refine gm_get hM (k := 19) dX11_writeSigned_182 flX11_174 rfl ?_
      refine g_toi (nI tz) ht ?_
      refine g_i2l dX11_writeSigned_185 ?_
      refine g_callVi (My := mX11_put) [_, _, _, _] dX11_writeSigned_186 lkX11_167 mvX11_put rfl hM.1 rfl (c_putW hM hW (by decide) _ _ _) (by decide) (by decide) (by decide) rfl (Nat.le_of_ble_eq_true rfl) (fun zr186 σ zh186 => ?_)
      obtain ⟨rfl, S1, hM, hW, e1, e2⟩ := zh186
      refine g_goto (tgt := 193) dX11_writeSigned_189 (by decide) ?_
      refine g_istore (ls' := [_, _, _, _, _, _, _, _, _, _]) dX11_writeSigned_193 (by decide) rfl rfl ?_
      refine g_lload dX11_writeSigned_195 rfl ?_
      refine g_lconst (v := 1) dX11_writeSigned_197 (by decide) ?_
      refine g_lcmp dX11_writeSigned_198 ?_
      refine g_if_ne (tgt := 207) dX11_writeSigned_199 (by decide) (fun zc199 => ?_) (fun zc199 => ?_)
      · refine g_aload_n (i := 0) dX11_writeSigned_207 rfl rfl ?_
        refine g_iload_n (i := 1) dX11_writeSigned_208 rfl rfl ?_
        refine g_iconst (v := 4) dX11_writeSigned_209 (by decide) ?_
        refine g_iload dX11_writeSigned_210 rfl ?_
        refine g_lload dX11_writeSigned_212 rfl ?_
        refine g_callSl (My := mX11_inverseOf) [_] dX11_writeSigned_214 lkX11_198 mvX11_inverseOf rfl (c_X11_inverseOf _) (by decide) (by decide) (by decide) rfl (Nat.le_of_ble_eq_true rfl) (fun zr214 σ zh214 => ?_)
        obtain ⟨ze214, zf214⟩ := zh214
        rw [ze214, zf214]
        refine g_callVi (My := mX11_put) [_, _, _, _] dX11_writeSigned_217 lkX11_167 mvX11_put rfl hM.1 rfl (c_putW hM hW (Nat.le_of_ble_eq_true rfl) _ _ _) (by decide) (by decide) (by decide) rfl (Nat.le_of_ble_eq_true rfl) (fun zr217 σ zh217 => ?_)
        obtain ⟨ze217, S3, hM, hW, e3, e4⟩ := zh217
        refine g_iret dX11_writeSigned_220 rfl ?_
        have hX : wsgL w ws d D od tz = (if gShr (mSig (mLow d w) w) (nI tz) = 1 then [st1 w 1 0 (nI tz).toInt64] else if 0 < nI tz then [st1 w 1 0 (nI tz).toInt64, st1 w 4 1 (mInv (gShr (mSig (mLow d w) w) (nI tz)))] else [st1 w 4 0 (mInv (gShr (mSig (mLow d w) w) (nI tz)))]) := (if_neg e22_0).trans ((if_neg e22_1).trans ((if_neg e22_2).trans ((if_neg e22_3).trans (if_neg e22_4))))
        first
        | (have hv := hX.trans (if_pos ((lg_cmp_eq _ _).mp zc199))
           rw [hv]
           first
           | exact ⟨_, rfl, rfl, S1, hM, hW, k0.put e1 e2⟩
           | exact absurd zc199 zc174)
        | (have hv := hX.trans ((if_neg (fun q => zc199 ((lg_cmp_eq _ _).mpr q))).trans (if_pos zc167))
           rw [hv]
           exact ⟨_, rfl, ze217, S3, hM, hW, (k0.put e1 e2).put e3 e4⟩)
        | (have hv := hX.trans ((if_neg (fun q => zc199 ((lg_cmp_eq _ _).mpr q))).trans (if_neg zc167))
           rw [hv]
           first
           | exact ⟨_, rfl, ze217, S3, hM, hW, k0.put e3 e4⟩
           | exact absurd zc174 zc199)
      · refine g_iload dX11_writeSigned_202 rfl ?_
        refine g_goto (tgt := 220) dX11_writeSigned_204 (by decide) ?_
        refine g_iret dX11_writeSigned_220 rfl ?_
        have hX : wsgL w ws d D od tz = (if gShr (mSig (mLow d w) w) (nI tz) = 1 then [st1 w 1 0 (nI tz).toInt64] else if 0 < nI tz then [st1 w 1 0 (nI tz).toInt64, st1 w 4 1 (mInv (gShr (mSig (mLow d w) w) (nI tz)))] else [st1 w 4 0 (mInv (gShr (mSig (mLow d w) w) (nI tz)))]) := (if_neg e22_0).trans ((if_neg e22_1).trans ((if_neg e22_2).trans ((if_neg e22_3).trans (if_neg e22_4))))
        first
        | (have hv := hX.trans (if_pos ((lg_cmp_eq _ _).mp zc199))
           rw [hv]
           first
           | exact ⟨_, rfl, rfl, S1, hM, hW, k0.put e1 e2⟩
           | exact absurd zc199 zc174)
        | (have hv := hX.trans ((if_neg (fun q => zc199 ((lg_cmp_eq _ _).mpr q))).trans (if_pos zc167))
           rw [hv]
           exact ⟨_, rfl, ze217, S3, hM, hW, (k0.put e1 e2).put e3 e4⟩)
        | (have hv := hX.trans ((if_neg (fun q => zc199 ((lg_cmp_eq _ _).mpr q))).trans (if_neg zc167))
           rw [hv]
           first
           | exact ⟨_, rfl, ze217, S3, hM, hW, k0.put e3 e4⟩
           | exact absurd zc174 zc199)
noncomputable def mkL (w sg ws : Int32) (d : Int64) (tz : Nat) : List aSt := if sg = 0 then wplL w ws (mSz w sg d) (gUshr (mSz w sg d) (nI tz)) tz else wsgL w ws d (mSz w sg d) (gUshr (mSz w sg d) (nI tz)) tz
noncomputable def sMake (A : aA) (w sg ws : Int32) (d : Int64) (tz : Nat) : Int32 × aA := by
  classical
  exact if mIsA w sg ws d then (if A.1.length = 60 then (-2, A) else (nI A.1.length, aNote (A.1 ++ [(w, mkL w sg ws d tz)], A.2) (1, A.1.length, 0, 0, (0, [])))) else (-1, A)
theorem c_X11_make (hM : Mm σ o ad S) (hR : RepM S A) (w sg ws : Int32) (d : Int64) {tz : Nat} (hz : mIsA w sg ws d → isTz (mSz w sg d) tz) : Ct l mX11_make 7 0 0 [.ref o, .int w, .int sg, .int ws, .long d] σ (pI (mP o ad (sMake A w sg ws d tz))) := by
  have h60 := hR.1.2.1
  have e2 := hR.1.1
  refine Ct_of moX11_make [some (.ref o), some (.int w), some (.int sg), some (.int ws), some (.long d), none, none, none] rfl (Nat.le_of_ble_eq_true rfl) ?_
  by_cases hi : mIsA w sg ws d
  · by_cases hl : A.1.length = 60
    · have hv : sMake A w sg ws d tz = (-2, A) := by
        unfold sMake
        rw [if_pos hi, if_pos hl]
      rw [hv]
      refine g_aload_n (i := 0) dX11_make_0 rfl rfl ?_
      refine g_iload_n (i := 1) dX11_make_1 rfl rfl ?_
      refine g_iload_n (i := 2) dX11_make_2 rfl rfl ?_
      refine g_iload_n (i := 3) dX11_make_3 rfl rfl ?_
      refine g_lload dX11_make_4 rfl ?_
      refine g_callVi (My := mX11_isAsking) [_, _, _, _] dX11_make_6 lkX11_222 mvX11_isAsking rfl hM.1 rfl (c_X11_isAsking hM _ _ _ _) (by decide) (by decide) (by decide) rfl (Nat.le_of_ble_eq_true rfl) (fun zr6 σ zh6 => ?_)
      obtain ⟨rfl, rfl⟩ := zh6
      refine g_if_ne (tgt := 14) dX11_make_9 (by decide) (fun zc9 => ?_) (fun zc9 => ?_)
      · refine g_aload_n (i := 0) dX11_make_14 rfl rfl ?_
        refine gm_get hM (k := 2) dX11_make_15 flX11_118 rfl ?_
        refine g_bipush (v := 60) dX11_make_18 (by decide) ?_
        refine g_icmp_ne (tgt := 26) dX11_make_20 (by decide) (fun zc20 => ?_) (fun zc20 => ?_)
        · exact absurd (by rw [e2, hl]; rfl) zc20
        · refine g_bipush (v := (-2)) dX11_make_23 (by decide) ?_
          refine g_iret dX11_make_25 rfl ?_
          exact ⟨_, rfl, rfl, S, hM, hR⟩
      · exact absurd hi (bI_eq0.mp zc9)
    · have hv : sMake A w sg ws d tz = (nI A.1.length, aNote (A.1 ++ [(w, mkL w sg ws d tz)], A.2) (1, A.1.length, 0, 0, (0, []))) := by
        unfold sMake
        rw [if_pos hi, if_neg hl]
      rw [hv]
      have hset : ∀ X : List aSt, (A.1 ++ [(w, ([] : List aSt))]).set A.1.length (w, X) = A.1 ++ [(w, X)] := by
        intro X
        rw [List.set_append_right _ _ (Nat.le_refl _), Nat.sub_self]
        rfl
      refine g_aload_n (i := 0) dX11_make_0 rfl rfl ?_
      refine g_iload_n (i := 1) dX11_make_1 rfl rfl ?_
      refine g_iload_n (i := 2) dX11_make_2 rfl rfl ?_
      refine g_iload_n (i := 3) dX11_make_3 rfl rfl ?_
      refine g_lload dX11_make_4 rfl ?_
      refine g_callVi (My := mX11_isAsking) [_, _, _, _] dX11_make_6 lkX11_222 mvX11_isAsking rfl hM.1 rfl (c_X11_isAsking hM _ _ _ _) (by decide) (by decide) (by decide) rfl (Nat.le_of_ble_eq_true rfl) (fun zr6 σ zh6 => ?_)
      obtain ⟨rfl, rfl⟩ := zh6
      refine g_if_ne (tgt := 14) dX11_make_9 (by decide) (fun zc9 => ?_) (fun zc9 => ?_)
      · refine g_aload_n (i := 0) dX11_make_14 rfl rfl ?_
        refine gm_get hM (k := 2) dX11_make_15 flX11_118 rfl ?_
        refine g_bipush (v := 60) dX11_make_18 (by decide) ?_
        refine g_icmp_ne (tgt := 26) dX11_make_20 (by decide) (fun zc20 => ?_) (fun zc20 => ?_)
        · refine g_aload_n (i := 0) dX11_make_26 rfl rfl ?_
          refine g_iload_n (i := 1) dX11_make_27 rfl rfl ?_
          refine g_callVi (My := mX11_add) [_] dX11_make_28 lkX11_156 mvX11_add rfl hM.1 rfl (c_X11_add hM hR (by omega) _) (by decide) (by decide) (by decide) rfl (Nat.le_of_ble_eq_true rfl) (fun zr28 σ zh28 => ?_)
          obtain ⟨rfl, S1, hM, hR, -, -⟩ := zh28
          have hW : WR S1 (A.1 ++ [(w, [])], A.2) A.1.length w [] := ⟨by rw [hset]; exact hR, by rw [List.length_append]; exact Nat.lt_succ_self _⟩
          refine g_istore (ls' := [_, _, _, _, _, _, _, _]) dX11_make_31 (by decide) rfl rfl ?_
          refine g_aload_n (i := 0) dX11_make_33 rfl rfl ?_
          refine g_iload_n (i := 1) dX11_make_34 rfl rfl ?_
          refine g_iload_n (i := 2) dX11_make_35 rfl rfl ?_
          refine g_lload dX11_make_36 rfl ?_
          refine g_callVv (My := mX11_take) [_, _, _] dX11_make_38 lkX11_226 mvX11_take rfl hM.1 rfl (c_X11_take hM w sg d tz (hz hi)) (by decide) (by decide) (by decide) rfl (Nat.le_of_ble_eq_true rfl) (fun σ zh38 => ?_)
          obtain ⟨S2, hM, q1, q2, q3, hF⟩ := zh38
          have hW := hW.sF hF (by decide)
          refine g_iload_n (i := 2) dX11_make_41 rfl rfl ?_
          refine g_if_ne (tgt := 55) dX11_make_42 (by decide) (fun zc42 => ?_) (fun zc42 => ?_)
          · refine g_aload_n (i := 0) dX11_make_55 rfl rfl ?_
            refine g_iload dX11_make_56 rfl ?_
            refine g_iload_n (i := 3) dX11_make_58 rfl rfl ?_
            refine g_lload dX11_make_59 rfl ?_
            refine g_callVi (My := mX11_writeSigned) [_, _, _] dX11_make_61 lkX11_233 mvX11_writeSigned rfl hM.1 rfl (c_X11_writeSigned hM hW ws d q1 q2 q3) (by decide) (by decide) (by decide) rfl (Nat.le_of_ble_eq_true rfl) (fun zr61 σ zh61 => ?_)
            obtain ⟨ze61, S3, hM, hW, -⟩ := zh61
            have hR3 : RepM S3 (A.1 ++ [(w, mkL w sg ws d tz)], A.2) := by
              have h3 := hW.1
              rw [hset] at h3
              unfold mkL
              rw [if_neg zc42]
              exact h3
            refine g_istore (ls' := [_, _, _, _, _, _, _, _]) dX11_make_64 (by decide) rfl rfl ?_
            refine g_aload_n (i := 0) dX11_make_66 rfl rfl ?_
            refine g_iconst (v := 1) dX11_make_67 (by decide) ?_
            refine g_iload dX11_make_68 rfl ?_
            refine g_iconst (v := 0) dX11_make_70 (by decide) ?_
            refine g_lconst (v := 0) dX11_make_71 (by decide) ?_
            refine g_callVv (My := mX11_note) [_, _, _, _] dX11_make_72 lkX11_160 mvX11_note rfl hM.1 rfl (c_X11_note hM hR3 1 A.1.length 0 0) (by decide) (by decide) (by decide) rfl (Nat.le_of_ble_eq_true rfl) (fun σ zh72 => ?_)
            obtain ⟨S4, k0, hM, hR4, -, -⟩ := zh72
            refine g_iload dX11_make_75 rfl ?_
            refine g_iret dX11_make_77 rfl ?_
            exact ⟨_, rfl, rfl, S4, hM, hR4.nz (by decide)⟩
          · refine g_aload_n (i := 0) dX11_make_45 rfl rfl ?_
            refine g_iload dX11_make_46 rfl ?_
            refine g_iload_n (i := 3) dX11_make_48 rfl rfl ?_
            refine g_callVi (My := mX11_writePlain) [_, _] dX11_make_49 lkX11_230 mvX11_writePlain rfl hM.1 rfl (c_X11_writePlain hM hW ws hi.2.2.1 (hz hi).1 q1 q2 q3) (by decide) (by decide) (by decide) rfl (Nat.le_of_ble_eq_true rfl) (fun zr49 σ zh49 => ?_)
            obtain ⟨ze49, S3, hM, hW, -⟩ := zh49
            have hR3 : RepM S3 (A.1 ++ [(w, mkL w sg ws d tz)], A.2) := by
              have h3 := hW.1
              rw [hset] at h3
              unfold mkL
              rw [if_pos zc42]
              exact h3
            refine g_goto (tgt := 64) dX11_make_52 (by decide) ?_
            refine g_istore (ls' := [_, _, _, _, _, _, _, _]) dX11_make_64 (by decide) rfl rfl ?_
            refine g_aload_n (i := 0) dX11_make_66 rfl rfl ?_
            refine g_iconst (v := 1) dX11_make_67 (by decide) ?_
            refine g_iload dX11_make_68 rfl ?_
            refine g_iconst (v := 0) dX11_make_70 (by decide) ?_
            refine g_lconst (v := 0) dX11_make_71 (by decide) ?_
            refine g_callVv (My := mX11_note) [_, _, _, _] dX11_make_72 lkX11_160 mvX11_note rfl hM.1 rfl (c_X11_note hM hR3 1 A.1.length 0 0) (by decide) (by decide) (by decide) rfl (Nat.le_of_ble_eq_true rfl) (fun σ zh72 => ?_)
            obtain ⟨S4, k0, hM, hR4, -, -⟩ := zh72
            refine g_iload dX11_make_75 rfl ?_
            refine g_iret dX11_make_77 rfl ?_
            exact ⟨_, rfl, rfl, S4, hM, hR4.nz (by decide)⟩
        · exact absurd (by rw [e2] at zc20; exact (nI_eq (b := 60) (by omega) (by decide)).mp zc20) hl
      · exact absurd hi (bI_eq0.mp zc9)
  · have hv : sMake A w sg ws d tz = (-1, A) := by
      unfold sMake
      rw [if_neg hi]
    rw [hv]
    refine g_aload_n (i := 0) dX11_make_0 rfl rfl ?_
    refine g_iload_n (i := 1) dX11_make_1 rfl rfl ?_
    refine g_iload_n (i := 2) dX11_make_2 rfl rfl ?_
    refine g_iload_n (i := 3) dX11_make_3 rfl rfl ?_
    refine g_lload dX11_make_4 rfl ?_
    refine g_callVi (My := mX11_isAsking) [_, _, _, _] dX11_make_6 lkX11_222 mvX11_isAsking rfl hM.1 rfl (c_X11_isAsking hM _ _ _ _) (by decide) (by decide) (by decide) rfl (Nat.le_of_ble_eq_true rfl) (fun zr6 σ zh6 => ?_)
    obtain ⟨rfl, rfl⟩ := zh6
    refine g_if_ne (tgt := 14) dX11_make_9 (by decide) (fun zc9 => ?_) (fun zc9 => ?_)
    · exact absurd (bI_ne0.mp zc9) hi
    · refine g_iconst (v := (-1)) dX11_make_12 (by decide) ?_
      refine g_iret dX11_make_13 rfl ?_
      exact ⟨_, rfl, rfl, S, hM, hR⟩
end CMmake
