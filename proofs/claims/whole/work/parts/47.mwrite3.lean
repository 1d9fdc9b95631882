/-! the reference: what MAKE writes, SIGNED -/
noncomputable def sqT (w bl : Int32) (L : List aSt) : List aSt := L ++ (if bl = 0 then [] else [st1 w 7 (nI L.length) 0])
noncomputable def sqC (w : Int32) (L : List aSt) : List aSt := L ++ [st1 w 1 0 (w - 1).toInt64, st1 w 6 (nI L.length) (nI (L.length + 1)).toInt64]
noncomputable def sqB (w mv : Int32) (L : List aSt) : List aSt := L ++ (if mv ≤ 0 then [] else [st1 w 1 (nI L.length) mv.toInt64])
noncomputable def sqA (w : Int32) (F : Int64) (ov : Int32) : List aSt := if 0 < ov ∨ mUp F w then [st1 w 3 0 F, st1 w 5 1 0] else [st1 w 3 0 F]
noncomputable def sqL (w : Int32) (D od : Int64) (tz : Nat) (bl : Int32) : List aSt :=
  if D = 1 then (if bl = 0 then [st1 w 0 0 0] else [st1 w 7 0 0]) else if od = 1 then sqT w bl [st1 w 1 0 (w - 1).toInt64, st1 w 0 1 (w - nI tz).toInt64, st1 w 5 0 (nI 2).toInt64, st1 w 1 3 (nI tz).toInt64] else
  sqT w bl (sqC w (sqB w (fMoved w 1 D) (sqA w (fFactor w 1 D) (fOver w 1 D))))
theorem sqA_len (w : Int32) (F : Int64) (ov : Int32) : (sqA w F ov).length ≤ 2 := by
  unfold sqA
  split <;> exact Nat.le_of_ble_eq_true rfl
theorem sqB_len (w mv : Int32) (L : List aSt) : (sqB w mv L).length ≤ L.length + 1 := by
  unfold sqB
  rw [List.length_append]
  split
  · exact Nat.le_succ _
  · exact Nat.le_refl _
theorem sqC_len (w : Int32) (L : List aSt) : (sqC w L).length = L.length + 2 := by
  unfold sqC
  rw [List.length_append]
  rfl
theorem sqT_len (w bl : Int32) (L : List aSt) : (sqT w bl L).length ≤ L.length + 1 := by
  unfold sqT
  rw [List.length_append]
  split
  · exact Nat.le_succ _
  · exact Nat.le_refl _
section CMwrite3
variable {l : Launch} {o : Nat} {ad : Nat → Nat} {S S1 : mS} {A : aA} {σ : gH} {j : Nat} {w : Int32} {L : List aSt}
theorem sK.put {S2 : mS} (hk : sK S S1) (e1 : S2.2.1 = S1.2.1) (e2 : S2.1 = S1.1) : sK S S2 := ⟨by rw [e1]; exact hk.1, by rw [e2]; exact hk.2.1, by rw [e1]; exact hk.2.2⟩
theorem t207_X11_sq (hM : Mm σ o ad S1) (hW : WR S1 A j w L) (hl : L.length < 12) (hk : sK S S1) (bl : Int32) (x5 x6 x7 : Option Value) : G l mX11_signedQuotient 4 0 0 (pI (wP o ad S A j w (sqT w bl L))) σ 207 [some (.ref o), some (.int (nI j)), some (.int bl), some (.int w), some (.int (nI L.length)), x5, x6, x7] [] := by
  refine g_iload_n (i := 2) dX11_signedQuotient_207 rfl rfl ?_
  refine g_if_eq (tgt := 224) dX11_signedQuotient_208 (by decide) (fun zc208 => ?_) (fun zc208 => ?_)
  · refine g_iload dX11_signedQuotient_224 rfl ?_
    refine g_iret dX11_signedQuotient_226 rfl ?_
    first
    | (have hv : sqT w bl L = L := by (unfold sqT; rw [if_pos zc208]; exact List.append_nil L)
       rw [hv]
       exact ⟨_, rfl, rfl, S1, hM, hW, hk⟩)
    | (have hv : sqT w bl L = L ++ [st1 w 7 (nI L.length) 0] := by (unfold sqT; rw [if_neg zc208])
       rw [hv]
       exact ⟨_, rfl, by rw [ze218, List.length_append (as := L)]; rfl, S2, hM, hW, hk.put e1 e2⟩)
  · refine g_aload_n (i := 0) dX11_signedQuotient_211 rfl rfl ?_
    refine g_iload_n (i := 1) dX11_signedQuotient_212 rfl rfl ?_
    refine g_bipush (v := 7) dX11_signedQuotient_213 (by decide) ?_
    refine g_iload dX11_signedQuotient_215 rfl ?_
    refine g_lconst (v := 0) dX11_signedQuotient_217 (by decide) ?_
    refine g_callVi (My := mX11_put) [_, _, _, _] dX11_signedQuotient_218 lkX11_167 mvX11_put rfl hM.1 rfl (c_putW hM hW hl _ _ _) (by decide) (by decide) (by decide) rfl (Nat.le_of_ble_eq_true rfl) (fun zr218 σ zh218 => ?_)
    obtain ⟨ze218, S2, hM, hW, e1, e2⟩ := zh218
    refine g_goto (tgt := 226) dX11_signedQuotient_221 (by decide) ?_
    refine g_iret dX11_signedQuotient_226 rfl ?_
    first
    | (have hv : sqT w bl L = L := by (unfold sqT; rw [if_pos zc208]; exact List.append_nil L)
       rw [hv]
       exact ⟨_, rfl, rfl, S1, hM, hW, hk⟩)
    | (have hv : sqT w bl L = L ++ [st1 w 7 (nI L.length) 0] := by (unfold sqT; rw [if_neg zc208])
       rw [hv]
       exact ⟨_, rfl, by rw [ze218, List.length_append (as := L)]; rfl, S2, hM, hW, hk.put e1 e2⟩)
theorem t180_X11_sq (hM : Mm σ o ad S1) (hW : WR S1 A j w L) (hl : L.length + 2 < 12) (hk : sK S S1) (bl : Int32) : G l mX11_signedQuotient 4 0 0 (pI (wP o ad S A j w (sqT w bl (sqC w L)))) σ 180 [some (.ref o), some (.int (nI j)), some (.int bl), some (.int w), some (.int (nI L.length)), none, none, none] [] := by
  refine g_aload_n (i := 0) dX11_signedQuotient_180 rfl rfl ?_
  refine g_iload_n (i := 1) dX11_signedQuotient_181 rfl rfl ?_
  refine g_iconst (v := 1) dX11_signedQuotient_182 (by decide) ?_
  refine g_iconst (v := 0) dX11_signedQuotient_183 (by decide) ?_
  refine g_iload_n (i := 3) dX11_signedQuotient_184 rfl rfl ?_
  refine g_iconst (v := 1) dX11_signedQuotient_185 (by decide) ?_
  refine g_isub dX11_signedQuotient_186 ?_
  refine g_i2l dX11_signedQuotient_187 ?_
  refine g_callVi (My := mX11_put) [_, _, _, _] dX11_signedQuotient_188 lkX11_167 mvX11_put rfl hM.1 rfl (c_putW hM hW (by omega) _ _ _) (by decide) (by decide) (by decide) rfl (Nat.le_of_ble_eq_true rfl) (fun zr188 σ zh188 => ?_)
  obtain ⟨rfl, S2, hM, hW, e1, e2⟩ := zh188
  refine g_istore (ls' := [_, _, _, _, _, _, _, _]) dX11_signedQuotient_191 (by decide) rfl rfl ?_
  refine g_aload_n (i := 0) dX11_signedQuotient_193 rfl rfl ?_
  refine g_iload_n (i := 1) dX11_signedQuotient_194 rfl rfl ?_
  refine g_bipush (v := 6) dX11_signedQuotient_195 (by decide) ?_
  refine g_iload dX11_signedQuotient_197 rfl ?_
  refine g_iload dX11_signedQuotient_199 rfl ?_
  refine g_i2l dX11_signedQuotient_201 ?_
  refine g_callVi (My := mX11_put) [_, _, _, _] dX11_signedQuotient_202 lkX11_167 mvX11_put rfl hM.1 rfl (c_putW hM hW (by rw [List.length_append]; exact Nat.lt_trans (Nat.lt_succ_self _) hl) _ _ _) (by decide) (by decide) (by decide) rfl (Nat.le_of_ble_eq_true rfl) (fun zr202 σ zh202 => ?_)
  obtain ⟨ze202, S3, hM, hW, e3, e4⟩ := zh202
  rw [List.append_assoc] at hW
  rw [List.length_append (as := L)] at ze202
  have hz : zr202 = nI (sqC w L).length := by rw [ze202, sqC_len]; rfl
  rw [hz]
  refine g_istore (ls' := [_, _, _, _, _, _, _, _]) dX11_signedQuotient_205 (by decide) rfl rfl ?_
  exact t207_X11_sq (L := sqC w L) hM hW (by rw [sqC_len]; exact hl) ((hk.put e1 e2).put e3 e4) bl _ _ _
theorem t158_X11_sq (hM : Mm σ o ad S1) (hW : WR S1 A j w L) (hl : L.length + 3 < 12) (hk : sK S S1) (bl mv : Int32) (hmv : S1.1 23 = mv) : G l mX11_signedQuotient 4 0 0 (pI (wP o ad S A j w (sqT w bl (sqC w (sqB w mv L))))) σ 158 [some (.ref o), some (.int (nI j)), some (.int bl), some (.int w), some (.int (nI L.length)), none, none, none] [] := by
  by_cases h0 : mv ≤ 0
  · have hv : sqB w mv L = L := by
      unfold sqB
      rw [if_pos h0]
      exact List.append_nil L
    rw [hv]
    refine g_aload_n (i := 0) dX11_signedQuotient_158 rfl rfl ?_
    refine gm_get hM (k := 23) dX11_signedQuotient_159 flX11_183 rfl ?_
    refine g_toi mv hmv ?_
    refine g_if_le (tgt := 180) dX11_signedQuotient_162 (by decide) (fun zc162 => ?_) (fun zc162 => ?_)
    · exact t180_X11_sq hM hW (by omega) hk bl
    · exact absurd h0 zc162
  · have hv : sqB w mv L = L ++ [st1 w 1 (nI L.length) mv.toInt64] := by
      unfold sqB
      rw [if_neg h0]
    rw [hv]
    refine g_aload_n (i := 0) dX11_signedQuotient_158 rfl rfl ?_
    refine gm_get hM (k := 23) dX11_signedQuotient_159 flX11_183 rfl ?_
    refine g_toi mv hmv ?_
    refine g_if_le (tgt := 180) dX11_signedQuotient_162 (by decide) (fun zc162 => ?_) (fun zc162 => ?_)
    · exact absurd zc162 h0
    · refine g_aload_n (i := 0) dX11_signedQuotient_165 rfl rfl ?_
      refine g_iload_n (i := 1) dX11_signedQuotient_166 rfl rfl ?_
      refine g_iconst (v := 1) dX11_signedQuotient_167 (by decide) ?_
      refine g_iload dX11_signedQuotient_168 rfl ?_
      refine g_aload_n (i := 0) dX11_signedQuotient_170 rfl rfl ?_
      refine gm_get hM (k := 23) dX11_signedQuotient_171 flX11_183 rfl ?_
      refine g_toi mv hmv ?_
      refine g_i2l dX11_signedQuotient_174 ?_
      refine g_callVi (My := mX11_put) [_, _, _, _] dX11_signedQuotient_175 lkX11_167 mvX11_put rfl hM.1 rfl (c_putW hM hW (by omega) _ _ _) (by decide) (by decide) (by decide) rfl (Nat.le_of_ble_eq_true rfl) (fun zr175 σ zh175 => ?_)
      obtain ⟨ze175, S2, hM, hW, e1, e2⟩ := zh175
      rw [show zr175 = nI (L ++ [st1 w 1 (nI L.length) mv.toInt64]).length from by rw [ze175, List.length_append (as := L)]; rfl]
      refine g_istore (ls' := [_, _, _, _, _, _, _, _]) dX11_signedQuotient_178 (by decide) rfl rfl ?_
      exact t180_X11_sq hM hW (by rw [List.length_append]; exact hl) (hk.put e1 e2) bl
theorem c_X11_signedQuotient (hM : Mm σ o ad S) (hW : WR S A j w []) (bl : Int32) {D od : Int64} {tz : Nat} (hD : S.2.1 18 = D) (ht : S.1 19 = nI tz) (ho : S.2.1 20 = od) : Ct l mX11_signedQuotient 4 0 0 [.ref o, .int (nI j), .int bl] σ (pI (wP o ad S A j w (sqL w D od tz bl))) := by
  have hj := hW.j60
  have hcj : (nI j).toNatClampNeg = j := nI_clamp (by omega)
  have hJ : vp_in (nI j) 60 := vp_in_nI (by omega) (by decide)
  have k0 : sK S S := ⟨rfl, rfl, rfl⟩
  refine Ct_of moX11_signedQuotient [some (.ref o), some (.int (nI j)), some (.int bl), none, none, none, none, none] rfl (Nat.le_of_ble_eq_true rfl) ?_
  by_cases hD1 : D = 1
  · have hX : sqL w D od tz bl = (if bl = 0 then [st1 w 0 0 0] else [st1 w 7 0 0]) := if_pos hD1
    refine g_aload_n (i := 0) dX11_signedQuotient_0 rfl rfl ?_
    refine gm_get hM (k := 3) dX11_signedQuotient_1 flX11_7 rfl ?_
    refine g_iload_n (i := 1) dX11_signedQuotient_4 rfl rfl ?_
    refine gm_iald hM dX11_signedQuotient_5 rfl (hJ) ?_
    refine g_toi w (by rw [hcj]; exact hW.wd) ?_
    refine g_istore_n (i := 3) (ls' := [_, _, _, _, _, _, _, _]) dX11_signedQuotient_6 rfl (by decide) rfl rfl ?_
    refine g_aload_n (i := 0) dX11_signedQuotient_7 rfl rfl ?_
    refine gm_get hM (k := 18) dX11_signedQuotient_8 flX11_171 rfl ?_
    refine g_lconst (v := 1) dX11_signedQuotient_11 (by decide) ?_
    refine g_lcmp dX11_signedQuotient_12 ?_
    refine g_if_ne (tgt := 41) dX11_signedQuotient_13 (by decide) (fun zc13 => ?_) (fun zc13 => ?_)
    · exact absurd ((lg_cmp_eq _ _).mpr (hD.trans hD1)) zc13
    · refine g_iload_n (i := 2) dX11_signedQuotient_16 rfl rfl ?_
      refine g_if_eq (tgt := 32) dX11_signedQuotient_17 (by decide) (fun zc17 => ?_) (fun zc17 => ?_)
      · refine g_aload_n (i := 0) dX11_signedQuotient_32 rfl rfl ?_
        refine g_iload_n (i := 1) dX11_signedQuotient_33 rfl rfl ?_
        refine g_iconst (v := 0) dX11_signedQuotient_34 (by decide) ?_
        refine g_iconst (v := 0) dX11_signedQuotient_35 (by decide) ?_
        refine g_lconst (v := 0) dX11_signedQuotient_36 (by decide) ?_
        refine g_callVi (My := mX11_put) [_, _, _, _] dX11_signedQuotient_37 lkX11_167 mvX11_put rfl hM.1 rfl (c_putW hM hW (by decide) _ _ _) (by decide) (by decide) (by decide) rfl (Nat.le_of_ble_eq_true rfl) (fun zr37 σ zh37 => ?_)
        obtain ⟨ze37, S2, hM, hW, e1, e2⟩ := zh37
        refine g_iret dX11_signedQuotient_40 rfl ?_
        first
        | (have hv := hX.trans (if_pos zc17)
           rw [hv]
           exact ⟨_, rfl, ze37, S2, hM, hW, k0.put e1 e2⟩)
        | (have hv := hX.trans (if_neg zc17)
           rw [hv]
           exact ⟨_, rfl, ze26, S2, hM, hW, k0.put e1 e2⟩)
      · refine g_aload_n (i := 0) dX11_signedQuotient_20 rfl rfl ?_
        refine g_iload_n (i := 1) dX11_signedQuotient_21 rfl rfl ?_
        refine g_bipush (v := 7) dX11_signedQuotient_22 (by decide) ?_
        refine g_iconst (v := 0) dX11_signedQuotient_24 (by decide) ?_
        refine g_lconst (v := 0) dX11_signedQuotient_25 (by decide) ?_
        refine g_callVi (My := mX11_put) [_, _, _, _] dX11_signedQuotient_26 lkX11_167 mvX11_put rfl hM.1 rfl (c_putW hM hW (by decide) _ _ _) (by decide) (by decide) (by decide) rfl (Nat.le_of_ble_eq_true rfl) (fun zr26 σ zh26 => ?_)
        obtain ⟨ze26, S2, hM, hW, e1, e2⟩ := zh26
        refine g_goto (tgt := 40) dX11_signedQuotient_29 (by decide) ?_
        refine g_iret dX11_signedQuotient_40 rfl ?_
        first
        | (have hv := hX.trans (if_pos zc17)
           rw [hv]
           exact ⟨_, rfl, ze37, S2, hM, hW, k0.put e1 e2⟩)
        | (have hv := hX.trans (if_neg zc17)
           rw [hv]
           exact ⟨_, rfl, ze26, S2, hM, hW, k0.put e1 e2⟩)
  by_cases ho1 : od = 1
  · have hX : sqL w D od tz bl = sqT w bl [st1 w 1 0 (w - 1).toInt64, st1 w 0 1 (w - nI tz).toInt64, st1 w 5 0 (nI 2).toInt64, st1 w 1 3 (nI tz).toInt64] := (if_neg hD1).trans (if_pos ho1)
    rw [hX]
    refine g_aload_n (i := 0) dX11_signedQuotient_0 rfl rfl ?_
    refine gm_get hM (k := 3) dX11_signedQuotient_1 flX11_7 rfl ?_
    refine g_iload_n (i := 1) dX11_signedQuotient_4 rfl rfl ?_
    refine gm_iald hM dX11_signedQuotient_5 rfl (hJ) ?_
    refine g_toi w (by rw [hcj]; exact hW.wd) ?_
    refine g_istore_n (i := 3) (ls' := [_, _, _, _, _, _, _, _]) dX11_signedQuotient_6 rfl (by decide) rfl rfl ?_
    refine g_aload_n (i := 0) dX11_signedQuotient_7 rfl rfl ?_
    refine gm_get hM (k := 18) dX11_signedQuotient_8 flX11_171 rfl ?_
    refine g_lconst (v := 1) dX11_signedQuotient_11 (by decide) ?_
    refine g_lcmp dX11_signedQuotient_12 ?_
    refine g_if_ne (tgt := 41) dX11_signedQuotient_13 (by decide) (fun zc13 => ?_) (fun zc13 => ?_)
    · refine g_aload_n (i := 0) dX11_signedQuotient_41 rfl rfl ?_
      refine gm_get hM (k := 20) dX11_signedQuotient_42 flX11_177 rfl ?_
      refine g_lconst (v := 1) dX11_signedQuotient_45 (by decide) ?_
      refine g_lcmp dX11_signedQuotient_46 ?_
      refine g_if_ne (tgt := 110) dX11_signedQuotient_47 (by decide) (fun zc47 => ?_) (fun zc47 => ?_)
      · exact absurd ((lg_cmp_eq _ _).mpr (ho.trans ho1)) zc47
      · refine g_aload_n (i := 0) dX11_signedQuotient_50 rfl rfl ?_
        refine g_iload_n (i := 1) dX11_signedQuotient_51 rfl rfl ?_
        refine g_iconst (v := 1) dX11_signedQuotient_52 (by decide) ?_
        refine g_iconst (v := 0) dX11_signedQuotient_53 (by decide) ?_
        refine g_iload_n (i := 3) dX11_signedQuotient_54 rfl rfl ?_
        refine g_iconst (v := 1) dX11_signedQuotient_55 (by decide) ?_
        refine g_isub dX11_signedQuotient_56 ?_
        refine g_i2l dX11_signedQuotient_57 ?_
        refine g_callVi (My := mX11_put) [_, _, _, _] dX11_signedQuotient_58 lkX11_167 mvX11_put rfl hM.1 rfl (c_putW hM hW (by decide) _ _ _) (by decide) (by decide) (by decide) rfl (Nat.le_of_ble_eq_true rfl) (fun zr58 σ zh58 => ?_)
        obtain ⟨ze58, S2, hM, hW, e1, e2⟩ := zh58
        rw [ze58]
        refine g_istore (ls' := [_, _, _, _, _, _, _, _]) dX11_signedQuotient_61 (by decide) rfl rfl ?_
        refine g_aload_n (i := 0) dX11_signedQuotient_63 rfl rfl ?_
        refine g_iload_n (i := 1) dX11_signedQuotient_64 rfl rfl ?_
        refine g_iconst (v := 0) dX11_signedQuotient_65 (by decide) ?_
        refine g_iload dX11_signedQuotient_66 rfl ?_
        refine g_iload_n (i := 3) dX11_signedQuotient_68 rfl rfl ?_
        refine g_aload_n (i := 0) dX11_signedQuotient_69 rfl rfl ?_
        refine gm_get hM (k := 19) dX11_signedQuotient_70 flX11_174 rfl ?_
        refine g_toi (nI tz) (by rw [e2]; exact ht) ?_
        refine g_isub dX11_signedQuotient_73 ?_
        refine g_i2l dX11_signedQuotient_74 ?_
        refine g_callVi (My := mX11_put) [_, _, _, _] dX11_signedQuotient_75 lkX11_167 mvX11_put rfl hM.1 rfl (c_putW hM hW (Nat.le_of_ble_eq_true rfl) _ _ _) (by decide) (by decide) (by decide) rfl (Nat.le_of_ble_eq_true rfl) (fun zr75 σ zh75 => ?_)
        obtain ⟨ze75, S3, hM, hW, e3, e4⟩ := zh75
        rw [ze75]
        refine g_istore (ls' := [_, _, _, _, _, _, _, _]) dX11_signedQuotient_78 (by decide) rfl rfl ?_
        refine g_aload_n (i := 0) dX11_signedQuotient_80 rfl rfl ?_
        refine g_iload_n (i := 1) dX11_signedQuotient_81 rfl rfl ?_
        refine g_iconst (v := 5) dX11_signedQuotient_82 (by decide) ?_
        refine g_iconst (v := 0) dX11_signedQuotient_83 (by decide) ?_
        refine g_iload dX11_signedQuotient_84 rfl ?_
        refine g_i2l dX11_signedQuotient_86 ?_
        refine g_callVi (My := mX11_put) [_, _, _, _] dX11_signedQuotient_87 lkX11_167 mvX11_put rfl hM.1 rfl (c_putW hM hW (Nat.le_of_ble_eq_true rfl) _ _ _) (by decide) (by decide) (by decide) rfl (Nat.le_of_ble_eq_true rfl) (fun zr87 σ zh87 => ?_)
        obtain ⟨ze87, S4, hM, hW, e5, e6⟩ := zh87
        rw [ze87]
        refine g_istore (ls' := [_, _, _, _, _, _, _, _]) dX11_signedQuotient_90 (by decide) rfl rfl ?_
        refine g_aload_n (i := 0) dX11_signedQuotient_92 rfl rfl ?_
        refine g_iload_n (i := 1) dX11_signedQuotient_93 rfl rfl ?_
        refine g_iconst (v := 1) dX11_signedQuotient_94 (by decide) ?_
        refine g_iload dX11_signedQuotient_95 rfl ?_
        refine g_aload_n (i := 0) dX11_signedQuotient_97 rfl rfl ?_
        refine gm_get hM (k := 19) dX11_signedQuotient_98 flX11_174 rfl ?_
        refine g_toi (nI tz) (by rw [e6, e4, e2]; exact ht) ?_
        refine g_i2l dX11_signedQuotient_101 ?_
        refine g_callVi (My := mX11_put) [_, _, _, _] dX11_signedQuotient_102 lkX11_167 mvX11_put rfl hM.1 rfl (c_putW hM hW (Nat.le_of_ble_eq_true rfl) _ _ _) (by decide) (by decide) (by decide) rfl (Nat.le_of_ble_eq_true rfl) (fun zr102 σ zh102 => ?_)
        obtain ⟨ze102, S5, hM, hW, e7, e8⟩ := zh102
        rw [ze102]
        refine g_istore (ls' := [_, _, _, _, _, _, _, _]) dX11_signedQuotient_105 (by decide) rfl rfl ?_
        refine g_goto (tgt := 207) dX11_signedQuotient_107 (by decide) ?_
        exact t207_X11_sq (L := [st1 w 1 0 (w - 1).toInt64, st1 w 0 1 (w - nI tz).toInt64, st1 w 5 0 (nI 2).toInt64, st1 w 1 3 (nI tz).toInt64]) hM hW (Nat.le_of_ble_eq_true rfl) ((((k0.put e1 e2).put e3 e4).put e5 e6).put e7 e8) bl _ _ _
    · exact absurd (hD.symm.trans ((lg_cmp_eq _ _).mp zc13)) hD1
  · have hX : sqL w D od tz bl = sqT w bl (sqC w (sqB w (fMoved w 1 D) (sqA w (fFactor w 1 D) (fOver w 1 D)))) := (if_neg hD1).trans (if_neg ho1)
    rw [hX]
    refine g_aload_n (i := 0) dX11_signedQuotient_0 rfl rfl ?_
    refine gm_get hM (k := 3) dX11_signedQuotient_1 flX11_7 rfl ?_
    refine g_iload_n (i := 1) dX11_signedQuotient_4 rfl rfl ?_
    refine gm_iald hM dX11_signedQuotient_5 rfl (hJ) ?_
    refine g_toi w (by rw [hcj]; exact hW.wd) ?_
    refine g_istore_n (i := 3) (ls' := [_, _, _, _, _, _, _, _]) dX11_signedQuotient_6 rfl (by decide) rfl rfl ?_
    refine g_aload_n (i := 0) dX11_signedQuotient_7 rfl rfl ?_
    refine gm_get hM (k := 18) dX11_signedQuotient_8 flX11_171 rfl ?_
    refine g_lconst (v := 1) dX11_signedQuotient_11 (by decide) ?_
    refine g_lcmp dX11_signedQuotient_12 ?_
    refine g_if_ne (tgt := 41) dX11_signedQuotient_13 (by decide) (fun zc13 => ?_) (fun zc13 => ?_)
    · refine g_aload_n (i := 0) dX11_signedQuotient_41 rfl rfl ?_
      refine gm_get hM (k := 20) dX11_signedQuotient_42 flX11_177 rfl ?_
      refine g_lconst (v := 1) dX11_signedQuotient_45 (by decide) ?_
      refine g_lcmp dX11_signedQuotient_46 ?_
      refine g_if_ne (tgt := 110) dX11_signedQuotient_47 (by decide) (fun zc47 => ?_) (fun zc47 => ?_)
      · refine g_aload_n (i := 0) dX11_signedQuotient_110 rfl rfl ?_
        refine g_iload_n (i := 3) dX11_signedQuotient_111 rfl rfl ?_
        refine g_iconst (v := 1) dX11_signedQuotient_112 (by decide) ?_
        refine g_callVv (My := mX11_find) [_, _] dX11_signedQuotient_113 lkX11_195 mvX11_find rfl hM.1 rfl (c_X11_find hM w 1 (Or.inr rfl) hD) (by decide) (by decide) (by decide) rfl (Nat.le_of_ble_eq_true rfl) (fun σ zh113 => ?_)
        obtain ⟨S1, hM, g1, g2, g3, g4, hF⟩ := zh113
        have hW := hW.sF hF (by decide)
        have k1 : sK S S1 := ⟨hF.2.1 18 (by decide), hF.1 19 (by decide), hF.2.1 20 (by decide)⟩
        refine g_aload_n (i := 0) dX11_signedQuotient_116 rfl rfl ?_
        refine g_iload_n (i := 1) dX11_signedQuotient_117 rfl rfl ?_
        refine g_iconst (v := 3) dX11_signedQuotient_118 (by decide) ?_
        refine g_iconst (v := 0) dX11_signedQuotient_119 (by decide) ?_
        refine g_aload_n (i := 0) dX11_signedQuotient_120 rfl rfl ?_
        refine gm_get hM (k := 21) dX11_signedQuotient_121 flX11_189 rfl ?_
        refine g_tol (fFactor w 1 D) g3 ?_
        refine g_callVi (My := mX11_put) [_, _, _, _] dX11_signedQuotient_124 lkX11_167 mvX11_put rfl hM.1 rfl (c_putW hM hW (by decide) _ _ _) (by decide) (by decide) (by decide) rfl (Nat.le_of_ble_eq_true rfl) (fun zr124 σ zh124 => ?_)
        obtain ⟨ze124, S2, hM, hW, e1, e2⟩ := zh124
        rw [ze124]
        refine g_istore (ls' := [_, _, _, _, _, _, _, _]) dX11_signedQuotient_127 (by decide) rfl rfl ?_
        refine g_aload_n (i := 0) dX11_signedQuotient_129 rfl rfl ?_
        refine gm_get hM (k := 22) dX11_signedQuotient_130 flX11_192 rfl ?_
        refine g_toi (fOver w 1 D) (by rw [e2]; exact g4) ?_
        refine g_if_gt (tgt := 147) dX11_signedQuotient_133 (by decide) (fun zc133 => ?_) (fun zc133 => ?_)
        · refine g_aload_n (i := 0) dX11_signedQuotient_147 rfl rfl ?_
          refine g_iload_n (i := 1) dX11_signedQuotient_148 rfl rfl ?_
          refine g_iconst (v := 5) dX11_signedQuotient_149 (by decide) ?_
          refine g_iload dX11_signedQuotient_150 rfl ?_
          refine g_lconst (v := 0) dX11_signedQuotient_152 (by decide) ?_
          refine g_callVi (My := mX11_put) [_, _, _, _] dX11_signedQuotient_153 lkX11_167 mvX11_put rfl hM.1 rfl (c_putW hM hW (Nat.le_of_ble_eq_true rfl) _ _ _) (by decide) (by decide) (by decide) rfl (Nat.le_of_ble_eq_true rfl) (fun zr153 σ zh153 => ?_)
          obtain ⟨ze153, S3, hM, hW, e3, e4⟩ := zh153
          rw [ze153]
          refine g_istore (ls' := [_, _, _, _, _, _, _, _]) dX11_signedQuotient_156 (by decide) rfl rfl ?_
          first
          | (have hv : sqA w (fFactor w 1 D) (fOver w 1 D) = [st1 w 3 0 (fFactor w 1 D), st1 w 5 1 0] := if_pos (Or.inl zc133)
             rw [hv]
             exact t158_X11_sq (L := [st1 w 3 0 (fFactor w 1 D), st1 w 5 1 0]) hM hW (Nat.le_of_ble_eq_true rfl) ((k1.put e1 e2).put e3 e4) bl _ (by rw [e4, e2]; exact g1))
          | (have hv : sqA w (fFactor w 1 D) (fOver w 1 D) = [st1 w 3 0 (fFactor w 1 D), st1 w 5 1 0] := if_pos (Or.inr (bI_ne0.mp zc144))
             rw [hv]
             exact t158_X11_sq (L := [st1 w 3 0 (fFactor w 1 D), st1 w 5 1 0]) hM hW (Nat.le_of_ble_eq_true rfl) ((k1.put e1 e2).put e3 e4) bl _ (by rw [e4, e2]; exact g1))
          | (have hv : sqA w (fFactor w 1 D) (fOver w 1 D) = [st1 w 3 0 (fFactor w 1 D)] := if_neg (fun z => z.elim zc133 (bI_eq0.mp zc144))
             rw [hv]
             exact t158_X11_sq (L := [st1 w 3 0 (fFactor w 1 D)]) hM hW (Nat.le_of_ble_eq_true rfl) (k1.put e1 e2) bl _ (by rw [e2]; exact g1))
        · refine g_aload_n (i := 0) dX11_signedQuotient_136 rfl rfl ?_
          refine gm_get hM (k := 21) dX11_signedQuotient_137 flX11_189 rfl ?_
          refine g_tol (fFactor w 1 D) (by rw [e1]; exact g3) ?_
          refine g_iload_n (i := 3) dX11_signedQuotient_140 rfl rfl ?_
          refine g_callSi (My := mX11_isUp) [_, _] dX11_signedQuotient_141 lkX11_128 mvX11_isUp rfl (c_X11_isUp _ _) (by decide) (by decide) (by decide) rfl (Nat.le_of_ble_eq_true rfl) (fun zr141 σ zh141 => ?_)
          obtain ⟨rfl, rfl⟩ := zh141
          refine g_if_eq (tgt := 158) dX11_signedQuotient_144 (by decide) (fun zc144 => ?_) (fun zc144 => ?_)
          · first
            | (have hv : sqA w (fFactor w 1 D) (fOver w 1 D) = [st1 w 3 0 (fFactor w 1 D), st1 w 5 1 0] := if_pos (Or.inl zc133)
               rw [hv]
               exact t158_X11_sq (L := [st1 w 3 0 (fFactor w 1 D), st1 w 5 1 0]) hM hW (Nat.le_of_ble_eq_true rfl) ((k1.put e1 e2).put e3 e4) bl _ (by rw [e4, e2]; exact g1))
            | (have hv : sqA w (fFactor w 1 D) (fOver w 1 D) = [st1 w 3 0 (fFactor w 1 D), st1 w 5 1 0] := if_pos (Or.inr (bI_ne0.mp zc144))
               rw [hv]
               exact t158_X11_sq (L := [st1 w 3 0 (fFactor w 1 D), st1 w 5 1 0]) hM hW (Nat.le_of_ble_eq_true rfl) ((k1.put e1 e2).put e3 e4) bl _ (by rw [e4, e2]; exact g1))
            | (have hv : sqA w (fFactor w 1 D) (fOver w 1 D) = [st1 w 3 0 (fFactor w 1 D)] := if_neg (fun z => z.elim zc133 (bI_eq0.mp zc144))
               rw [hv]
               exact t158_X11_sq (L := [st1 w 3 0 (fFactor w 1 D)]) hM hW (Nat.le_of_ble_eq_true rfl) (k1.put e1 e2) bl _ (by rw [e2]; exact g1))
          · refine g_aload_n (i := 0) dX11_signedQuotient_147 rfl rfl ?_
            refine g_iload_n (i := 1) dX11_signedQuotient_148 rfl rfl ?_
            refine g_iconst (v := 5) dX11_signedQuotient_149 (by decide) ?_
            refine g_iload dX11_signedQuotient_150 rfl ?_
            refine g_lconst (v := 0) dX11_signedQuotient_152 (by decide) ?_
            refine g_callVi (My := mX11_put) [_, _, _, _] dX11_signedQuotient_153 lkX11_167 mvX11_put rfl hM.1 rfl (c_putW hM hW (Nat.le_of_ble_eq_true rfl) _ _ _) (by decide) (by decide) (by decide) rfl (Nat.le_of_ble_eq_true rfl) (fun zr153 σ zh153 => ?_)
            obtain ⟨ze153, S3, hM, hW, e3, e4⟩ := zh153
            rw [ze153]
            refine g_istore (ls' := [_, _, _, _, _, _, _, _]) dX11_signedQuotient_156 (by decide) rfl rfl ?_
            first
            | (have hv : sqA w (fFactor w 1 D) (fOver w 1 D) = [st1 w 3 0 (fFactor w 1 D), st1 w 5 1 0] := if_pos (Or.inl zc133)
               rw [hv]
               exact t158_X11_sq (L := [st1 w 3 0 (fFactor w 1 D), st1 w 5 1 0]) hM hW (Nat.le_of_ble_eq_true rfl) ((k1.put e1 e2).put e3 e4) bl _ (by rw [e4, e2]; exact g1))
            | (have hv : sqA w (fFactor w 1 D) (fOver w 1 D) = [st1 w 3 0 (fFactor w 1 D), st1 w 5 1 0] := if_pos (Or.inr (bI_ne0.mp zc144))
               rw [hv]
               exact t158_X11_sq (L := [st1 w 3 0 (fFactor w 1 D), st1 w 5 1 0]) hM hW (Nat.le_of_ble_eq_true rfl) ((k1.put e1 e2).put e3 e4) bl _ (by rw [e4, e2]; exact g1))
            | (have hv : sqA w (fFactor w 1 D) (fOver w 1 D) = [st1 w 3 0 (fFactor w 1 D)] := if_neg (fun z => z.elim zc133 (bI_eq0.mp zc144))
               rw [hv]
               exact t158_X11_sq (L := [st1 w 3 0 (fFactor w 1 D)]) hM hW (Nat.le_of_ble_eq_true rfl) (k1.put e1 e2) bl _ (by rw [e2]; exact g1))
      · exact absurd (ho.symm.trans ((lg_cmp_eq _ _).mp zc47)) ho1
    · exact absurd (hD.symm.trans ((lg_cmp_eq _ _).mp zc13)) hD1
end CMwrite3
