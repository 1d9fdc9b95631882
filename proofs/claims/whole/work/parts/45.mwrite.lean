/-! the reference: what MAKE writes -/
def WR (S : mS) (A : aA) (j : Nat) (w : Int32) (L : List aSt) : Prop := RepM S (A.1.set j (w, L), A.2) ∧ j < A.1.length
def sK (S S' : mS) : Prop := S'.2.1 18 = S.2.1 18 ∧ S'.1 19 = S.1 19 ∧ S'.2.1 20 = S.2.1 20
def wP (o : Nat) (ad : Nat → Nat) (S : mS) (A : aA) (j : Nat) (w : Int32) (L : List aSt) : Int32 → gH → Prop := fun r σ' => r = nI L.length ∧ ∃ S', Mm σ' o ad S' ∧ WR S' A j w L ∧ sK S S'
noncomputable def st1 (w k x : Int32) (y : Int64) : aSt := (k, x, aY k y w)
theorem WR.get {S : mS} {A : aA} {j : Nat} {w : Int32} {L : List aSt} (h : WR S A j w L) : (A.1.set j (w, L))[j]? = some (w, L) := by
  rw [List.getElem?_set]
  simp [h.2]
theorem WR.wd {S : mS} {A : aA} {j : Nat} {w : Int32} {L : List aSt} (h : WR S A j w L) : S.2.2.1 3 j = w := (h.1.1.2.2 j (w, L) h.get).1
theorem WR.j60 {S : mS} {A : aA} {j : Nat} {w : Int32} {L : List aSt} (h : WR S A j w L) : j < 60 := by
  have h1 := h.1.1.2.1
  rw [List.length_set] at h1
  exact Nat.lt_of_lt_of_le h.2 h1
theorem WR.sF {S S' : mS} {A : aA} {j : Nat} {w : Int32} {L : List aSt} {ki kl : List Nat} (h : WR S A j w L) (hF : sF S S' ki kl) (hk : ∀ k ∈ [2, 10, 28], k ∉ ki) : WR S' A j w L := ⟨h.1.sF hF hk, h.2⟩
noncomputable def pqL (w : Int32) (D od : Int64) (tz : Nat) (z : Int32) (n : Nat) : List aSt :=
  if od = 1 then [st1 w 0 z (nI tz).toInt64] else
  if fOver w 0 D = 0 then (if fMoved w 0 D ≤ 0 then [st1 w 2 z (fFactor w 0 D)] else [st1 w 2 z (fFactor w 0 D), st1 w 0 (nI (n + 1)) (fMoved w 0 D).toInt64]) else
  (if fMoved w 0 D ≤ 1 then [st1 w 2 z (fFactor w 0 D), st1 w 6 z (nI (n + 1)).toInt64, st1 w 0 (nI (n + 2)) 1, st1 w 5 (nI (n + 3)) (nI (n + 1)).toInt64] else [st1 w 2 z (fFactor w 0 D), st1 w 6 z (nI (n + 1)).toInt64, st1 w 0 (nI (n + 2)) 1, st1 w 5 (nI (n + 3)) (nI (n + 1)).toInt64, st1 w 0 (nI (n + 4)) (fMoved w 0 D - 1).toInt64])
noncomputable def roL (w q : Int32) (d : Int64) (n : Nat) : List aSt := [st1 w 4 q d, st1 w 6 0 (nI (n + 1)).toInt64]
section CMwrite
variable {l : Launch} {o : Nat} {ad : Nat → Nat} {S : mS} {A : aA} {σ : gH} {j : Nat} {w : Int32}
theorem c_putW (hM : Mm σ o ad S) {L : List aSt} (hW : WR S A j w L) (hl : L.length < 12) (k x : Int32) (y : Int64) : Ct l mX11_put 2 0 0 [.ref o, .int (nI j), .int k, .int x, .long y] σ (pI fun r σ' => r = nI (L.length + 1) ∧ ∃ S', Mm σ' o ad S' ∧ WR S' A j w (L ++ [st1 w k x y]) ∧ S'.2.1 = S.2.1 ∧ S'.1 = S.1) := by
  refine (c_X11_put hM hW.1 hW.get hl k x y).mono ?_
  rintro v σ' ⟨r, rfl, hr, S', h1, h2, h3, h4⟩
  refine ⟨r, rfl, hr, S', h1, ⟨?_, hW.2⟩, h3, h4⟩
  have e : (A.1.set j (w, L)).set j (w, L ++ [st1 w k x y]) = A.1.set j (w, L ++ [st1 w k x y]) := List.set_set _
  rw [← e]
  exact h2
theorem c_X11_plainQuotient (hM : Mm σ o ad S) {L : List aSt} (hW : WR S A j w L) (hl : L.length + 5 ≤ 12) (z : Int32) {D od : Int64} {tz : Nat} (hD : S.2.1 18 = D) (ht : S.1 19 = nI tz) (ho : S.2.1 20 = od) : Ct l mX11_plainQuotient 4 0 0 [.ref o, .int (nI j), .int z] σ (pI (wP o ad S A j w (L ++ pqL w D od tz z L.length))) := by
  have hj := hW.j60
  have hcj : (nI j).toNatClampNeg = j := nI_clamp (by omega)
  have hJ : vp_in (nI j) 60 := vp_in_nI (by omega) (by decide)
  refine Ct_of moX11_plainQuotient [some (.ref o), some (.int (nI j)), some (.int z), none, none, none, none, none] rfl (Nat.le_of_ble_eq_true rfl) ?_
  by_cases h1 : od = 1
  · have hv : pqL w D od tz z L.length = [st1 w 0 z (nI tz).toInt64] := if_pos h1
    rw [hv]
    refine g_aload_n (i := 0) dX11_plainQuotient_0 rfl rfl ?_
    refine gm_get hM (k := 3) dX11_plainQuotient_1 flX11_7 rfl ?_
    refine g_iload_n (i := 1) dX11_plainQuotient_4 rfl rfl ?_
    refine gm_iald hM dX11_plainQuotient_5 rfl (hJ) ?_
    refine g_toi w (by rw [hcj]; exact hW.wd) ?_
    refine g_istore_n (i := 3) (ls' := [_, _, _, _, _, _, _, _]) dX11_plainQuotient_6 rfl (by decide) rfl rfl ?_
    refine g_aload_n (i := 0) dX11_plainQuotient_7 rfl rfl ?_
    refine gm_get hM (k := 20) dX11_plainQuotient_8 flX11_177 rfl ?_
    refine g_lconst (v := 1) dX11_plainQuotient_11 (by decide) ?_
    refine g_lcmp dX11_plainQuotient_12 ?_
    refine g_if_ne (tgt := 29) dX11_plainQuotient_13 (by decide) (fun zc13 => ?_) (fun zc13 => ?_)
    · exact absurd ((lg_cmp_eq _ _).mpr (ho.trans h1)) zc13
    · refine g_aload_n (i := 0) dX11_plainQuotient_16 rfl rfl ?_
      refine g_iload_n (i := 1) dX11_plainQuotient_17 rfl rfl ?_
      refine g_iconst (v := 0) dX11_plainQuotient_18 (by decide) ?_
      refine g_iload_n (i := 2) dX11_plainQuotient_19 rfl rfl ?_
      refine g_aload_n (i := 0) dX11_plainQuotient_20 rfl rfl ?_
      refine gm_get hM (k := 19) dX11_plainQuotient_21 flX11_174 rfl ?_
      refine g_toi (nI tz) ht ?_
      refine g_i2l dX11_plainQuotient_24 ?_
      refine g_callVi (My := mX11_put) [_, _, _, _] dX11_plainQuotient_25 lkX11_167 mvX11_put rfl hM.1 rfl (c_putW hM hW (by omega) _ _ _) (by decide) (by decide) (by decide) rfl (Nat.le_of_ble_eq_true rfl) (fun zr25 σ zh25 => ?_)
      obtain ⟨rfl, S1, hM, hW, e1, e2⟩ := zh25
      refine g_iret dX11_plainQuotient_28 rfl ?_
      exact ⟨_, rfl, by rw [List.length_append]; rfl, S1, hM, hW, by rw [e1], by rw [e2], by rw [e1]⟩
  · refine g_aload_n (i := 0) dX11_plainQuotient_0 rfl rfl ?_
    refine gm_get hM (k := 3) dX11_plainQuotient_1 flX11_7 rfl ?_
    refine g_iload_n (i := 1) dX11_plainQuotient_4 rfl rfl ?_
    refine gm_iald hM dX11_plainQuotient_5 rfl (hJ) ?_
    refine g_toi w (by rw [hcj]; exact hW.wd) ?_
    refine g_istore_n (i := 3) (ls' := [_, _, _, _, _, _, _, _]) dX11_plainQuotient_6 rfl (by decide) rfl rfl ?_
    refine g_aload_n (i := 0) dX11_plainQuotient_7 rfl rfl ?_
    refine gm_get hM (k := 20) dX11_plainQuotient_8 flX11_177 rfl ?_
    refine g_lconst (v := 1) dX11_plainQuotient_11 (by decide) ?_
    refine g_lcmp dX11_plainQuotient_12 ?_
    refine g_if_ne (tgt := 29) dX11_plainQuotient_13 (by decide) (fun zc13 => ?_) (fun zc13 => ?_)
    · refine g_aload_n (i := 0) dX11_plainQuotient_29 rfl rfl ?_
      refine g_iload_n (i := 3) dX11_plainQuotient_30 rfl rfl ?_
      refine g_iconst (v := 0) dX11_plainQuotient_31 (by decide) ?_
      refine g_callVv (My := mX11_find) [_, _] dX11_plainQuotient_32 lkX11_195 mvX11_find rfl hM.1 rfl (c_X11_find hM w 0 (Or.inl rfl) hD) (by decide) (by decide) (by decide) rfl (Nat.le_of_ble_eq_true rfl) (fun σ zh32 => ?_)
      obtain ⟨S1, hM, g1, g2, g3, g4, hF⟩ := zh32
      have hW := hW.sF hF (by decide)
      have k1 : sK S S1 := ⟨hF.2.1 18 (by decide), hF.1 19 (by decide), hF.2.1 20 (by decide)⟩
      refine g_aload_n (i := 0) dX11_plainQuotient_35 rfl rfl ?_
      refine g_iload_n (i := 1) dX11_plainQuotient_36 rfl rfl ?_
      refine g_iconst (v := 2) dX11_plainQuotient_37 (by decide) ?_
      refine g_iload_n (i := 2) dX11_plainQuotient_38 rfl rfl ?_
      refine g_aload_n (i := 0) dX11_plainQuotient_39 rfl rfl ?_
      refine gm_get hM (k := 21) dX11_plainQuotient_40 flX11_189 rfl ?_
      refine g_tol (fFactor w 0 D) g3 ?_
      refine g_callVi (My := mX11_put) [_, _, _, _] dX11_plainQuotient_43 lkX11_167 mvX11_put rfl hM.1 rfl (c_putW hM hW (by omega) _ _ _) (by decide) (by decide) (by decide) rfl (Nat.le_of_ble_eq_true rfl) (fun zr43 σ zh43 => ?_)
      obtain ⟨rfl, S2, hM, hW, e1, e2⟩ := zh43
      have k2 : sK S S2 := ⟨by rw [e1]; exact k1.1, by rw [e2]; exact k1.2.1, by rw [e1]; exact k1.2.2⟩
      refine g_istore (ls' := [_, _, _, _, _, _, _, _]) dX11_plainQuotient_46 (by decide) rfl rfl ?_
      refine g_aload_n (i := 0) dX11_plainQuotient_48 rfl rfl ?_
      refine gm_get hM (k := 22) dX11_plainQuotient_49 flX11_192 rfl ?_
      refine g_toi (fOver w 0 D) (by rw [e2]; exact g4) ?_
      refine g_if_ne (tgt := 81) dX11_plainQuotient_52 (by decide) (fun zc52 => ?_) (fun zc52 => ?_)
      · refine g_aload_n (i := 0) dX11_plainQuotient_81 rfl rfl ?_
        refine g_iload_n (i := 1) dX11_plainQuotient_82 rfl rfl ?_
        refine g_bipush (v := 6) dX11_plainQuotient_83 (by decide) ?_
        refine g_iload_n (i := 2) dX11_plainQuotient_85 rfl rfl ?_
        refine g_iload dX11_plainQuotient_86 rfl ?_
        refine g_i2l dX11_plainQuotient_88 ?_
        refine g_callVi (My := mX11_put) [_, _, _, _] dX11_plainQuotient_89 lkX11_167 mvX11_put rfl hM.1 rfl (c_putW hM hW (by rw [List.length_append]; exact Nat.lt_of_lt_of_le (show L.length + 1 < L.length + 5 by omega) hl) _ _ _) (by decide) (by decide) (by decide) rfl (Nat.le_of_ble_eq_true rfl) (fun zr89 σ zh89 => ?_)
        obtain ⟨ze89, S3, hM, hW, e3, e4⟩ := zh89
        rw [List.append_assoc] at hW
        rw [List.length_append] at ze89
        rw [show zr89 = nI (L.length + 2) from ze89]
        refine g_istore (ls' := [_, _, _, _, _, _, _, _]) dX11_plainQuotient_92 (by decide) rfl rfl ?_
        refine g_aload_n (i := 0) dX11_plainQuotient_94 rfl rfl ?_
        refine g_iload_n (i := 1) dX11_plainQuotient_95 rfl rfl ?_
        refine g_iconst (v := 0) dX11_plainQuotient_96 (by decide) ?_
        refine g_iload dX11_plainQuotient_97 rfl ?_
        refine g_lconst (v := 1) dX11_plainQuotient_99 (by decide) ?_
        refine g_callVi (My := mX11_put) [_, _, _, _] dX11_plainQuotient_100 lkX11_167 mvX11_put rfl hM.1 rfl (c_putW hM hW (by rw [List.length_append]; exact Nat.lt_of_lt_of_le (show L.length + 2 < L.length + 5 by omega) hl) _ _ _) (by decide) (by decide) (by decide) rfl (Nat.le_of_ble_eq_true rfl) (fun zr100 σ zh100 => ?_)
        obtain ⟨ze100, S4, hM, hW, e5, e6⟩ := zh100
        rw [List.append_assoc] at hW
        rw [List.length_append] at ze100
        rw [show zr100 = nI (L.length + 3) from ze100]
        refine g_istore (ls' := [_, _, _, _, _, _, _, _]) dX11_plainQuotient_103 (by decide) rfl rfl ?_
        refine g_aload_n (i := 0) dX11_plainQuotient_105 rfl rfl ?_
        refine g_iload_n (i := 1) dX11_plainQuotient_106 rfl rfl ?_
        refine g_iconst (v := 5) dX11_plainQuotient_107 (by decide) ?_
        refine g_iload dX11_plainQuotient_108 rfl ?_
        refine g_iload dX11_plainQuotient_110 rfl ?_
        refine g_i2l dX11_plainQuotient_112 ?_
        refine g_callVi (My := mX11_put) [_, _, _, _] dX11_plainQuotient_113 lkX11_167 mvX11_put rfl hM.1 rfl (c_putW hM hW (by rw [List.length_append]; exact Nat.lt_of_lt_of_le (show L.length + 3 < L.length + 5 by omega) hl) _ _ _) (by decide) (by decide) (by decide) rfl (Nat.le_of_ble_eq_true rfl) (fun zr113 σ zh113 => ?_)
        obtain ⟨ze113, S5, hM, hW, e7, e8⟩ := zh113
        rw [List.append_assoc] at hW
        rw [List.length_append] at ze113
        rw [show zr113 = nI (L.length + 4) from ze113]
        have k5 : sK S S5 := ⟨by rw [e7, e5, e3]; exact k2.1, by rw [e8, e6, e4]; exact k2.2.1, by rw [e7, e5, e3]; exact k2.2.2⟩
        refine g_istore (ls' := [_, _, _, _, _, _, _, _]) dX11_plainQuotient_116 (by decide) rfl rfl ?_
        refine g_aload_n (i := 0) dX11_plainQuotient_118 rfl rfl ?_
        refine gm_get hM (k := 23) dX11_plainQuotient_119 flX11_183 rfl ?_
        refine g_toi (fMoved w 0 D) (by rw [e8, e6, e4, e2]; exact g1) ?_
        refine g_iconst (v := 1) dX11_plainQuotient_122 (by decide) ?_
        refine g_icmp_le (tgt := 144) dX11_plainQuotient_123 (by decide) (fun zc123 => ?_) (fun zc123 => ?_)
        · refine g_iload dX11_plainQuotient_144 rfl ?_
          refine g_iret dX11_plainQuotient_146 rfl ?_
          first
          | (have hv : pqL w D od tz z L.length = [st1 w 2 z (fFactor w 0 D), st1 w 6 z (nI (L.length + 1)).toInt64, st1 w 0 (nI (L.length + 2)) 1, st1 w 5 (nI (L.length + 3)) (nI (L.length + 1)).toInt64] := (if_neg h1).trans ((if_neg zc52).trans (if_pos zc123))
             rw [hv]
             exact ⟨_, rfl, by rw [List.length_append]; rfl, S5, hM, hW, k5⟩)
          | (have hv : pqL w D od tz z L.length = [st1 w 2 z (fFactor w 0 D), st1 w 6 z (nI (L.length + 1)).toInt64, st1 w 0 (nI (L.length + 2)) 1, st1 w 5 (nI (L.length + 3)) (nI (L.length + 1)).toInt64, st1 w 0 (nI (L.length + 4)) (fMoved w 0 D - 1).toInt64] := (if_neg h1).trans ((if_neg zc52).trans (if_neg zc123))
             rw [hv]
             exact ⟨_, rfl, by rw [List.length_append]; rfl, S6, hM, hW, k6⟩)
        · refine g_aload_n (i := 0) dX11_plainQuotient_126 rfl rfl ?_
          refine g_iload_n (i := 1) dX11_plainQuotient_127 rfl rfl ?_
          refine g_iconst (v := 0) dX11_plainQuotient_128 (by decide) ?_
          refine g_iload dX11_plainQuotient_129 rfl ?_
          refine g_aload_n (i := 0) dX11_plainQuotient_131 rfl rfl ?_
          refine gm_get hM (k := 23) dX11_plainQuotient_132 flX11_183 rfl ?_
          refine g_toi (fMoved w 0 D) (by rw [e8, e6, e4, e2]; exact g1) ?_
          refine g_iconst (v := 1) dX11_plainQuotient_135 (by decide) ?_
          refine g_isub dX11_plainQuotient_136 ?_
          refine g_i2l dX11_plainQuotient_137 ?_
          refine g_callVi (My := mX11_put) [_, _, _, _] dX11_plainQuotient_138 lkX11_167 mvX11_put rfl hM.1 rfl (c_putW hM hW (by rw [List.length_append]; exact Nat.lt_of_lt_of_le (show L.length + 4 < L.length + 5 by omega) hl) _ _ _) (by decide) (by decide) (by decide) rfl (Nat.le_of_ble_eq_true rfl) (fun zr138 σ zh138 => ?_)
          obtain ⟨ze138, S6, hM, hW, e9, e10⟩ := zh138
          rw [List.append_assoc] at hW
          rw [List.length_append] at ze138
          rw [show zr138 = nI (L.length + 5) from ze138]
          have k6 : sK S S6 := ⟨by rw [e9]; exact k5.1, by rw [e10]; exact k5.2.1, by rw [e9]; exact k5.2.2⟩
          refine g_goto (tgt := 146) dX11_plainQuotient_141 (by decide) ?_
          refine g_iret dX11_plainQuotient_146 rfl ?_
          first
          | (have hv : pqL w D od tz z L.length = [st1 w 2 z (fFactor w 0 D), st1 w 6 z (nI (L.length + 1)).toInt64, st1 w 0 (nI (L.length + 2)) 1, st1 w 5 (nI (L.length + 3)) (nI (L.length + 1)).toInt64] := (if_neg h1).trans ((if_neg zc52).trans (if_pos zc123))
             rw [hv]
             exact ⟨_, rfl, by rw [List.length_append]; rfl, S5, hM, hW, k5⟩)
          | (have hv : pqL w D od tz z L.length = [st1 w 2 z (fFactor w 0 D), st1 w 6 z (nI (L.length + 1)).toInt64, st1 w 0 (nI (L.length + 2)) 1, st1 w 5 (nI (L.length + 3)) (nI (L.length + 1)).toInt64, st1 w 0 (nI (L.length + 4)) (fMoved w 0 D - 1).toInt64] := (if_neg h1).trans ((if_neg zc52).trans (if_neg zc123))
             rw [hv]
             exact ⟨_, rfl, by rw [List.length_append]; rfl, S6, hM, hW, k6⟩)
      · refine g_aload_n (i := 0) dX11_plainQuotient_55 rfl rfl ?_
        refine gm_get hM (k := 23) dX11_plainQuotient_56 flX11_183 rfl ?_
        refine g_toi (fMoved w 0 D) (by rw [e2]; exact g1) ?_
        refine g_if_le (tgt := 78) dX11_plainQuotient_59 (by decide) (fun zc59 => ?_) (fun zc59 => ?_)
        · refine g_iload dX11_plainQuotient_78 rfl ?_
          refine g_iret dX11_plainQuotient_80 rfl ?_
          first
          | (have hv : pqL w D od tz z L.length = [st1 w 2 z (fFactor w 0 D)] := (if_neg h1).trans ((if_pos zc52).trans (if_pos zc59))
             rw [hv]
             exact ⟨_, rfl, by rw [List.length_append]; rfl, S2, hM, hW, k2⟩)
          | (have hv : pqL w D od tz z L.length = [st1 w 2 z (fFactor w 0 D), st1 w 0 (nI (L.length + 1)) (fMoved w 0 D).toInt64] := (if_neg h1).trans ((if_pos zc52).trans (if_neg zc59))
             rw [hv]
             rw [List.append_assoc] at hW
             exact ⟨_, rfl, by rw [List.length_append, List.length_append]; rfl, S3, hM, hW, k3⟩)
        · refine g_aload_n (i := 0) dX11_plainQuotient_62 rfl rfl ?_
          refine g_iload_n (i := 1) dX11_plainQuotient_63 rfl rfl ?_
          refine g_iconst (v := 0) dX11_plainQuotient_64 (by decide) ?_
          refine g_iload dX11_plainQuotient_65 rfl ?_
          refine g_aload_n (i := 0) dX11_plainQuotient_67 rfl rfl ?_
          refine gm_get hM (k := 23) dX11_plainQuotient_68 flX11_183 rfl ?_
          refine g_toi (fMoved w 0 D) (by rw [e2]; exact g1) ?_
          refine g_i2l dX11_plainQuotient_71 ?_
          refine g_callVi (My := mX11_put) [_, _, _, _] dX11_plainQuotient_72 lkX11_167 mvX11_put rfl hM.1 rfl (c_putW hM hW (by rw [List.length_append]; exact Nat.lt_of_lt_of_le (show L.length + 1 < L.length + 5 by omega) hl) _ _ _) (by decide) (by decide) (by decide) rfl (Nat.le_of_ble_eq_true rfl) (fun zr72 σ zh72 => ?_)
          obtain ⟨ze72, S3, hM, hW, e3, e4⟩ := zh72
          rw [ze72]
          have k3 : sK S S3 := ⟨by rw [e3]; exact k2.1, by rw [e4]; exact k2.2.1, by rw [e3]; exact k2.2.2⟩
          refine g_goto (tgt := 80) dX11_plainQuotient_75 (by decide) ?_
          refine g_iret dX11_plainQuotient_80 rfl ?_
          first
          | (have hv : pqL w D od tz z L.length = [st1 w 2 z (fFactor w 0 D)] := (if_neg h1).trans ((if_pos zc52).trans (if_pos zc59))
             rw [hv]
             exact ⟨_, rfl, by rw [List.length_append]; rfl, S2, hM, hW, k2⟩)
          | (have hv : pqL w D od tz z L.length = [st1 w 2 z (fFactor w 0 D), st1 w 0 (nI (L.length + 1)) (fMoved w 0 D).toInt64] := (if_neg h1).trans ((if_pos zc52).trans (if_neg zc59))
             rw [hv]
             rw [List.append_assoc] at hW
             exact ⟨_, rfl, by rw [List.length_append, List.length_append]; rfl, S3, hM, hW, k3⟩)
    · exact absurd (ho.symm.trans ((lg_cmp_eq _ _).mp zc13)) h1
theorem c_X11_restOf (hM : Mm σ o ad S) {L : List aSt} (hW : WR S A j w L) (hl : L.length + 2 ≤ 12) (q : Int32) (d : Int64) : Ct l mX11_restOf 3 0 0 [.ref o, .int (nI j), .int q, .long d] σ (pI (wP o ad S A j w (L ++ roL w q d L.length))) := by
  refine Ct_of moX11_restOf [some (.ref o), some (.int (nI j)), some (.int q), some (.long d), none, none] rfl (Nat.le_of_ble_eq_true rfl) ?_
  refine g_aload_n (i := 0) dX11_restOf_0 rfl rfl ?_
  refine g_iload_n (i := 1) dX11_restOf_1 rfl rfl ?_
  refine g_iconst (v := 4) dX11_restOf_2 (by decide) ?_
  refine g_iload_n (i := 2) dX11_restOf_3 rfl rfl ?_
  refine g_lload_n (i := 3) dX11_restOf_4 rfl rfl ?_
  refine g_callVi (My := mX11_put) [_, _, _, _] dX11_restOf_5 lkX11_167 mvX11_put rfl hM.1 rfl (c_putW hM hW (by omega) _ _ _) (by decide) (by decide) (by decide) rfl (Nat.le_of_ble_eq_true rfl) (fun zr5 σ zh5 => ?_)
  obtain ⟨rfl, S2, hM, hW, e1, e2⟩ := zh5
  refine g_istore (ls' := [_, _, _, _, _, _]) dX11_restOf_8 (by decide) rfl rfl ?_
  refine g_aload_n (i := 0) dX11_restOf_10 rfl rfl ?_
  refine g_iload_n (i := 1) dX11_restOf_11 rfl rfl ?_
  refine g_bipush (v := 6) dX11_restOf_12 (by decide) ?_
  refine g_iconst (v := 0) dX11_restOf_14 (by decide) ?_
  refine g_iload dX11_restOf_15 rfl ?_
  refine g_i2l dX11_restOf_17 ?_
  refine g_callVi (My := mX11_put) [_, _, _, _] dX11_restOf_18 lkX11_167 mvX11_put rfl hM.1 rfl (c_putW hM hW (by rw [List.length_append]; exact Nat.lt_of_lt_of_le (show L.length + 1 < L.length + 2 by omega) hl) _ _ _) (by decide) (by decide) (by decide) rfl (Nat.le_of_ble_eq_true rfl) (fun zr18 σ zh18 => ?_)
  obtain ⟨ze18, S3, hM, hW, e3, e4⟩ := zh18
  rw [List.append_assoc] at hW
  rw [List.length_append] at ze18
  rw [show zr18 = nI (L.length + 2) from ze18]
  refine g_iret dX11_restOf_21 rfl ?_
  exact ⟨_, rfl, by rw [List.length_append]; rfl, S3, hM, hW, by rw [e3, e1], by rw [e4, e2], by rw [e3, e1]⟩
end CMwrite
