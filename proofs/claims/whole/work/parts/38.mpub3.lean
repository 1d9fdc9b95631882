/-! the reference's public methods: plain, proof, inverse, cost, isIn, drop -/
noncomputable def sProof (w : Int32) (d : Int64) (what : Int32) (z : Nat) : Int64 := by
  classical
  exact if isW w ∧ (¬ what < 0 ∧ what ≤ 3) ∧ ¬ mLow d w = 0 then (if gUshr (mLow d w) (nI z) = 1 then 0 else if what = 0 then (fMoved w 0 (mLow d w)).toInt64 else if what = 1 then fFactor w 0 (mLow d w) else if what = 2 then (fOver w 0 (mLow d w)).toInt64 else fMiss w 0 (mLow d w)) else -1
noncomputable def sInverse (w : Int32) (d : Int64) : Int64 := by
  classical
  exact if isW w ∧ d &&& 1 = 1 then mLow (mInv d) w else 0
theorem mSz_0 (w : Int32) (d : Int64) : mSz w 0 d = mLow d w := by
  unfold mSz
  rw [if_neg (fun z => absurd z.1 (by decide))]
section CMpub3
variable {l : Launch} {o : Nat} {ad : Nat → Nat} {S : mS} {A : aA} {σ : gH}
theorem c_X11_plain (hM : Mm σ o ad S) (hR : RepM S A) (w sg ws : Int32) (d v : Int64) : Ct l mX11_plain 4 0 0 [.ref o, .int w, .int sg, .int ws, .long d, .long v] σ (pL (mPl o ad (sPlain w sg ws d v, A))) := by
  refine Ct_of moX11_plain [some (.ref o), some (.int w), some (.int sg), some (.int ws), some (.long d), none, some (.long v), none] rfl (Nat.le_of_ble_eq_true rfl) ?_
  refine g_aload_n (i := 0) dX11_plain_0 rfl rfl ?_
  refine g_iload_n (i := 1) dX11_plain_1 rfl rfl ?_
  refine g_iload_n (i := 2) dX11_plain_2 rfl rfl ?_
  refine g_iload_n (i := 3) dX11_plain_3 rfl rfl ?_
  refine g_lload dX11_plain_4 rfl ?_
  refine g_callVi (My := mX11_isAsking) [_, _, _, _] dX11_plain_6 lkX11_222 mvX11_isAsking rfl hM.1 rfl (c_X11_isAsking hM _ _ _ _) (by decide) (by decide) (by decide) rfl (Nat.le_of_ble_eq_true rfl) (fun zr6 σ zh6 => ?_)
  obtain ⟨rfl, rfl⟩ := zh6
  refine g_if_eq (tgt := 34) dX11_plain_9 (by decide) (fun zc9 => ?_) (fun zc9 => ?_)
  · refine g_lconst (v := 0) dX11_plain_34 (by decide) ?_
    refine g_lret dX11_plain_35 rfl ?_
    first
    | exact ⟨_, rfl, by unfold sPlain; rw [if_pos hi], S', hM, hR.sF hF (by decide)⟩
    | exact ⟨_, rfl, by unfold sPlain; rw [if_neg (bI_eq0.mp zc9)], S, hM, hR⟩
  · refine g_aload_n (i := 0) dX11_plain_12 rfl rfl ?_
    refine g_iload_n (i := 1) dX11_plain_13 rfl rfl ?_
    refine g_iload_n (i := 2) dX11_plain_14 rfl rfl ?_
    refine g_iload_n (i := 3) dX11_plain_15 rfl rfl ?_
    refine g_lload dX11_plain_16 rfl ?_
    refine g_iload_n (i := 1) dX11_plain_18 rfl rfl ?_
    refine g_callSl (My := mX11_low) [_, _] dX11_plain_19 lkX11_105 mvX11_low rfl (c_X11_low _ _) (by decide) (by decide) (by decide) rfl (Nat.le_of_ble_eq_true rfl) (fun zr19 σ zh19 => ?_)
    obtain ⟨rfl, rfl⟩ := zh19
    refine g_lload dX11_plain_22 rfl ?_
    refine g_iload_n (i := 1) dX11_plain_24 rfl rfl ?_
    refine g_callSl (My := mX11_low) [_, _] dX11_plain_25 lkX11_105 mvX11_low rfl (c_X11_low _ _) (by decide) (by decide) (by decide) rfl (Nat.le_of_ble_eq_true rfl) (fun zr25 σ zh25 => ?_)
    obtain ⟨rfl, rfl⟩ := zh25
    have hi : mIsA w sg ws d := bI_ne0.mp zc9
    refine g_callVl (My := mX11_asked) [_, _, _, _, _] dX11_plain_28 lkX11_247 mvX11_asked rfl hM.1 rfl (c_X11_asked hM w sg ws (mLow d w) (mLow v w) (Or.inr (fun q => hi.2.2.2.1 (by have q1 := mSig_0 hi.1 q; rw [mLow_mLow _ hi.1] at q1; exact q1)))) (by decide) (by decide) (by decide) rfl (Nat.le_of_ble_eq_true rfl) (fun zr28 σ zh28 => ?_)
    obtain ⟨ze28, S', hM, -, hF⟩ := zh28
    rw [ze28]
    refine g_goto (tgt := 35) dX11_plain_31 (by decide) ?_
    refine g_lret dX11_plain_35 rfl ?_
    first
    | exact ⟨_, rfl, by unfold sPlain; rw [if_pos hi], S', hM, hR.sF hF (by decide)⟩
    | exact ⟨_, rfl, by unfold sPlain; rw [if_neg (bI_eq0.mp zc9)], S, hM, hR⟩
theorem c_X11_inverse (hM : Mm σ o ad S) (hR : RepM S A) (w : Int32) (d : Int64) : Ct l mX11_inverse 2 0 0 [.ref o, .int w, .long d] σ (pL (mPl o ad (sInverse w d, A))) := by
  refine Ct_of moX11_inverse [some (.ref o), some (.int w), some (.long d), none] rfl (Nat.le_of_ble_eq_true rfl) ?_
  refine g_iload_n (i := 1) dX11_inverse_0 rfl rfl ?_
  refine g_callSi (My := mX11_isWidth) [_] dX11_inverse_1 lkX11_153 mvX11_isWidth rfl (c_X11_isWidth _) (by decide) (by decide) (by decide) rfl (Nat.le_of_ble_eq_true rfl) (fun zr1 σ zh1 => ?_)
  obtain ⟨rfl, rfl⟩ := zh1
  refine g_if_eq (tgt := 26) dX11_inverse_4 (by decide) (fun zc4 => ?_) (fun zc4 => ?_)
  · refine g_lconst (v := 0) dX11_inverse_26 (by decide) ?_
    refine g_lret dX11_inverse_27 rfl ?_
    refine ⟨_, rfl, ?_, S, hM, hR⟩
    unfold sInverse
    first
    | exact Eq.symm (if_pos ⟨bI_ne0.mp zc4, (lg_cmp_eq _ _).mp zc12⟩)
    | exact Eq.symm (if_neg (fun z => zc12 ((lg_cmp_eq _ _).mpr z.2)))
    | exact Eq.symm (if_neg (fun z => bI_eq0.mp zc4 z.1))
  · refine g_lload_n (i := 2) dX11_inverse_7 rfl rfl ?_
    refine g_lconst (v := 1) dX11_inverse_8 (by decide) ?_
    refine g_land dX11_inverse_9 ?_
    refine g_lconst (v := 1) dX11_inverse_10 (by decide) ?_
    refine g_lcmp dX11_inverse_11 ?_
    refine g_if_ne (tgt := 26) dX11_inverse_12 (by decide) (fun zc12 => ?_) (fun zc12 => ?_)
    · refine g_lconst (v := 0) dX11_inverse_26 (by decide) ?_
      refine g_lret dX11_inverse_27 rfl ?_
      refine ⟨_, rfl, ?_, S, hM, hR⟩
      unfold sInverse
      first
      | exact Eq.symm (if_pos ⟨bI_ne0.mp zc4, (lg_cmp_eq _ _).mp zc12⟩)
      | exact Eq.symm (if_neg (fun z => zc12 ((lg_cmp_eq _ _).mpr z.2)))
      | exact Eq.symm (if_neg (fun z => bI_eq0.mp zc4 z.1))
    · refine g_lload_n (i := 2) dX11_inverse_15 rfl rfl ?_
      refine g_callSl (My := mX11_inverseOf) [_] dX11_inverse_16 lkX11_198 mvX11_inverseOf rfl (c_X11_inverseOf _) (by decide) (by decide) (by decide) rfl (Nat.le_of_ble_eq_true rfl) (fun zr16 σ zh16 => ?_)
      obtain ⟨ze16, zf16⟩ := zh16
      rw [ze16, zf16]
      refine g_iload_n (i := 1) dX11_inverse_19 rfl rfl ?_
      refine g_callSl (My := mX11_low) [_, _] dX11_inverse_20 lkX11_105 mvX11_low rfl (c_X11_low _ _) (by decide) (by decide) (by decide) rfl (Nat.le_of_ble_eq_true rfl) (fun zr20 σ zh20 => ?_)
      obtain ⟨ze20, zf20⟩ := zh20
      rw [ze20, zf20]
      refine g_goto (tgt := 27) dX11_inverse_23 (by decide) ?_
      refine g_lret dX11_inverse_27 rfl ?_
      refine ⟨_, rfl, ?_, S, hM, hR⟩
      unfold sInverse
      first
      | exact Eq.symm (if_pos ⟨bI_ne0.mp zc4, (lg_cmp_eq _ _).mp zc12⟩)
      | exact Eq.symm (if_neg (fun z => zc12 ((lg_cmp_eq _ _).mpr z.2)))
      | exact Eq.symm (if_neg (fun z => bI_eq0.mp zc4 z.1))
theorem c_X11_proof (hM : Mm σ o ad S) (hR : RepM S A) (w : Int32) (d : Int64) (what : Int32) {z : Nat} (hz : isW w → ¬ mLow d w = 0 → isTz (mLow d w) z) : Ct l mX11_proof 4 0 0 [.ref o, .int w, .long d, .int what] σ (pL (mPl o ad (sProof w d what z, A))) := by
  refine Ct_of moX11_proof [some (.ref o), some (.int w), some (.long d), none, some (.int what)] rfl (Nat.le_of_ble_eq_true rfl) ?_
  by_cases hh : isW w ∧ (¬ what < 0 ∧ what ≤ 3) ∧ ¬ mLow d w = 0
  · have hv : sProof w d what z = (if gUshr (mLow d w) (nI z) = 1 then 0 else if what = 0 then (fMoved w 0 (mLow d w)).toInt64 else if what = 1 then fFactor w 0 (mLow d w) else if what = 2 then (fOver w 0 (mLow d w)).toInt64 else fMiss w 0 (mLow d w)) := by
      unfold sProof
      rw [if_pos hh]
    rw [hv]
    have hz' : isTz (mSz w 0 d) z := by rw [mSz_0]; exact hz hh.1 hh.2.2
    refine g_iload_n (i := 1) dX11_proof_0 rfl rfl ?_
    refine g_callSi (My := mX11_isWidth) [_] dX11_proof_1 lkX11_153 mvX11_isWidth rfl (c_X11_isWidth _) (by decide) (by decide) (by decide) rfl (Nat.le_of_ble_eq_true rfl) (fun zr1 σ zh1 => ?_)
    obtain ⟨rfl, rfl⟩ := zh1
    refine g_if_eq (tgt := 28) dX11_proof_4 (by decide) (fun zc4 => ?_) (fun zc4 => ?_)
    · exact absurd hh.1 (bI_eq0.mp zc4)
    · refine g_iload dX11_proof_7 rfl ?_
      refine g_if_lt (tgt := 28) dX11_proof_9 (by decide) (fun zc9 => ?_) (fun zc9 => ?_)
      · exact absurd zc9 hh.2.1.1
      · refine g_iload dX11_proof_12 rfl ?_
        refine g_iconst (v := 3) dX11_proof_14 (by decide) ?_
        refine g_icmp_gt (tgt := 28) dX11_proof_15 (by decide) (fun zc15 => ?_) (fun zc15 => ?_)
        · exact absurd zc15 (Int32.not_lt.mpr hh.2.1.2)
        · refine g_lload_n (i := 2) dX11_proof_18 rfl rfl ?_
          refine g_iload_n (i := 1) dX11_proof_19 rfl rfl ?_
          refine g_callSl (My := mX11_low) [_, _] dX11_proof_20 lkX11_105 mvX11_low rfl (c_X11_low _ _) (by decide) (by decide) (by decide) rfl (Nat.le_of_ble_eq_true rfl) (fun zr20 σ zh20 => ?_)
          obtain ⟨rfl, rfl⟩ := zh20
          refine g_lconst (v := 0) dX11_proof_23 (by decide) ?_
          refine g_lcmp dX11_proof_24 ?_
          refine g_if_ne (tgt := 32) dX11_proof_25 (by decide) (fun zc25 => ?_) (fun zc25 => ?_)
          · refine g_aload_n (i := 0) dX11_proof_32 rfl rfl ?_
            refine g_iload_n (i := 1) dX11_proof_33 rfl rfl ?_
            refine g_iconst (v := 0) dX11_proof_34 (by decide) ?_
            refine g_lload_n (i := 2) dX11_proof_35 rfl rfl ?_
            refine g_callVv (My := mX11_take) [_, _, _] dX11_proof_36 lkX11_226 mvX11_take rfl hM.1 rfl (c_X11_take hM w 0 d z hz') (by decide) (by decide) (by decide) rfl (Nat.le_of_ble_eq_true rfl) (fun σ zh36 => ?_)
            obtain ⟨S1, hM, q1, q2, q3, hF⟩ := zh36
            rw [mSz_0] at q1 q3
            have hR := hR.sF hF (by decide)
            refine g_aload_n (i := 0) dX11_proof_39 rfl rfl ?_
            refine gm_get hM (k := 20) dX11_proof_40 flX11_177 rfl ?_
            refine g_lconst (v := 1) dX11_proof_43 (by decide) ?_
            refine g_lcmp dX11_proof_44 ?_
            refine g_if_ne (tgt := 50) dX11_proof_45 (by decide) (fun zc45 => ?_) (fun zc45 => ?_)
            · refine g_aload_n (i := 0) dX11_proof_50 rfl rfl ?_
              refine g_iload_n (i := 1) dX11_proof_51 rfl rfl ?_
              refine g_iconst (v := 0) dX11_proof_52 (by decide) ?_
              refine g_callVv (My := mX11_find) [_, _] dX11_proof_53 lkX11_195 mvX11_find rfl hM.1 rfl (c_X11_find hM w 0 (Or.inl rfl) q1) (by decide) (by decide) (by decide) rfl (Nat.le_of_ble_eq_true rfl) (fun σ zh53 => ?_)
              obtain ⟨S2, hM, g1, g2, g3, g4, hF2⟩ := zh53
              have hR := hR.sF hF2 (by decide)
              have ho : ¬ gUshr (mLow d w) (nI z) = 1 := fun q => zc45 ((lg_cmp_eq _ _).mpr (by rw [q3]; exact q))
              refine g_iload dX11_proof_56 rfl ?_
              refine g_if_ne (tgt := 69) dX11_proof_58 (by decide) (fun zc58 => ?_) (fun zc58 => ?_)
              · refine g_iload dX11_proof_69 rfl ?_
                refine g_iconst (v := 1) dX11_proof_71 (by decide) ?_
                refine g_icmp_ne (tgt := 82) dX11_proof_72 (by decide) (fun zc72 => ?_) (fun zc72 => ?_)
                · refine g_iload dX11_proof_82 rfl ?_
                  refine g_iconst (v := 2) dX11_proof_84 (by decide) ?_
                  refine g_icmp_ne (tgt := 96) dX11_proof_85 (by decide) (fun zc85 => ?_) (fun zc85 => ?_)
                  · refine g_aload_n (i := 0) dX11_proof_96 rfl rfl ?_
                    refine gm_get hM (k := 24) dX11_proof_97 flX11_186 rfl ?_
                    refine g_lret dX11_proof_100 rfl ?_
                    refine ⟨_, rfl, ?_, S2, hM, hR⟩
                    rw [if_neg ho]
                    first
                    | (rw [if_pos zc58, ← g1])
                    | (rw [if_neg zc58, if_pos zc72, ← g3])
                    | (rw [if_neg zc58, if_neg zc72, if_pos zc85, ← g4])
                    | (rw [if_neg zc58, if_neg zc72, if_neg zc85, ← g2])
                  · refine g_aload_n (i := 0) dX11_proof_88 rfl rfl ?_
                    refine gm_get hM (k := 22) dX11_proof_89 flX11_192 rfl ?_
                    refine g_i2l dX11_proof_92 ?_
                    refine g_goto (tgt := 100) dX11_proof_93 (by decide) ?_
                    refine g_lret dX11_proof_100 rfl ?_
                    refine ⟨_, rfl, ?_, S2, hM, hR⟩
                    rw [if_neg ho]
                    first
                    | (rw [if_pos zc58, ← g1])
                    | (rw [if_neg zc58, if_pos zc72, ← g3])
                    | (rw [if_neg zc58, if_neg zc72, if_pos zc85, ← g4])
                    | (rw [if_neg zc58, if_neg zc72, if_neg zc85, ← g2])
                · refine g_aload_n (i := 0) dX11_proof_75 rfl rfl ?_
                  refine gm_get hM (k := 21) dX11_proof_76 flX11_189 rfl ?_
                  refine g_goto (tgt := 100) dX11_proof_79 (by decide) ?_
                  refine g_lret dX11_proof_100 rfl ?_
                  refine ⟨_, rfl, ?_, S2, hM, hR⟩
                  rw [if_neg ho]
                  first
                  | (rw [if_pos zc58, ← g1])
                  | (rw [if_neg zc58, if_pos zc72, ← g3])
                  | (rw [if_neg zc58, if_neg zc72, if_pos zc85, ← g4])
                  | (rw [if_neg zc58, if_neg zc72, if_neg zc85, ← g2])
              · refine g_aload_n (i := 0) dX11_proof_61 rfl rfl ?_
                refine gm_get hM (k := 23) dX11_proof_62 flX11_183 rfl ?_
                refine g_i2l dX11_proof_65 ?_
                refine g_goto (tgt := 100) dX11_proof_66 (by decide) ?_
                refine g_lret dX11_proof_100 rfl ?_
                refine ⟨_, rfl, ?_, S2, hM, hR⟩
                rw [if_neg ho]
                first
                | (rw [if_pos zc58, ← g1])
                | (rw [if_neg zc58, if_pos zc72, ← g3])
                | (rw [if_neg zc58, if_neg zc72, if_pos zc85, ← g4])
                | (rw [if_neg zc58, if_neg zc72, if_neg zc85, ← g2])
            · refine g_lconst (v := 0) dX11_proof_48 (by decide) ?_
              refine g_lret dX11_proof_49 rfl ?_
              refine ⟨_, rfl, ?_, S1, hM, hR⟩
              rw [if_pos (by rw [← q3]; exact (lg_cmp_eq _ _).mp zc45)]
          · exact absurd ((lg_cmp_eq _ _).mp zc25) hh.2.2
  · have hv : sProof w d what z = -1 := by
      unfold sProof
      rw [if_neg hh]
    rw [hv]
    refine g_iload_n (i := 1) dX11_proof_0 rfl rfl ?_
    refine g_callSi (My := mX11_isWidth) [_] dX11_proof_1 lkX11_153 mvX11_isWidth rfl (c_X11_isWidth _) (by decide) (by decide) (by decide) rfl (Nat.le_of_ble_eq_true rfl) (fun zr1 σ zh1 => ?_)
    obtain ⟨rfl, rfl⟩ := zh1
    refine g_if_eq (tgt := 28) dX11_proof_4 (by decide) (fun zc4 => ?_) (fun zc4 => ?_)
    · refine g_ldc2 (v := (-1)) dX11_proof_28 klX11_202 ?_
      refine g_lret dX11_proof_31 rfl ?_
      exact ⟨_, rfl, rfl, S, hM, hR⟩
    · refine g_iload dX11_proof_7 rfl ?_
      refine g_if_lt (tgt := 28) dX11_proof_9 (by decide) (fun zc9 => ?_) (fun zc9 => ?_)
      · refine g_ldc2 (v := (-1)) dX11_proof_28 klX11_202 ?_
        refine g_lret dX11_proof_31 rfl ?_
        exact ⟨_, rfl, rfl, S, hM, hR⟩
      · refine g_iload dX11_proof_12 rfl ?_
        refine g_iconst (v := 3) dX11_proof_14 (by decide) ?_
        refine g_icmp_gt (tgt := 28) dX11_proof_15 (by decide) (fun zc15 => ?_) (fun zc15 => ?_)
        · refine g_ldc2 (v := (-1)) dX11_proof_28 klX11_202 ?_
          refine g_lret dX11_proof_31 rfl ?_
          exact ⟨_, rfl, rfl, S, hM, hR⟩
        · refine g_lload_n (i := 2) dX11_proof_18 rfl rfl ?_
          refine g_iload_n (i := 1) dX11_proof_19 rfl rfl ?_
          refine g_callSl (My := mX11_low) [_, _] dX11_proof_20 lkX11_105 mvX11_low rfl (c_X11_low _ _) (by decide) (by decide) (by decide) rfl (Nat.le_of_ble_eq_true rfl) (fun zr20 σ zh20 => ?_)
          obtain ⟨rfl, rfl⟩ := zh20
          refine g_lconst (v := 0) dX11_proof_23 (by decide) ?_
          refine g_lcmp dX11_proof_24 ?_
          refine g_if_ne (tgt := 32) dX11_proof_25 (by decide) (fun zc25 => ?_) (fun zc25 => ?_)
          · exact absurd ⟨bI_ne0.mp zc4, ⟨zc9, Int32.not_lt.mp zc15⟩, fun q => zc25 ((lg_cmp_eq _ _).mpr q)⟩ hh
          · refine g_ldc2 (v := (-1)) dX11_proof_28 klX11_202 ?_
            refine g_lret dX11_proof_31 rfl ?_
            exact ⟨_, rfl, rfl, S, hM, hR⟩
theorem lp_X11_cost (hM : Mm σ o ad S) (hR : RepM S A) {j : Nat} {g : aF} (hj : j < A.1.length) (hg : A.1[j]? = some g) (hw : wfF g) {post : Option Value → gH → Prop} (hp : post (some (.int (aCost A.2.1 g.2))) σ) : ∀ (n k : Nat) (acc : Int32), k + n = g.2.length → acc + aCost A.2.1 (g.2.drop k) = aCost A.2.1 g.2 → G l mX11_cost 2 0 0 post σ 14 [some (.ref o), some (.int (nI j)), some (.int acc), some (.int (nI k))] [] := by
  have h60 := hR.1.2.1
  have hf := hR.1.2.2 j g hg
  have h12 := hf.2.2.1
  have hcj : (nI j).toNatClampNeg = j := nI_clamp (by omega)
  have hJ : vp_in (nI j) 60 := vp_in_nI (by omega) (by decide)
  intro n
  induction n with
  | zero =>
    intro k acc hk ha
    obtain rfl : k = g.2.length := by omega
    rw [List.drop_length] at ha
    have ha' : acc = aCost A.2.1 g.2 := by rw [← ha]; exact (Int32.add_zero acc).symm
    refine g_iload_n (i := 3) dX11_cost_14 rfl rfl ?_
    refine g_aload_n (i := 0) dX11_cost_15 rfl rfl ?_
    refine gm_get hM (k := 4) dX11_cost_16 flX11_13 rfl ?_
    refine g_iload_n (i := 1) dX11_cost_19 rfl rfl ?_
    refine gm_iald hM dX11_cost_20 rfl (hJ) ?_
    refine g_toi (nI g.2.length) (by rw [hcj]; exact hf.2.1) ?_
    refine g_icmp_ge (tgt := 49) dX11_cost_21 (by decide) (fun zc21 => ?_) (fun zc21 => ?_)
    · refine g_iload_n (i := 2) dX11_cost_49 rfl rfl ?_
      refine g_iret dX11_cost_50 rfl ?_
      rw [ha']; exact hp
    · exact absurd (nI_le (Nat.le_refl _) (by omega)) zc21
  | succ n ih =>
    intro k acc hk ha
    have hkl : k < g.2.length := by omega
    obtain ⟨s, hs⟩ : ∃ s, g.2[k]? = some s := ⟨_, List.getElem?_eq_getElem hkl⟩
    obtain ⟨t5, -, -⟩ := hf.2.2.2 k s hs
    obtain ⟨⟨cc, hcc, ec⟩, -⟩ := hw.2.2 k s hs
    have hcl : (nI (12 * j + k)).toNatClampNeg = 12 * j + k := nI_clamp (by omega)
    have hcc' : (nI cc).toNatClampNeg = cc := nI_clamp (by omega)
    have hd : g.2.drop k = s :: g.2.drop (k + 1) := by
      rw [List.drop_eq_getElem_cons hkl]
      congr 1
      exact (List.getElem?_eq_some_iff.mp hs).2
    rw [hd] at ha
    refine g_iload_n (i := 3) dX11_cost_14 rfl rfl ?_
    refine g_aload_n (i := 0) dX11_cost_15 rfl rfl ?_
    refine gm_get hM (k := 4) dX11_cost_16 flX11_13 rfl ?_
    refine g_iload_n (i := 1) dX11_cost_19 rfl rfl ?_
    refine gm_iald hM dX11_cost_20 rfl (hJ) ?_
    refine g_toi (nI g.2.length) (by rw [hcj]; exact hf.2.1) ?_
    refine g_icmp_ge (tgt := 49) dX11_cost_21 (by decide) (fun zc21 => ?_) (fun zc21 => ?_)
    · exact absurd zc21 (nI_ge hkl (by omega))
    · refine g_iload_n (i := 2) dX11_cost_24 rfl rfl ?_
      refine g_aload_n (i := 0) dX11_cost_25 rfl rfl ?_
      refine gm_get hM (k := 8) dX11_cost_26 flX11_26 rfl ?_
      refine g_aload_n (i := 0) dX11_cost_29 rfl rfl ?_
      refine gm_get hM (k := 5) dX11_cost_30 flX11_16 rfl ?_
      refine g_bipush (v := 12) dX11_cost_33 (by decide) ?_
      refine g_iload_n (i := 1) dX11_cost_35 rfl rfl ?_
      refine g_imul dX11_cost_36 ?_
      refine g_iload_n (i := 3) dX11_cost_37 rfl rfl ?_
      refine g_iadd dX11_cost_38 ?_
      rw [ix12]
      refine gm_iald hM dX11_cost_39 rfl ((vp_in_nI (show 12 * j + k < 720 by omega) (by decide) : vp_in (nI (12 * j + k)) 720)) ?_
      refine g_toi (nI cc) (by rw [hcl, ← ec]; exact t5) ?_
      refine gm_iald hM dX11_cost_40 rfl ((vp_in_nI (show cc < 13 by omega) (by decide) : vp_in (nI cc) 13)) ?_
      refine g_toi (A.2.1 s.1.toNatClampNeg) (by rw [ec, hcc']; exact hR.2.1 cc (by omega)) ?_
      refine g_iadd dX11_cost_41 ?_
      refine g_istore_n (i := 2) (ls' := [_, _, _, _]) dX11_cost_42 rfl (by decide) rfl rfl ?_
      refine g_iinc (v := _ + 1) (ls' := [_, _, _, _]) dX11_cost_43 rfl rfl (by decide) rfl rfl ?_
      refine g_goto (tgt := 14) dX11_cost_46 (by decide) ?_
      refine g_cl (by rw [nI_1]) (ih (k + 1) _ (by omega) ?_)
      rw [← ha]
      show _ = acc + (A.2.1 s.1.toNatClampNeg + aCost A.2.1 (g.2.drop (k + 1)))
      rw [Int32.add_assoc]
theorem c_X11_cost (hM : Mm σ o ad S) (hR : RepM S A) (hw : wfA A) (f : Int32) : Ct l mX11_cost 2 0 0 [.ref o, .int f] σ (pI (mP o ad (sCost A f, A))) := by
  refine Ct_of moX11_cost [some (.ref o), some (.int f), none, none] rfl (Nat.le_of_ble_eq_true rfl) ?_
  rcases aForm_cases A hR.1.2.1 f with ⟨hh, hn⟩ | ⟨j, g, hj, rfl, hg, ha⟩
  · have hv : sCost A f = -1 := by simp only [sCost, hn]
    rw [hv]
    refine g_aload_n (i := 0) dX11_cost_0 rfl rfl ?_
    refine g_iload_n (i := 1) dX11_cost_1 rfl rfl ?_
    refine g_callVi (My := mX11_isForm) [_] dX11_cost_2 lkX11_164 mvX11_isForm rfl hM.1 rfl (c_X11_isForm hM hR _) (by decide) (by decide) (by decide) rfl (Nat.le_of_ble_eq_true rfl) (fun zr2 σ zh2 => ?_)
    obtain ⟨rfl, rfl⟩ := zh2
    refine g_if_ne (tgt := 10) dX11_cost_5 (by decide) (fun zc5 => ?_) (fun zc5 => ?_)
    · exact absurd (bI_ne0.mp zc5) (isF_no hn)
    · refine g_iconst (v := (-1)) dX11_cost_8 (by decide) ?_
      refine g_iret dX11_cost_9 rfl ?_
      exact ⟨_, rfl, rfl, S, hM, hR⟩
  · have hv : sCost A (nI j) = aCost A.2.1 g.2 := by simp only [sCost, ha]
    rw [hv]
    refine g_aload_n (i := 0) dX11_cost_0 rfl rfl ?_
    refine g_iload_n (i := 1) dX11_cost_1 rfl rfl ?_
    refine g_callVi (My := mX11_isForm) [_] dX11_cost_2 lkX11_164 mvX11_isForm rfl hM.1 rfl (c_X11_isForm hM hR _) (by decide) (by decide) (by decide) rfl (Nat.le_of_ble_eq_true rfl) (fun zr2 σ zh2 => ?_)
    obtain ⟨rfl, rfl⟩ := zh2
    refine g_if_ne (tgt := 10) dX11_cost_5 (by decide) (fun zc5 => ?_) (fun zc5 => ?_)
    · refine g_iconst (v := 0) dX11_cost_10 (by decide) ?_
      refine g_istore_n (i := 2) (ls' := [_, _, _, _]) dX11_cost_11 rfl (by decide) rfl rfl ?_
      refine g_iconst (v := 0) dX11_cost_12 (by decide) ?_
      refine g_istore_n (i := 3) (ls' := [_, _, _, _]) dX11_cost_13 rfl (by decide) rfl rfl ?_
      exact lp_X11_cost hM hR hj hg (hw j g hg) ⟨_, rfl, rfl, S, hM, hR⟩ g.2.length 0 0 (by omega) (by rw [List.drop_zero]; exact Int32.zero_add _)
    · exact absurd ⟨g, ha⟩ (bI_eq0.mp zc5)
end CMpub3
