/-! askings: the class's answers are the reference's -/
theorem sig_low (v : Int64) {w : Int32} (h : isW w) : mSig (mLow v w) w = mSig v w := by
  obtain ⟨N, hN, rfl⟩ := isW_N h
  apply Int64.toInt_inj.mp
  rw [sig_int _ hN, sig_int _ hN, uN_mLow v hN, Nat.mod_mod]
theorem sig_0 (v : Int64) {w : Int32} (h : isW w) : mSig v w = 0 ↔ mLow v w = 0 := by
  constructor
  · exact mSig_0 h
  · intro z
    obtain ⟨N, hN, rfl⟩ := isW_N h
    have e : uN v % 2 ^ N = 0 := by
      rw [← uN_mLow v hN, z]
      rfl
    apply Int64.toInt_inj.mp
    rw [sig_int _ hN, e, if_pos (by have := Nat.two_pow_pos N; omega), i64c4]
    rfl
theorem sig_pos (v : Int64) {w : Int32} (h : isW w) (h0 : ¬ mLow v w = 0) : 0 < mSig v w ↔ ¬ mUp (mLow v w) w := by
  obtain ⟨N, hN, rfl⟩ := isW_N h
  have hl := mLow_lt v hN
  have hu := mUp_lt hN hl
  have hp := ne0_N.mp h0
  rw [hu, Int64.lt_iff_toInt_lt, i64c4, sig_int _ hN]
  rw [uN_mLow v hN] at hp hl ⊢
  rcases hN with rfl | rfl | rfl | rfl
  · simp only [Nat.reduceSub, Nat.reducePow] at *; split <;> omega
  · simp only [Nat.reduceSub, Nat.reducePow] at *; split <;> omega
  · simp only [Nat.reduceSub, Nat.reducePow] at *; split <;> omega
  · simp only [Nat.reduceSub, Nat.reducePow] at *; split <;> omega
theorem sdv_eq (a b : Int64) : a / b = mSdv a b := by
  unfold mSdv
  by_cases h : b = -1
  · rw [if_pos h, h]
    apply Int64.toInt_inj.mp
    rw [Int64.toInt_div, show (-1 : Int64).toInt = -1 from by decide, Int.tdiv_neg, Int.tdiv_one, Int64.toInt_neg]
  · rw [if_neg h]
theorem srem_lt (a b : Int64) (hb : ¬ b = 0) : (a - mSdv a b * b).toInt.natAbs < b.toInt.natAbs := by
  have hb0 : b.toInt ≠ 0 := fun e => hb (Int64.toInt_inj.mp (by rw [e, i64c4]))
  unfold mSdv
  by_cases h : b = -1
  · rw [if_pos h, h]
    have e : a - -a * -1 = 0 := by
      apply uN_inj
      have ha := uN_lt a
      rw [uN_sub, uN_mul, uN_neg, show uN (-1) = 18446744073709551615 from by decide, show uN 0 = 0 from by decide]
      omega
    rw [e]
    decide
  · rw [if_neg h]
    have hA1 := Int64.le_toInt a
    have hA2 := Int64.toInt_lt a
    have hdq := Int64.toInt_div_of_ne_right a b h
    have hna := Int.natAbs_tmod a.toInt b.toInt
    have hml : a.toInt.natAbs % b.toInt.natAbs ≤ a.toInt.natAbs := Nat.mod_le _ _
    have hlt : a.toInt.natAbs % b.toInt.natAbs < b.toInt.natAbs := Nat.mod_lt _ (by omega)
    have hsum := Int.tdiv_mul_add_tmod a.toInt b.toInt
    have hsg : (0 ≤ a.toInt → 0 ≤ Int.tmod a.toInt b.toInt) ∧ (a.toInt < 0 → Int.tmod a.toInt b.toInt ≤ 0) := by
      refine ⟨fun z => Int.tmod_nonneg _ z, fun z => ?_⟩
      have q := Int.tmod_nonneg (a := -a.toInt) b.toInt (by omega)
      rw [Int.neg_tmod] at q
      omega
    generalize ht : Int.tmod a.toInt b.toInt = t at *
    have hX : a.toInt.tdiv b.toInt * b.toInt = a.toInt - t := by omega
    have e1 : (a / b * b).toInt = a.toInt - t := by
      rw [Int64.toInt_mul, hdq, hX]
      exact Int.bmod_eq_of_le_mul_two (by omega) (by omega)
    have e2 : (a - a / b * b).toInt = t := by
      rw [lz_sub (by rw [e1]; omega) (by rw [e1]; omega), e1]
      omega
    rw [e2]
    omega
theorem rest_0 {r : Int64} {N : Nat} (hN : N = 8 ∨ N = 16 ∨ N = 32 ∨ N = 64) (h : r.toInt.natAbs ≤ 2 ^ (N - 1)) (hs : N = 64 → r.toInt.natAbs < 2 ^ 63) : mLow r (nI N) = 0 ↔ r = 0 := by
  constructor
  · intro z
    have e : uN r % 2 ^ N = 0 := by
      rw [← uN_mLow r hN, z]
      rfl
    have hi := uN_int r
    have hl := uN_lt r
    have h0 : uN r = 0 := by
      rcases hN with rfl | rfl | rfl | rfl
      · simp only [Nat.reduceSub, Nat.reducePow] at *; split at hi <;> omega
      · simp only [Nat.reduceSub, Nat.reducePow] at *; split at hi <;> omega
      · simp only [Nat.reduceSub, Nat.reducePow] at *; split at hi <;> omega
      · simp only [Nat.reduceSub, Nat.reducePow] at *; split at hi <;> omega
    exact uN_inj (h0.trans (by decide : (0 : Nat) = uN 0))
  · intro z
    rw [z]
    apply uN_inj
    rw [uN_mLow 0 hN, show uN 0 = 0 from by decide, Nat.zero_mod]
def cDv (w sg : Int32) (d : Int64) : Int64 := if sg = 1 then bSig w d else d &&& bMask w
def cTz (sg : Int32) (dv n : Int64) : Int64 := if dv = 0 then 0 else if sg = 1 then n / dv else bQuo n dv
def cQR (sg ws : Int32) (dv n : Int64) : Int64 × Int64 := if sg = 1 ∧ n - cTz sg dv n * dv < 0 ∧ (ws = 1 ∨ ws = 3) then (cTz sg dv n - 1, n - cTz sg dv n * dv + dv) else (cTz sg dv n, n - cTz sg dv n * dv)
def cAns (w ws : Int32) (qr : Int64 × Int64) : Int64 := if ws = 2 ∨ ws = 3 then qr.2 &&& bMask w else if ws = 4 then (if qr.2 = 0 then 1 else 0) else qr.1 &&& bMask w
theorem cDv_0 {w sg : Int32} {d : Int64} (hw : isW w) (h : ¬ mLow d w = 0) : ¬ cDv w sg d = 0 := by
  unfold cDv
  by_cases h1 : sg = 1
  · rw [if_pos h1, sig_eq _ hw]
    exact fun z => h ((sig_0 d hw).mp z)
  · rw [if_neg h1, low_eq _ hw]
    exact h
theorem cQR_eq {w sg ws : Int32} {d v : Int64} (h : mIsA w sg ws d) : cQR sg ws (cDv w sg d) (cDv w sg v) = aQR w sg ws (mLow d w) (mLow v w) := by
  obtain ⟨hw, hs, hwi, hd, hu⟩ := h
  have h0 := cDv_0 (sg := sg) hw hd
  unfold cQR aQR cTz
  rw [if_neg h0]
  rcases hs with rfl | rfl
  · have e1 : cDv w 0 d = mLow d w := by unfold cDv; rw [if_neg (by decide), low_eq _ hw]
    have e2 : cDv w 0 v = mLow v w := by unfold cDv; rw [if_neg (by decide), low_eq _ hw]
    rw [if_neg (show ¬ ((0 : Int32) = 1) by decide), if_pos rfl, if_neg (fun z => absurd z.1 (by decide)), e1, e2, bQuo_eq hd, mRem_eq hd]
  · have e1 : cDv w 1 d = mSig d w := by unfold cDv; rw [if_pos rfl, sig_eq _ hw]
    have e2 : cDv w 1 v = mSig v w := by unfold cDv; rw [if_pos rfl, sig_eq _ hw]
    rw [if_pos (show ((1 : Int32) = 1) from rfl), if_neg (show ¬ ((1 : Int32) = 0) by decide), e1, e2, sdv_eq, sig_low _ hw, sig_low _ hw]
    generalize mSig v w - mSdv (mSig v w) (mSig d w) * mSig d w = r
    by_cases hc : (ws = 1 ∨ ws = 3) ∧ r < 0
    · rw [if_pos hc, if_pos ⟨rfl, hc.2, hc.1⟩]
    · rw [if_neg hc, if_neg (fun z => hc ⟨z.2.2, z.2.1⟩)]
theorem aQR_r0 {w sg ws : Int32} {d v : Int64} (h : mIsA w sg ws d) (h1 : ¬ (ws = 1 ∨ ws = 3)) : mLow (aQR w sg ws (mLow d w) (mLow v w)).2 w = 0 ↔ (aQR w sg ws (mLow d w) (mLow v w)).2 = 0 := by
  obtain ⟨hw, hs, hwi, hd, hu⟩ := h
  unfold aQR
  rcases hs with rfl | rfl
  · rw [if_pos rfl]
    show mLow (mRem (mLow v w) (mLow d w)) w = 0 ↔ mRem (mLow v w) (mLow d w) = 0
    obtain ⟨N, hN, rfl⟩ := isW_N hw
    have hp := ne0_N.mp hd
    rw [mLow_id hN]
    rw [mRem_N _ _ hp]
    exact Nat.lt_trans (Nat.mod_lt _ hp) (mLow_lt d hN)
  · rw [if_neg (by decide), if_neg (fun z => h1 z.1), sig_low _ hw, sig_low _ hw]
    show mLow (mSig v w - mSdv (mSig v w) (mSig d w) * mSig d w) w = 0 ↔ mSig v w - mSdv (mSig v w) (mSig d w) * mSig d w = 0
    have hlt := srem_lt (mSig v w) (mSig d w) (fun z => hd ((sig_0 d hw).mp z))
    obtain ⟨N, hN, rfl⟩ := isW_N hw
    have hB : (mSig d (nI N)).toInt.natAbs ≤ 2 ^ (N - 1) := by
      have e := sig_int d hN
      have hm : uN d % 2 ^ N < 2 ^ N := Nat.mod_lt _ (Nat.two_pow_pos N)
      rw [e]
      rcases hN with rfl | rfl | rfl | rfl
      · simp only [Nat.reduceSub, Nat.reducePow] at *; split <;> omega
      · simp only [Nat.reduceSub, Nat.reducePow] at *; split <;> omega
      · simp only [Nat.reduceSub, Nat.reducePow] at *; split <;> omega
      · simp only [Nat.reduceSub, Nat.reducePow] at *; split <;> omega
    refine rest_0 hN (by omega) (fun z => ?_)
    subst z
    exact Nat.lt_of_lt_of_le hlt hB
theorem cAns_eq {w sg ws : Int32} {d v : Int64} (h : mIsA w sg ws d) : cAns w ws (cQR sg ws (cDv w sg d) (cDv w sg v)) = mAns w ws (aQR w sg ws (mLow d w) (mLow v w)) := by
  have hw := h.1
  rw [cQR_eq h]
  unfold cAns mAns
  by_cases h1 : ws = 2 ∨ ws = 3
  · rw [if_pos h1, if_pos h1, low_eq _ hw]
  · rw [if_neg h1, if_neg h1]
    by_cases h2 : ws = 4
    · rw [if_pos h2, if_pos h2]
      have h13 : ¬ (ws = 1 ∨ ws = 3) := by rw [h2]; decide
      have hr := aQR_r0 (v := v) h h13
      obtain ⟨N, hN, hwN⟩ := isW_N hw
      have l1 : mLow 1 w = 1 := by rw [hwN]; exact mLow_id hN (by rcases hN with rfl | rfl | rfl | rfl <;> decide)
      have l0 : mLow 0 w = 0 := by rw [hwN]; exact mLow_id hN (by rcases hN with rfl | rfl | rfl | rfl <;> decide)
      by_cases h3 : (aQR w sg ws (mLow d w) (mLow v w)).2 = 0
      · rw [if_pos h3, if_pos (hr.mpr h3), l1]
      · rw [if_neg h3, if_neg (fun z => h3 (hr.mp z)), l0]
    · rw [if_neg h2, if_neg h2, low_eq _ hw]
/-- what the class asks of a number -/
def cAk (sg ws : Int32) (dv n : Int64) : Prop := ¬ ws = 5 ∨ n = cTz sg dv n * dv
theorem sub0 (n m : Int64) : n - m = 0 ↔ n = m := by
  constructor
  · intro h
    have h1 := uN_sub n m
    have h2 := uN_lt n
    have h3 := uN_lt m
    rw [h, show uN 0 = 0 from by decide] at h1
    apply uN_inj
    omega
  · intro h
    rw [h]
    apply uN_inj
    have h3 := uN_lt m
    rw [uN_sub, show uN 0 = 0 from by decide]
    omega
theorem cAk_eq {w sg ws : Int32} {d v : Int64} (h : mIsA w sg ws d) : cAk sg ws (cDv w sg d) (cDv w sg v) ↔ ¬ (ws = 5 ∧ ¬ mLow (aQR w sg ws (mLow d w) (mLow v w)).2 w = 0) := by
  unfold cAk
  by_cases h5 : ws = 5
  · have h13 : ¬ (ws = 1 ∨ ws = 3) := by rw [h5]; decide
    have hr := aQR_r0 (v := v) h h13
    have e : (aQR w sg ws (mLow d w) (mLow v w)).2 = cDv w sg v - cTz sg (cDv w sg d) (cDv w sg v) * cDv w sg d := by
      rw [← cQR_eq h]
      unfold cQR
      rw [if_neg (fun z => h13 z.2.2)]
    rw [hr, e, sub0]
    constructor
    · rintro (z | z)
      · exact absurd h5 z
      · exact fun q => q.2 z
    · intro z
      right
      exact Classical.byContradiction (fun q => z ⟨h5, q⟩)
  · exact ⟨fun _ q => h5 q.1, fun _ => Or.inl h5⟩
section CAsk
variable {l : Launch} {σ : gH}
theorem c_X1_init {q : Nat} (h0 : σ q = some (gO 1 [.int 0, .int 0, .int 0, .long 0])) (w sg ws : Int32) (d : Int64) : Ct l mX1_init 2 0 0 [.ref q, .int w, .int sg, .int ws, .long d] σ (pV fun σ' => σ' = su σ q (gO 1 [.int w, .int (bI (sg = 1)), .int ws, .long (cDv w sg d)])) := by
  refine Ct_of moX1_init [some (.ref q), some (.int w), some (.int sg), some (.int ws), some (.long d), none] rfl (Nat.le_of_ble_eq_true rfl) ?_
  by_cases h1 : sg = 1
  · have hb : bI (sg = 1) = 1 := bI_t h1
    have hc : cDv w sg d = bSig w d := if_pos h1
    rw [hb, hc]
    refine g_aload_n (i := 0) dX1_init_0 rfl rfl ?_
    refine g_objInit dX1_init_1 lkX1_3 oi_inst oi_code (by decide) (Nat.le_of_ble_eq_true rfl) ?_
    refine g_aload_n (i := 0) dX1_init_4 rfl rfl ?_
    refine g_iload_n (i := 1) dX1_init_5 rfl rfl ?_
    refine g_putF (fs' := [_, _, _, _]) dX1_init_6 flX1_9 fp1_0 rfl rfl (by first | assumption | exact su_self _ _ _) rfl rfl (Nat.le_of_ble_eq_true rfl) rfl fLX1_9 ?_
    refine g_aload_n (i := 0) dX1_init_9 rfl rfl ?_
    refine g_iload_n (i := 2) dX1_init_10 rfl rfl ?_
    refine g_iconst (v := 1) dX1_init_11 (by decide) ?_
    refine g_icmp_ne (tgt := 19) dX1_init_12 (by decide) (fun zc12 => ?_) (fun zc12 => ?_)
    · exact absurd h1 zc12
    · refine g_iconst (v := 1) dX1_init_15 (by decide) ?_
      refine g_goto (tgt := 20) dX1_init_16 (by decide) ?_
      refine g_putF (fs' := [_, _, _, _]) dX1_init_20 flX1_15 fp1_1 rfl rfl (by first | assumption | exact su_self _ _ _) rfl rfl (Nat.le_of_ble_eq_true rfl) rfl fLX1_15 ?_
      refine g_aload_n (i := 0) dX1_init_23 rfl rfl ?_
      refine g_iload_n (i := 3) dX1_init_24 rfl rfl ?_
      refine g_putF (fs' := [_, _, _, _]) dX1_init_25 flX1_19 fp1_2 rfl rfl (by first | assumption | exact su_self _ _ _) rfl rfl (Nat.le_of_ble_eq_true rfl) rfl fLX1_19 ?_
      refine g_aload_n (i := 0) dX1_init_28 rfl rfl ?_
      refine g_aload_n (i := 0) dX1_init_29 rfl rfl ?_
      refine g_getf dX1_init_30 flX1_15 (by first | assumption | exact su_self _ _ _) rfl ?_
      refine g_if_eq (tgt := 45) dX1_init_33 (by decide) (fun zc33 => ?_) (fun zc33 => ?_)
      · exact absurd zc33 (by decide)
      · refine g_iload_n (i := 1) dX1_init_36 rfl rfl ?_
        refine g_lload dX1_init_37 rfl ?_
        refine g_callSl (My := mX2_signedOf) [_, _] dX1_init_39 lkX1_22 mvX2_signedOf rfl (c_X2_signedOf _ _) (by decide) (by decide) (by decide) rfl (Nat.le_of_ble_eq_true rfl) (fun zr39 σ zh39 => ?_)
        obtain ⟨ze39, zf39⟩ := zh39
        rw [ze39, zf39]
        refine g_goto (tgt := 52) dX1_init_42 (by decide) ?_
        refine g_putF (fs' := [_, _, _, _]) dX1_init_52 flX1_32 fp1_3 rfl rfl (by first | assumption | exact su_self _ _ _) rfl rfl (Nat.le_of_ble_eq_true rfl) rfl fLX1_32 ?_
        refine g_vret dX1_init_55 rfl ?_
        exact ⟨rfl, by simp only [su_su]⟩
  · have hb : bI (sg = 1) = 0 := bI_f h1
    have hc : cDv w sg d = d &&& bMask w := if_neg h1
    rw [hb, hc]
    refine g_aload_n (i := 0) dX1_init_0 rfl rfl ?_
    refine g_objInit dX1_init_1 lkX1_3 oi_inst oi_code (by decide) (Nat.le_of_ble_eq_true rfl) ?_
    refine g_aload_n (i := 0) dX1_init_4 rfl rfl ?_
    refine g_iload_n (i := 1) dX1_init_5 rfl rfl ?_
    refine g_putF (fs' := [_, _, _, _]) dX1_init_6 flX1_9 fp1_0 rfl rfl (by first | assumption | exact su_self _ _ _) rfl rfl (Nat.le_of_ble_eq_true rfl) rfl fLX1_9 ?_
    refine g_aload_n (i := 0) dX1_init_9 rfl rfl ?_
    refine g_iload_n (i := 2) dX1_init_10 rfl rfl ?_
    refine g_iconst (v := 1) dX1_init_11 (by decide) ?_
    refine g_icmp_ne (tgt := 19) dX1_init_12 (by decide) (fun zc12 => ?_) (fun zc12 => ?_)
    · refine g_iconst (v := 0) dX1_init_19 (by decide) ?_
      refine g_putF (fs' := [_, _, _, _]) dX1_init_20 flX1_15 fp1_1 rfl rfl (by first | assumption | exact su_self _ _ _) rfl rfl (Nat.le_of_ble_eq_true rfl) rfl fLX1_15 ?_
      refine g_aload_n (i := 0) dX1_init_23 rfl rfl ?_
      refine g_iload_n (i := 3) dX1_init_24 rfl rfl ?_
      refine g_putF (fs' := [_, _, _, _]) dX1_init_25 flX1_19 fp1_2 rfl rfl (by first | assumption | exact su_self _ _ _) rfl rfl (Nat.le_of_ble_eq_true rfl) rfl fLX1_19 ?_
      refine g_aload_n (i := 0) dX1_init_28 rfl rfl ?_
      refine g_aload_n (i := 0) dX1_init_29 rfl rfl ?_
      refine g_getf dX1_init_30 flX1_15 (by first | assumption | exact su_self _ _ _) rfl ?_
      refine g_if_eq (tgt := 45) dX1_init_33 (by decide) (fun zc33 => ?_) (fun zc33 => ?_)
      · refine g_lload dX1_init_45 rfl ?_
        refine g_iload_n (i := 1) dX1_init_47 rfl rfl ?_
        refine g_callSl (My := mX2_mask) [_] dX1_init_48 lkX1_28 mvX2_mask rfl (c_X2_mask _) (by decide) (by decide) (by decide) rfl (Nat.le_of_ble_eq_true rfl) (fun zr48 σ zh48 => ?_)
        obtain ⟨ze48, zf48⟩ := zh48
        rw [ze48, zf48]
        refine g_land dX1_init_51 ?_
        refine g_putF (fs' := [_, _, _, _]) dX1_init_52 flX1_32 fp1_3 rfl rfl (by first | assumption | exact su_self _ _ _) rfl rfl (Nat.le_of_ble_eq_true rfl) rfl fLX1_32 ?_
        refine g_vret dX1_init_55 rfl ?_
        exact ⟨rfl, by simp only [su_su]⟩
      · exact absurd rfl zc33
    · exact absurd zc12 h1
theorem c_X1_isAsking (w sg ws : Int32) (d : Int64) : Ct l mX1_isAsking 2 0 0 [.int w, .int sg, .int ws, .long d] σ (pI fun r σ' => r = bI (mIsA w sg ws d) ∧ σ' = σ) := by
  refine Ct_of moX1_isAsking [some (.int w), some (.int sg), some (.int ws), some (.long d), none, none, none, none] rfl (Nat.le_of_ble_eq_true rfl) ?_
  refine g_iload_n (i := 0) dX1_isAsking_0 rfl rfl ?_
  refine g_callSi (My := mX2_isWidth) [_] dX1_isAsking_1 lkX1_36 mvX2_isWidth rfl (c_X2_isWidth _) (by decide) (by decide) (by decide) rfl (Nat.le_of_ble_eq_true rfl) (fun zr1 σ zh1 => ?_)
  obtain ⟨rfl, rfl⟩ := zh1
  refine g_if_eq (tgt := 25) dX1_isAsking_4 (by decide) (fun zc4 => ?_) (fun zc4 => ?_)
  · refine g_iconst (v := 0) dX1_isAsking_25 (by decide) ?_
    refine g_zret dX1_isAsking_26 rfl (rfl) ?_
    refine ⟨_, rfl, ?_, rfl⟩
    first
    | (refine Eq.symm (bI_f ?_); intro z; exact absurd z.1 (bI_eq0.mp zc4))
    | (refine Eq.symm (bI_f ?_); intro z; rcases z.2.1 with q | q <;> exact absurd (q ▸ zc8) (by decide))
    | (refine Eq.symm (bI_f ?_); intro z; rcases z.2.1 with q | q <;> exact absurd (q ▸ zc13) (by decide))
    | (refine Eq.symm (bI_f ?_); intro z; exact absurd zc17 (Int32.not_lt.mpr z.2.2.1.1))
    | (refine Eq.symm (bI_f ?_); intro z; exact absurd z.2.2.1.2 zc22)
    | (refine Eq.symm (bI_f ?_); intro z; exact absurd (hz.mp ((lg_cmp_eq _ _).mp zc55)) z.2.2.2.1)
    | (refine Eq.symm (bI_t ?_); exact ⟨hw, hs, hws, fun q => zc55 ((lg_cmp_eq _ _).mpr (hz.mpr q)), Or.inl zc59⟩)
    | (refine Eq.symm (bI_t ?_); exact ⟨hw, hs, hws, fun q => zc55 ((lg_cmp_eq _ _).mpr (hz.mpr q)), Or.inr (Or.inl ⟨zc36, zc41⟩)⟩)
    | (exfalso; exact absurd zc64 (by decide))
    | (exfalso; exact absurd rfl zc64)
    | (refine Eq.symm (bI_t ?_); have h0 : ¬ mLow d w = 0 := fun q => zc55 ((lg_cmp_eq _ _).mpr (hz.mpr q)); exact ⟨hw, hs, hws, h0, Or.inr (Or.inr ((hp h0).mp (Int64.not_le.mp (fun q => zc71 ((lg_cmp_le _ _).mpr q)))))⟩)
    | (refine Eq.symm (bI_f ?_); intro z; have q := (lg_cmp_le _ _).mp zc71; exact z.2.2.2.2.elim (fun a => zc59 a) (fun a => a.elim (fun a => by first | exact absurd zc36 a.1 | exact absurd zc41 a.2) (fun a => absurd q (Int64.not_le.mpr ((hp z.2.2.2.1).mpr a)))))
  · refine g_iload_n (i := 1) dX1_isAsking_7 rfl rfl ?_
    refine g_if_lt (tgt := 25) dX1_isAsking_8 (by decide) (fun zc8 => ?_) (fun zc8 => ?_)
    · refine g_iconst (v := 0) dX1_isAsking_25 (by decide) ?_
      refine g_zret dX1_isAsking_26 rfl (rfl) ?_
      refine ⟨_, rfl, ?_, rfl⟩
      first
      | (refine Eq.symm (bI_f ?_); intro z; exact absurd z.1 (bI_eq0.mp zc4))
      | (refine Eq.symm (bI_f ?_); intro z; rcases z.2.1 with q | q <;> exact absurd (q ▸ zc8) (by decide))
      | (refine Eq.symm (bI_f ?_); intro z; rcases z.2.1 with q | q <;> exact absurd (q ▸ zc13) (by decide))
      | (refine Eq.symm (bI_f ?_); intro z; exact absurd zc17 (Int32.not_lt.mpr z.2.2.1.1))
      | (refine Eq.symm (bI_f ?_); intro z; exact absurd z.2.2.1.2 zc22)
      | (refine Eq.symm (bI_f ?_); intro z; exact absurd (hz.mp ((lg_cmp_eq _ _).mp zc55)) z.2.2.2.1)
      | (refine Eq.symm (bI_t ?_); exact ⟨hw, hs, hws, fun q => zc55 ((lg_cmp_eq _ _).mpr (hz.mpr q)), Or.inl zc59⟩)
      | (refine Eq.symm (bI_t ?_); exact ⟨hw, hs, hws, fun q => zc55 ((lg_cmp_eq _ _).mpr (hz.mpr q)), Or.inr (Or.inl ⟨zc36, zc41⟩)⟩)
      | (exfalso; exact absurd zc64 (by decide))
      | (exfalso; exact absurd rfl zc64)
      | (refine Eq.symm (bI_t ?_); have h0 : ¬ mLow d w = 0 := fun q => zc55 ((lg_cmp_eq _ _).mpr (hz.mpr q)); exact ⟨hw, hs, hws, h0, Or.inr (Or.inr ((hp h0).mp (Int64.not_le.mp (fun q => zc71 ((lg_cmp_le _ _).mpr q)))))⟩)
      | (refine Eq.symm (bI_f ?_); intro z; have q := (lg_cmp_le _ _).mp zc71; exact z.2.2.2.2.elim (fun a => zc59 a) (fun a => a.elim (fun a => by first | exact absurd zc36 a.1 | exact absurd zc41 a.2) (fun a => absurd q (Int64.not_le.mpr ((hp z.2.2.2.1).mpr a)))))
    · refine g_iload_n (i := 1) dX1_isAsking_11 rfl rfl ?_
      refine g_iconst (v := 1) dX1_isAsking_12 (by decide) ?_
      refine g_icmp_gt (tgt := 25) dX1_isAsking_13 (by decide) (fun zc13 => ?_) (fun zc13 => ?_)
      · refine g_iconst (v := 0) dX1_isAsking_25 (by decide) ?_
        refine g_zret dX1_isAsking_26 rfl (rfl) ?_
        refine ⟨_, rfl, ?_, rfl⟩
        first
        | (refine Eq.symm (bI_f ?_); intro z; exact absurd z.1 (bI_eq0.mp zc4))
        | (refine Eq.symm (bI_f ?_); intro z; rcases z.2.1 with q | q <;> exact absurd (q ▸ zc8) (by decide))
        | (refine Eq.symm (bI_f ?_); intro z; rcases z.2.1 with q | q <;> exact absurd (q ▸ zc13) (by decide))
        | (refine Eq.symm (bI_f ?_); intro z; exact absurd zc17 (Int32.not_lt.mpr z.2.2.1.1))
        | (refine Eq.symm (bI_f ?_); intro z; exact absurd z.2.2.1.2 zc22)
        | (refine Eq.symm (bI_f ?_); intro z; exact absurd (hz.mp ((lg_cmp_eq _ _).mp zc55)) z.2.2.2.1)
        | (refine Eq.symm (bI_t ?_); exact ⟨hw, hs, hws, fun q => zc55 ((lg_cmp_eq _ _).mpr (hz.mpr q)), Or.inl zc59⟩)
        | (refine Eq.symm (bI_t ?_); exact ⟨hw, hs, hws, fun q => zc55 ((lg_cmp_eq _ _).mpr (hz.mpr q)), Or.inr (Or.inl ⟨zc36, zc41⟩)⟩)
        | (exfalso; exact absurd zc64 (by decide))
        | (exfalso; exact absurd rfl zc64)
        | (refine Eq.symm (bI_t ?_); have h0 : ¬ mLow d w = 0 := fun q => zc55 ((lg_cmp_eq _ _).mpr (hz.mpr q)); exact ⟨hw, hs, hws, h0, Or.inr (Or.inr ((hp h0).mp (Int64.not_le.mp (fun q => zc71 ((lg_cmp_le _ _).mpr q)))))⟩)
        | (refine Eq.symm (bI_f ?_); intro z; have q := (lg_cmp_le _ _).mp zc71; exact z.2.2.2.2.elim (fun a => zc59 a) (fun a => a.elim (fun a => by first | exact absurd zc36 a.1 | exact absurd zc41 a.2) (fun a => absurd q (Int64.not_le.mpr ((hp z.2.2.2.1).mpr a)))))
      · refine g_iload_n (i := 2) dX1_isAsking_16 rfl rfl ?_
        refine g_if_lt (tgt := 25) dX1_isAsking_17 (by decide) (fun zc17 => ?_) (fun zc17 => ?_)
        · refine g_iconst (v := 0) dX1_isAsking_25 (by decide) ?_
          refine g_zret dX1_isAsking_26 rfl (rfl) ?_
          refine ⟨_, rfl, ?_, rfl⟩
          first
          | (refine Eq.symm (bI_f ?_); intro z; exact absurd z.1 (bI_eq0.mp zc4))
          | (refine Eq.symm (bI_f ?_); intro z; rcases z.2.1 with q | q <;> exact absurd (q ▸ zc8) (by decide))
          | (refine Eq.symm (bI_f ?_); intro z; rcases z.2.1 with q | q <;> exact absurd (q ▸ zc13) (by decide))
          | (refine Eq.symm (bI_f ?_); intro z; exact absurd zc17 (Int32.not_lt.mpr z.2.2.1.1))
          | (refine Eq.symm (bI_f ?_); intro z; exact absurd z.2.2.1.2 zc22)
          | (refine Eq.symm (bI_f ?_); intro z; exact absurd (hz.mp ((lg_cmp_eq _ _).mp zc55)) z.2.2.2.1)
          | (refine Eq.symm (bI_t ?_); exact ⟨hw, hs, hws, fun q => zc55 ((lg_cmp_eq _ _).mpr (hz.mpr q)), Or.inl zc59⟩)
          | (refine Eq.symm (bI_t ?_); exact ⟨hw, hs, hws, fun q => zc55 ((lg_cmp_eq _ _).mpr (hz.mpr q)), Or.inr (Or.inl ⟨zc36, zc41⟩)⟩)
          | (exfalso; exact absurd zc64 (by decide))
          | (exfalso; exact absurd rfl zc64)
          | (refine Eq.symm (bI_t ?_); have h0 : ¬ mLow d w = 0 := fun q => zc55 ((lg_cmp_eq _ _).mpr (hz.mpr q)); exact ⟨hw, hs, hws, h0, Or.inr (Or.inr ((hp h0).mp (Int64.not_le.mp (fun q => zc71 ((lg_cmp_le _ _).mpr q)))))⟩)
          | (refine Eq.symm (bI_f ?_); intro z; have q := (lg_cmp_le _ _).mp zc71; exact z.2.2.2.2.elim (fun a => zc59 a) (fun a => a.elim (fun a => by first | exact absurd zc36 a.1 | exact absurd zc41 a.2) (fun a => absurd q (Int64.not_le.mpr ((hp z.2.2.2.1).mpr a)))))
        · refine g_iload_n (i := 2) dX1_isAsking_20 rfl rfl ?_
          refine g_iconst (v := 5) dX1_isAsking_21 (by decide) ?_
          refine g_icmp_le (tgt := 27) dX1_isAsking_22 (by decide) (fun zc22 => ?_) (fun zc22 => ?_)
          · refine g_iload_n (i := 0) dX1_isAsking_27 rfl rfl ?_
            refine g_lload_n (i := 3) dX1_isAsking_28 rfl rfl ?_
            refine g_callSl (My := mX2_signedOf) [_, _] dX1_isAsking_29 lkX1_22 mvX2_signedOf rfl (c_X2_signedOf _ _) (by decide) (by decide) (by decide) rfl (Nat.le_of_ble_eq_true rfl) (fun zr29 σ zh29 => ?_)
            obtain ⟨ze29, zf29⟩ := zh29
            rw [zf29, ze29, sig_eq _ (bI_ne0.mp zc4)]
            have hw := bI_ne0.mp zc4
            have hs := i01 zc8 zc13
            have hz := sig_0 d hw
            have hp := sig_pos d hw
            have hws : 0 ≤ ws ∧ ws ≤ 5 := ⟨Int32.not_lt.mp zc17, zc22⟩
            refine g_lstore (ls' := [_, _, _, _, _, _, _, _]) dX1_isAsking_32 (by decide) rfl rfl ?_
            refine g_iload_n (i := 2) dX1_isAsking_34 rfl rfl ?_
            refine g_iconst (v := 1) dX1_isAsking_35 (by decide) ?_
            refine g_icmp_eq (tgt := 44) dX1_isAsking_36 (by decide) (fun zc36 => ?_) (fun zc36 => ?_)
            · refine g_iconst (v := 1) dX1_isAsking_44 (by decide) ?_
              refine g_goto (tgt := 49) dX1_isAsking_45 (by decide) ?_
              refine g_istore (ls' := [_, _, _, _, _, _, _, _]) dX1_isAsking_49 (by decide) rfl rfl ?_
              refine g_lload dX1_isAsking_51 rfl ?_
              refine g_lconst (v := 0) dX1_isAsking_53 (by decide) ?_
              refine g_lcmp dX1_isAsking_54 ?_
              refine g_if_eq (tgt := 78) dX1_isAsking_55 (by decide) (fun zc55 => ?_) (fun zc55 => ?_)
              · refine g_iconst (v := 0) dX1_isAsking_78 (by decide) ?_
                refine g_zret dX1_isAsking_79 rfl (rfl) ?_
                refine ⟨_, rfl, ?_, rfl⟩
                first
                | (refine Eq.symm (bI_f ?_); intro z; exact absurd z.1 (bI_eq0.mp zc4))
                | (refine Eq.symm (bI_f ?_); intro z; rcases z.2.1 with q | q <;> exact absurd (q ▸ zc8) (by decide))
                | (refine Eq.symm (bI_f ?_); intro z; rcases z.2.1 with q | q <;> exact absurd (q ▸ zc13) (by decide))
                | (refine Eq.symm (bI_f ?_); intro z; exact absurd zc17 (Int32.not_lt.mpr z.2.2.1.1))
                | (refine Eq.symm (bI_f ?_); intro z; exact absurd z.2.2.1.2 zc22)
                | (refine Eq.symm (bI_f ?_); intro z; exact absurd (hz.mp ((lg_cmp_eq _ _).mp zc55)) z.2.2.2.1)
                | (refine Eq.symm (bI_t ?_); exact ⟨hw, hs, hws, fun q => zc55 ((lg_cmp_eq _ _).mpr (hz.mpr q)), Or.inl zc59⟩)
                | (refine Eq.symm (bI_t ?_); exact ⟨hw, hs, hws, fun q => zc55 ((lg_cmp_eq _ _).mpr (hz.mpr q)), Or.inr (Or.inl ⟨zc36, zc41⟩)⟩)
                | (exfalso; exact absurd zc64 (by decide))
                | (exfalso; exact absurd rfl zc64)
                | (refine Eq.symm (bI_t ?_); have h0 : ¬ mLow d w = 0 := fun q => zc55 ((lg_cmp_eq _ _).mpr (hz.mpr q)); exact ⟨hw, hs, hws, h0, Or.inr (Or.inr ((hp h0).mp (Int64.not_le.mp (fun q => zc71 ((lg_cmp_le _ _).mpr q)))))⟩)
                | (refine Eq.symm (bI_f ?_); intro z; have q := (lg_cmp_le _ _).mp zc71; exact z.2.2.2.2.elim (fun a => zc59 a) (fun a => a.elim (fun a => by first | exact absurd zc36 a.1 | exact absurd zc41 a.2) (fun a => absurd q (Int64.not_le.mpr ((hp z.2.2.2.1).mpr a)))))
              · refine g_iload_n (i := 1) dX1_isAsking_58 rfl rfl ?_
                refine g_if_eq (tgt := 74) dX1_isAsking_59 (by decide) (fun zc59 => ?_) (fun zc59 => ?_)
                · refine g_iconst (v := 1) dX1_isAsking_74 (by decide) ?_
                  refine g_goto (tgt := 79) dX1_isAsking_75 (by decide) ?_
                  refine g_zret dX1_isAsking_79 rfl (rfl) ?_
                  refine ⟨_, rfl, ?_, rfl⟩
                  first
                  | (refine Eq.symm (bI_f ?_); intro z; exact absurd z.1 (bI_eq0.mp zc4))
                  | (refine Eq.symm (bI_f ?_); intro z; rcases z.2.1 with q | q <;> exact absurd (q ▸ zc8) (by decide))
                  | (refine Eq.symm (bI_f ?_); intro z; rcases z.2.1 with q | q <;> exact absurd (q ▸ zc13) (by decide))
                  | (refine Eq.symm (bI_f ?_); intro z; exact absurd zc17 (Int32.not_lt.mpr z.2.2.1.1))
                  | (refine Eq.symm (bI_f ?_); intro z; exact absurd z.2.2.1.2 zc22)
                  | (refine Eq.symm (bI_f ?_); intro z; exact absurd (hz.mp ((lg_cmp_eq _ _).mp zc55)) z.2.2.2.1)
                  | (refine Eq.symm (bI_t ?_); exact ⟨hw, hs, hws, fun q => zc55 ((lg_cmp_eq _ _).mpr (hz.mpr q)), Or.inl zc59⟩)
                  | (refine Eq.symm (bI_t ?_); exact ⟨hw, hs, hws, fun q => zc55 ((lg_cmp_eq _ _).mpr (hz.mpr q)), Or.inr (Or.inl ⟨zc36, zc41⟩)⟩)
                  | (exfalso; exact absurd zc64 (by decide))
                  | (exfalso; exact absurd rfl zc64)
                  | (refine Eq.symm (bI_t ?_); have h0 : ¬ mLow d w = 0 := fun q => zc55 ((lg_cmp_eq _ _).mpr (hz.mpr q)); exact ⟨hw, hs, hws, h0, Or.inr (Or.inr ((hp h0).mp (Int64.not_le.mp (fun q => zc71 ((lg_cmp_le _ _).mpr q)))))⟩)
                  | (refine Eq.symm (bI_f ?_); intro z; have q := (lg_cmp_le _ _).mp zc71; exact z.2.2.2.2.elim (fun a => zc59 a) (fun a => a.elim (fun a => by first | exact absurd zc36 a.1 | exact absurd zc41 a.2) (fun a => absurd q (Int64.not_le.mpr ((hp z.2.2.2.1).mpr a)))))
                · refine g_iload dX1_isAsking_62 rfl ?_
                  refine g_if_eq (tgt := 74) dX1_isAsking_64 (by decide) (fun zc64 => ?_) (fun zc64 => ?_)
                  · refine g_iconst (v := 1) dX1_isAsking_74 (by decide) ?_
                    refine g_goto (tgt := 79) dX1_isAsking_75 (by decide) ?_
                    refine g_zret dX1_isAsking_79 rfl (rfl) ?_
                    refine ⟨_, rfl, ?_, rfl⟩
                    first
                    | (refine Eq.symm (bI_f ?_); intro z; exact absurd z.1 (bI_eq0.mp zc4))
                    | (refine Eq.symm (bI_f ?_); intro z; rcases z.2.1 with q | q <;> exact absurd (q ▸ zc8) (by decide))
                    | (refine Eq.symm (bI_f ?_); intro z; rcases z.2.1 with q | q <;> exact absurd (q ▸ zc13) (by decide))
                    | (refine Eq.symm (bI_f ?_); intro z; exact absurd zc17 (Int32.not_lt.mpr z.2.2.1.1))
                    | (refine Eq.symm (bI_f ?_); intro z; exact absurd z.2.2.1.2 zc22)
                    | (refine Eq.symm (bI_f ?_); intro z; exact absurd (hz.mp ((lg_cmp_eq _ _).mp zc55)) z.2.2.2.1)
                    | (refine Eq.symm (bI_t ?_); exact ⟨hw, hs, hws, fun q => zc55 ((lg_cmp_eq _ _).mpr (hz.mpr q)), Or.inl zc59⟩)
                    | (refine Eq.symm (bI_t ?_); exact ⟨hw, hs, hws, fun q => zc55 ((lg_cmp_eq _ _).mpr (hz.mpr q)), Or.inr (Or.inl ⟨zc36, zc41⟩)⟩)
                    | (exfalso; exact absurd zc64 (by decide))
                    | (exfalso; exact absurd rfl zc64)
                    | (refine Eq.symm (bI_t ?_); have h0 : ¬ mLow d w = 0 := fun q => zc55 ((lg_cmp_eq _ _).mpr (hz.mpr q)); exact ⟨hw, hs, hws, h0, Or.inr (Or.inr ((hp h0).mp (Int64.not_le.mp (fun q => zc71 ((lg_cmp_le _ _).mpr q)))))⟩)
                    | (refine Eq.symm (bI_f ?_); intro z; have q := (lg_cmp_le _ _).mp zc71; exact z.2.2.2.2.elim (fun a => zc59 a) (fun a => a.elim (fun a => by first | exact absurd zc36 a.1 | exact absurd zc41 a.2) (fun a => absurd q (Int64.not_le.mpr ((hp z.2.2.2.1).mpr a)))))
                  · refine g_lload dX1_isAsking_67 rfl ?_
                    refine g_lconst (v := 0) dX1_isAsking_69 (by decide) ?_
                    refine g_lcmp dX1_isAsking_70 ?_
                    refine g_if_le (tgt := 78) dX1_isAsking_71 (by decide) (fun zc71 => ?_) (fun zc71 => ?_)
                    · refine g_iconst (v := 0) dX1_isAsking_78 (by decide) ?_
                      refine g_zret dX1_isAsking_79 rfl (rfl) ?_
                      refine ⟨_, rfl, ?_, rfl⟩
                      first
                      | (refine Eq.symm (bI_f ?_); intro z; exact absurd z.1 (bI_eq0.mp zc4))
                      | (refine Eq.symm (bI_f ?_); intro z; rcases z.2.1 with q | q <;> exact absurd (q ▸ zc8) (by decide))
                      | (refine Eq.symm (bI_f ?_); intro z; rcases z.2.1 with q | q <;> exact absurd (q ▸ zc13) (by decide))
                      | (refine Eq.symm (bI_f ?_); intro z; exact absurd zc17 (Int32.not_lt.mpr z.2.2.1.1))
                      | (refine Eq.symm (bI_f ?_); intro z; exact absurd z.2.2.1.2 zc22)
                      | (refine Eq.symm (bI_f ?_); intro z; exact absurd (hz.mp ((lg_cmp_eq _ _).mp zc55)) z.2.2.2.1)
                      | (refine Eq.symm (bI_t ?_); exact ⟨hw, hs, hws, fun q => zc55 ((lg_cmp_eq _ _).mpr (hz.mpr q)), Or.inl zc59⟩)
                      | (refine Eq.symm (bI_t ?_); exact ⟨hw, hs, hws, fun q => zc55 ((lg_cmp_eq _ _).mpr (hz.mpr q)), Or.inr (Or.inl ⟨zc36, zc41⟩)⟩)
                      | (exfalso; exact absurd zc64 (by decide))
                      | (exfalso; exact absurd rfl zc64)
                      | (refine Eq.symm (bI_t ?_); have h0 : ¬ mLow d w = 0 := fun q => zc55 ((lg_cmp_eq _ _).mpr (hz.mpr q)); exact ⟨hw, hs, hws, h0, Or.inr (Or.inr ((hp h0).mp (Int64.not_le.mp (fun q => zc71 ((lg_cmp_le _ _).mpr q)))))⟩)
                      | (refine Eq.symm (bI_f ?_); intro z; have q := (lg_cmp_le _ _).mp zc71; exact z.2.2.2.2.elim (fun a => zc59 a) (fun a => a.elim (fun a => by first | exact absurd zc36 a.1 | exact absurd zc41 a.2) (fun a => absurd q (Int64.not_le.mpr ((hp z.2.2.2.1).mpr a)))))
                    · refine g_iconst (v := 1) dX1_isAsking_74 (by decide) ?_
                      refine g_goto (tgt := 79) dX1_isAsking_75 (by decide) ?_
                      refine g_zret dX1_isAsking_79 rfl (rfl) ?_
                      refine ⟨_, rfl, ?_, rfl⟩
                      first
                      | (refine Eq.symm (bI_f ?_); intro z; exact absurd z.1 (bI_eq0.mp zc4))
                      | (refine Eq.symm (bI_f ?_); intro z; rcases z.2.1 with q | q <;> exact absurd (q ▸ zc8) (by decide))
                      | (refine Eq.symm (bI_f ?_); intro z; rcases z.2.1 with q | q <;> exact absurd (q ▸ zc13) (by decide))
                      | (refine Eq.symm (bI_f ?_); intro z; exact absurd zc17 (Int32.not_lt.mpr z.2.2.1.1))
                      | (refine Eq.symm (bI_f ?_); intro z; exact absurd z.2.2.1.2 zc22)
                      | (refine Eq.symm (bI_f ?_); intro z; exact absurd (hz.mp ((lg_cmp_eq _ _).mp zc55)) z.2.2.2.1)
                      | (refine Eq.symm (bI_t ?_); exact ⟨hw, hs, hws, fun q => zc55 ((lg_cmp_eq _ _).mpr (hz.mpr q)), Or.inl zc59⟩)
                      | (refine Eq.symm (bI_t ?_); exact ⟨hw, hs, hws, fun q => zc55 ((lg_cmp_eq _ _).mpr (hz.mpr q)), Or.inr (Or.inl ⟨zc36, zc41⟩)⟩)
                      | (exfalso; exact absurd zc64 (by decide))
                      | (exfalso; exact absurd rfl zc64)
                      | (refine Eq.symm (bI_t ?_); have h0 : ¬ mLow d w = 0 := fun q => zc55 ((lg_cmp_eq _ _).mpr (hz.mpr q)); exact ⟨hw, hs, hws, h0, Or.inr (Or.inr ((hp h0).mp (Int64.not_le.mp (fun q => zc71 ((lg_cmp_le _ _).mpr q)))))⟩)
                      | (refine Eq.symm (bI_f ?_); intro z; have q := (lg_cmp_le _ _).mp zc71; exact z.2.2.2.2.elim (fun a => zc59 a) (fun a => a.elim (fun a => by first | exact absurd zc36 a.1 | exact absurd zc41 a.2) (fun a => absurd q (Int64.not_le.mpr ((hp z.2.2.2.1).mpr a)))))
            · refine g_iload_n (i := 2) dX1_isAsking_39 rfl rfl ?_
              refine g_iconst (v := 3) dX1_isAsking_40 (by decide) ?_
              refine g_icmp_ne (tgt := 48) dX1_isAsking_41 (by decide) (fun zc41 => ?_) (fun zc41 => ?_)
              · refine g_iconst (v := 0) dX1_isAsking_48 (by decide) ?_
                refine g_istore (ls' := [_, _, _, _, _, _, _, _]) dX1_isAsking_49 (by decide) rfl rfl ?_
                refine g_lload dX1_isAsking_51 rfl ?_
                refine g_lconst (v := 0) dX1_isAsking_53 (by decide) ?_
                refine g_lcmp dX1_isAsking_54 ?_
                refine g_if_eq (tgt := 78) dX1_isAsking_55 (by decide) (fun zc55 => ?_) (fun zc55 => ?_)
                · refine g_iconst (v := 0) dX1_isAsking_78 (by decide) ?_
                  refine g_zret dX1_isAsking_79 rfl (rfl) ?_
                  refine ⟨_, rfl, ?_, rfl⟩
                  first
                  | (refine Eq.symm (bI_f ?_); intro z; exact absurd z.1 (bI_eq0.mp zc4))
                  | (refine Eq.symm (bI_f ?_); intro z; rcases z.2.1 with q | q <;> exact absurd (q ▸ zc8) (by decide))
                  | (refine Eq.symm (bI_f ?_); intro z; rcases z.2.1 with q | q <;> exact absurd (q ▸ zc13) (by decide))
                  | (refine Eq.symm (bI_f ?_); intro z; exact absurd zc17 (Int32.not_lt.mpr z.2.2.1.1))
                  | (refine Eq.symm (bI_f ?_); intro z; exact absurd z.2.2.1.2 zc22)
                  | (refine Eq.symm (bI_f ?_); intro z; exact absurd (hz.mp ((lg_cmp_eq _ _).mp zc55)) z.2.2.2.1)
                  | (refine Eq.symm (bI_t ?_); exact ⟨hw, hs, hws, fun q => zc55 ((lg_cmp_eq _ _).mpr (hz.mpr q)), Or.inl zc59⟩)
                  | (refine Eq.symm (bI_t ?_); exact ⟨hw, hs, hws, fun q => zc55 ((lg_cmp_eq _ _).mpr (hz.mpr q)), Or.inr (Or.inl ⟨zc36, zc41⟩)⟩)
                  | (exfalso; exact absurd zc64 (by decide))
                  | (exfalso; exact absurd rfl zc64)
                  | (refine Eq.symm (bI_t ?_); have h0 : ¬ mLow d w = 0 := fun q => zc55 ((lg_cmp_eq _ _).mpr (hz.mpr q)); exact ⟨hw, hs, hws, h0, Or.inr (Or.inr ((hp h0).mp (Int64.not_le.mp (fun q => zc71 ((lg_cmp_le _ _).mpr q)))))⟩)
                  | (refine Eq.symm (bI_f ?_); intro z; have q := (lg_cmp_le _ _).mp zc71; exact z.2.2.2.2.elim (fun a => zc59 a) (fun a => a.elim (fun a => by first | exact absurd zc36 a.1 | exact absurd zc41 a.2) (fun a => absurd q (Int64.not_le.mpr ((hp z.2.2.2.1).mpr a)))))
                · refine g_iload_n (i := 1) dX1_isAsking_58 rfl rfl ?_
                  refine g_if_eq (tgt := 74) dX1_isAsking_59 (by decide) (fun zc59 => ?_) (fun zc59 => ?_)
                  · refine g_iconst (v := 1) dX1_isAsking_74 (by decide) ?_
                    refine g_goto (tgt := 79) dX1_isAsking_75 (by decide) ?_
                    refine g_zret dX1_isAsking_79 rfl (rfl) ?_
                    refine ⟨_, rfl, ?_, rfl⟩
                    first
                    | (refine Eq.symm (bI_f ?_); intro z; exact absurd z.1 (bI_eq0.mp zc4))
                    | (refine Eq.symm (bI_f ?_); intro z; rcases z.2.1 with q | q <;> exact absurd (q ▸ zc8) (by decide))
                    | (refine Eq.symm (bI_f ?_); intro z; rcases z.2.1 with q | q <;> exact absurd (q ▸ zc13) (by decide))
                    | (refine Eq.symm (bI_f ?_); intro z; exact absurd zc17 (Int32.not_lt.mpr z.2.2.1.1))
                    | (refine Eq.symm (bI_f ?_); intro z; exact absurd z.2.2.1.2 zc22)
                    | (refine Eq.symm (bI_f ?_); intro z; exact absurd (hz.mp ((lg_cmp_eq _ _).mp zc55)) z.2.2.2.1)
                    | (refine Eq.symm (bI_t ?_); exact ⟨hw, hs, hws, fun q => zc55 ((lg_cmp_eq _ _).mpr (hz.mpr q)), Or.inl zc59⟩)
                    | (refine Eq.symm (bI_t ?_); exact ⟨hw, hs, hws, fun q => zc55 ((lg_cmp_eq _ _).mpr (hz.mpr q)), Or.inr (Or.inl ⟨zc36, zc41⟩)⟩)
                    | (exfalso; exact absurd zc64 (by decide))
                    | (exfalso; exact absurd rfl zc64)
                    | (refine Eq.symm (bI_t ?_); have h0 : ¬ mLow d w = 0 := fun q => zc55 ((lg_cmp_eq _ _).mpr (hz.mpr q)); exact ⟨hw, hs, hws, h0, Or.inr (Or.inr ((hp h0).mp (Int64.not_le.mp (fun q => zc71 ((lg_cmp_le _ _).mpr q)))))⟩)
                    | (refine Eq.symm (bI_f ?_); intro z; have q := (lg_cmp_le _ _).mp zc71; exact z.2.2.2.2.elim (fun a => zc59 a) (fun a => a.elim (fun a => by first | exact absurd zc36 a.1 | exact absurd zc41 a.2) (fun a => absurd q (Int64.not_le.mpr ((hp z.2.2.2.1).mpr a)))))
                  · refine g_iload dX1_isAsking_62 rfl ?_
                    refine g_if_eq (tgt := 74) dX1_isAsking_64 (by decide) (fun zc64 => ?_) (fun zc64 => ?_)
                    · refine g_iconst (v := 1) dX1_isAsking_74 (by decide) ?_
                      refine g_goto (tgt := 79) dX1_isAsking_75 (by decide) ?_
                      refine g_zret dX1_isAsking_79 rfl (rfl) ?_
                      refine ⟨_, rfl, ?_, rfl⟩
                      first
                      | (refine Eq.symm (bI_f ?_); intro z; exact absurd z.1 (bI_eq0.mp zc4))
                      | (refine Eq.symm (bI_f ?_); intro z; rcases z.2.1 with q | q <;> exact absurd (q ▸ zc8) (by decide))
                      | (refine Eq.symm (bI_f ?_); intro z; rcases z.2.1 with q | q <;> exact absurd (q ▸ zc13) (by decide))
                      | (refine Eq.symm (bI_f ?_); intro z; exact absurd zc17 (Int32.not_lt.mpr z.2.2.1.1))
                      | (refine Eq.symm (bI_f ?_); intro z; exact absurd z.2.2.1.2 zc22)
                      | (refine Eq.symm (bI_f ?_); intro z; exact absurd (hz.mp ((lg_cmp_eq _ _).mp zc55)) z.2.2.2.1)
                      | (refine Eq.symm (bI_t ?_); exact ⟨hw, hs, hws, fun q => zc55 ((lg_cmp_eq _ _).mpr (hz.mpr q)), Or.inl zc59⟩)
                      | (refine Eq.symm (bI_t ?_); exact ⟨hw, hs, hws, fun q => zc55 ((lg_cmp_eq _ _).mpr (hz.mpr q)), Or.inr (Or.inl ⟨zc36, zc41⟩)⟩)
                      | (exfalso; exact absurd zc64 (by decide))
                      | (exfalso; exact absurd rfl zc64)
                      | (refine Eq.symm (bI_t ?_); have h0 : ¬ mLow d w = 0 := fun q => zc55 ((lg_cmp_eq _ _).mpr (hz.mpr q)); exact ⟨hw, hs, hws, h0, Or.inr (Or.inr ((hp h0).mp (Int64.not_le.mp (fun q => zc71 ((lg_cmp_le _ _).mpr q)))))⟩)
                      | (refine Eq.symm (bI_f ?_); intro z; have q := (lg_cmp_le _ _).mp zc71; exact z.2.2.2.2.elim (fun a => zc59 a) (fun a => a.elim (fun a => by first | exact absurd zc36 a.1 | exact absurd zc41 a.2) (fun a => absurd q (Int64.not_le.mpr ((hp z.2.2.2.1).mpr a)))))
                    · refine g_lload dX1_isAsking_67 rfl ?_
                      refine g_lconst (v := 0) dX1_isAsking_69 (by decide) ?_
                      refine g_lcmp dX1_isAsking_70 ?_
                      refine g_if_le (tgt := 78) dX1_isAsking_71 (by decide) (fun zc71 => ?_) (fun zc71 => ?_)
                      · refine g_iconst (v := 0) dX1_isAsking_78 (by decide) ?_
                        refine g_zret dX1_isAsking_79 rfl (rfl) ?_
                        refine ⟨_, rfl, ?_, rfl⟩
                        first
                        | (refine Eq.symm (bI_f ?_); intro z; exact absurd z.1 (bI_eq0.mp zc4))
                        | (refine Eq.symm (bI_f ?_); intro z; rcases z.2.1 with q | q <;> exact absurd (q ▸ zc8) (by decide))
                        | (refine Eq.symm (bI_f ?_); intro z; rcases z.2.1 with q | q <;> exact absurd (q ▸ zc13) (by decide))
                        | (refine Eq.symm (bI_f ?_); intro z; exact absurd zc17 (Int32.not_lt.mpr z.2.2.1.1))
                        | (refine Eq.symm (bI_f ?_); intro z; exact absurd z.2.2.1.2 zc22)
                        | (refine Eq.symm (bI_f ?_); intro z; exact absurd (hz.mp ((lg_cmp_eq _ _).mp zc55)) z.2.2.2.1)
                        | (refine Eq.symm (bI_t ?_); exact ⟨hw, hs, hws, fun q => zc55 ((lg_cmp_eq _ _).mpr (hz.mpr q)), Or.inl zc59⟩)
                        | (refine Eq.symm (bI_t ?_); exact ⟨hw, hs, hws, fun q => zc55 ((lg_cmp_eq _ _).mpr (hz.mpr q)), Or.inr (Or.inl ⟨zc36, zc41⟩)⟩)
                        | (exfalso; exact absurd zc64 (by decide))
                        | (exfalso; exact absurd rfl zc64)
                        | (refine Eq.symm (bI_t ?_); have h0 : ¬ mLow d w = 0 := fun q => zc55 ((lg_cmp_eq _ _).mpr (hz.mpr q)); exact ⟨hw, hs, hws, h0, Or.inr (Or.inr ((hp h0).mp (Int64.not_le.mp (fun q => zc71 ((lg_cmp_le _ _).mpr q)))))⟩)
                        | (refine Eq.symm (bI_f ?_); intro z; have q := (lg_cmp_le _ _).mp zc71; exact z.2.2.2.2.elim (fun a => zc59 a) (fun a => a.elim (fun a => by first | exact absurd zc36 a.1 | exact absurd zc41 a.2) (fun a => absurd q (Int64.not_le.mpr ((hp z.2.2.2.1).mpr a)))))
                      · refine g_iconst (v := 1) dX1_isAsking_74 (by decide) ?_
                        refine g_goto (tgt := 79) dX1_isAsking_75 (by decide) ?_
                        refine g_zret dX1_isAsking_79 rfl (rfl) ?_
                        refine ⟨_, rfl, ?_, rfl⟩
                        first
                        | (refine Eq.symm (bI_f ?_); intro z; exact absurd z.1 (bI_eq0.mp zc4))
                        | (refine Eq.symm (bI_f ?_); intro z; rcases z.2.1 with q | q <;> exact absurd (q ▸ zc8) (by decide))
                        | (refine Eq.symm (bI_f ?_); intro z; rcases z.2.1 with q | q <;> exact absurd (q ▸ zc13) (by decide))
                        | (refine Eq.symm (bI_f ?_); intro z; exact absurd zc17 (Int32.not_lt.mpr z.2.2.1.1))
                        | (refine Eq.symm (bI_f ?_); intro z; exact absurd z.2.2.1.2 zc22)
                        | (refine Eq.symm (bI_f ?_); intro z; exact absurd (hz.mp ((lg_cmp_eq _ _).mp zc55)) z.2.2.2.1)
                        | (refine Eq.symm (bI_t ?_); exact ⟨hw, hs, hws, fun q => zc55 ((lg_cmp_eq _ _).mpr (hz.mpr q)), Or.inl zc59⟩)
                        | (refine Eq.symm (bI_t ?_); exact ⟨hw, hs, hws, fun q => zc55 ((lg_cmp_eq _ _).mpr (hz.mpr q)), Or.inr (Or.inl ⟨zc36, zc41⟩)⟩)
                        | (exfalso; exact absurd zc64 (by decide))
                        | (exfalso; exact absurd rfl zc64)
                        | (refine Eq.symm (bI_t ?_); have h0 : ¬ mLow d w = 0 := fun q => zc55 ((lg_cmp_eq _ _).mpr (hz.mpr q)); exact ⟨hw, hs, hws, h0, Or.inr (Or.inr ((hp h0).mp (Int64.not_le.mp (fun q => zc71 ((lg_cmp_le _ _).mpr q)))))⟩)
                        | (refine Eq.symm (bI_f ?_); intro z; have q := (lg_cmp_le _ _).mp zc71; exact z.2.2.2.2.elim (fun a => zc59 a) (fun a => a.elim (fun a => by first | exact absurd zc36 a.1 | exact absurd zc41 a.2) (fun a => absurd q (Int64.not_le.mpr ((hp z.2.2.2.1).mpr a)))))
              · refine g_iconst (v := 1) dX1_isAsking_44 (by decide) ?_
                refine g_goto (tgt := 49) dX1_isAsking_45 (by decide) ?_
                refine g_istore (ls' := [_, _, _, _, _, _, _, _]) dX1_isAsking_49 (by decide) rfl rfl ?_
                refine g_lload dX1_isAsking_51 rfl ?_
                refine g_lconst (v := 0) dX1_isAsking_53 (by decide) ?_
                refine g_lcmp dX1_isAsking_54 ?_
                refine g_if_eq (tgt := 78) dX1_isAsking_55 (by decide) (fun zc55 => ?_) (fun zc55 => ?_)
                · refine g_iconst (v := 0) dX1_isAsking_78 (by decide) ?_
                  refine g_zret dX1_isAsking_79 rfl (rfl) ?_
                  refine ⟨_, rfl, ?_, rfl⟩
                  first
                  | (refine Eq.symm (bI_f ?_); intro z; exact absurd z.1 (bI_eq0.mp zc4))
                  | (refine Eq.symm (bI_f ?_); intro z; rcases z.2.1 with q | q <;> exact absurd (q ▸ zc8) (by decide))
                  | (refine Eq.symm (bI_f ?_); intro z; rcases z.2.1 with q | q <;> exact absurd (q ▸ zc13) (by decide))
                  | (refine Eq.symm (bI_f ?_); intro z; exact absurd zc17 (Int32.not_lt.mpr z.2.2.1.1))
                  | (refine Eq.symm (bI_f ?_); intro z; exact absurd z.2.2.1.2 zc22)
                  | (refine Eq.symm (bI_f ?_); intro z; exact absurd (hz.mp ((lg_cmp_eq _ _).mp zc55)) z.2.2.2.1)
                  | (refine Eq.symm (bI_t ?_); exact ⟨hw, hs, hws, fun q => zc55 ((lg_cmp_eq _ _).mpr (hz.mpr q)), Or.inl zc59⟩)
                  | (refine Eq.symm (bI_t ?_); exact ⟨hw, hs, hws, fun q => zc55 ((lg_cmp_eq _ _).mpr (hz.mpr q)), Or.inr (Or.inl ⟨zc36, zc41⟩)⟩)
                  | (exfalso; exact absurd zc64 (by decide))
                  | (exfalso; exact absurd rfl zc64)
                  | (refine Eq.symm (bI_t ?_); have h0 : ¬ mLow d w = 0 := fun q => zc55 ((lg_cmp_eq _ _).mpr (hz.mpr q)); exact ⟨hw, hs, hws, h0, Or.inr (Or.inr ((hp h0).mp (Int64.not_le.mp (fun q => zc71 ((lg_cmp_le _ _).mpr q)))))⟩)
                  | (refine Eq.symm (bI_f ?_); intro z; have q := (lg_cmp_le _ _).mp zc71; exact z.2.2.2.2.elim (fun a => zc59 a) (fun a => a.elim (fun a => by first | exact absurd zc36 a.1 | exact absurd zc41 a.2) (fun a => absurd q (Int64.not_le.mpr ((hp z.2.2.2.1).mpr a)))))
                · refine g_iload_n (i := 1) dX1_isAsking_58 rfl rfl ?_
                  refine g_if_eq (tgt := 74) dX1_isAsking_59 (by decide) (fun zc59 => ?_) (fun zc59 => ?_)
                  · refine g_iconst (v := 1) dX1_isAsking_74 (by decide) ?_
                    refine g_goto (tgt := 79) dX1_isAsking_75 (by decide) ?_
                    refine g_zret dX1_isAsking_79 rfl (rfl) ?_
                    refine ⟨_, rfl, ?_, rfl⟩
                    first
                    | (refine Eq.symm (bI_f ?_); intro z; exact absurd z.1 (bI_eq0.mp zc4))
                    | (refine Eq.symm (bI_f ?_); intro z; rcases z.2.1 with q | q <;> exact absurd (q ▸ zc8) (by decide))
                    | (refine Eq.symm (bI_f ?_); intro z; rcases z.2.1 with q | q <;> exact absurd (q ▸ zc13) (by decide))
                    | (refine Eq.symm (bI_f ?_); intro z; exact absurd zc17 (Int32.not_lt.mpr z.2.2.1.1))
                    | (refine Eq.symm (bI_f ?_); intro z; exact absurd z.2.2.1.2 zc22)
                    | (refine Eq.symm (bI_f ?_); intro z; exact absurd (hz.mp ((lg_cmp_eq _ _).mp zc55)) z.2.2.2.1)
                    | (refine Eq.symm (bI_t ?_); exact ⟨hw, hs, hws, fun q => zc55 ((lg_cmp_eq _ _).mpr (hz.mpr q)), Or.inl zc59⟩)
                    | (refine Eq.symm (bI_t ?_); exact ⟨hw, hs, hws, fun q => zc55 ((lg_cmp_eq _ _).mpr (hz.mpr q)), Or.inr (Or.inl ⟨zc36, zc41⟩)⟩)
                    | (exfalso; exact absurd zc64 (by decide))
                    | (exfalso; exact absurd rfl zc64)
                    | (refine Eq.symm (bI_t ?_); have h0 : ¬ mLow d w = 0 := fun q => zc55 ((lg_cmp_eq _ _).mpr (hz.mpr q)); exact ⟨hw, hs, hws, h0, Or.inr (Or.inr ((hp h0).mp (Int64.not_le.mp (fun q => zc71 ((lg_cmp_le _ _).mpr q)))))⟩)
                    | (refine Eq.symm (bI_f ?_); intro z; have q := (lg_cmp_le _ _).mp zc71; exact z.2.2.2.2.elim (fun a => zc59 a) (fun a => a.elim (fun a => by first | exact absurd zc36 a.1 | exact absurd zc41 a.2) (fun a => absurd q (Int64.not_le.mpr ((hp z.2.2.2.1).mpr a)))))
                  · refine g_iload dX1_isAsking_62 rfl ?_
                    refine g_if_eq (tgt := 74) dX1_isAsking_64 (by decide) (fun zc64 => ?_) (fun zc64 => ?_)
                    · refine g_iconst (v := 1) dX1_isAsking_74 (by decide) ?_
                      refine g_goto (tgt := 79) dX1_isAsking_75 (by decide) ?_
                      refine g_zret dX1_isAsking_79 rfl (rfl) ?_
                      refine ⟨_, rfl, ?_, rfl⟩
                      first
                      | (refine Eq.symm (bI_f ?_); intro z; exact absurd z.1 (bI_eq0.mp zc4))
                      | (refine Eq.symm (bI_f ?_); intro z; rcases z.2.1 with q | q <;> exact absurd (q ▸ zc8) (by decide))
                      | (refine Eq.symm (bI_f ?_); intro z; rcases z.2.1 with q | q <;> exact absurd (q ▸ zc13) (by decide))
                      | (refine Eq.symm (bI_f ?_); intro z; exact absurd zc17 (Int32.not_lt.mpr z.2.2.1.1))
                      | (refine Eq.symm (bI_f ?_); intro z; exact absurd z.2.2.1.2 zc22)
                      | (refine Eq.symm (bI_f ?_); intro z; exact absurd (hz.mp ((lg_cmp_eq _ _).mp zc55)) z.2.2.2.1)
                      | (refine Eq.symm (bI_t ?_); exact ⟨hw, hs, hws, fun q => zc55 ((lg_cmp_eq _ _).mpr (hz.mpr q)), Or.inl zc59⟩)
                      | (refine Eq.symm (bI_t ?_); exact ⟨hw, hs, hws, fun q => zc55 ((lg_cmp_eq _ _).mpr (hz.mpr q)), Or.inr (Or.inl ⟨zc36, zc41⟩)⟩)
                      | (exfalso; exact absurd zc64 (by decide))
                      | (exfalso; exact absurd rfl zc64)
                      | (refine Eq.symm (bI_t ?_); have h0 : ¬ mLow d w = 0 := fun q => zc55 ((lg_cmp_eq _ _).mpr (hz.mpr q)); exact ⟨hw, hs, hws, h0, Or.inr (Or.inr ((hp h0).mp (Int64.not_le.mp (fun q => zc71 ((lg_cmp_le _ _).mpr q)))))⟩)
                      | (refine Eq.symm (bI_f ?_); intro z; have q := (lg_cmp_le _ _).mp zc71; exact z.2.2.2.2.elim (fun a => zc59 a) (fun a => a.elim (fun a => by first | exact absurd zc36 a.1 | exact absurd zc41 a.2) (fun a => absurd q (Int64.not_le.mpr ((hp z.2.2.2.1).mpr a)))))
                    · refine g_lload dX1_isAsking_67 rfl ?_
                      refine g_lconst (v := 0) dX1_isAsking_69 (by decide) ?_
                      refine g_lcmp dX1_isAsking_70 ?_
                      refine g_if_le (tgt := 78) dX1_isAsking_71 (by decide) (fun zc71 => ?_) (fun zc71 => ?_)
                      · refine g_iconst (v := 0) dX1_isAsking_78 (by decide) ?_
                        refine g_zret dX1_isAsking_79 rfl (rfl) ?_
                        refine ⟨_, rfl, ?_, rfl⟩
                        first
                        | (refine Eq.symm (bI_f ?_); intro z; exact absurd z.1 (bI_eq0.mp zc4))
                        | (refine Eq.symm (bI_f ?_); intro z; rcases z.2.1 with q | q <;> exact absurd (q ▸ zc8) (by decide))
                        | (refine Eq.symm (bI_f ?_); intro z; rcases z.2.1 with q | q <;> exact absurd (q ▸ zc13) (by decide))
                        | (refine Eq.symm (bI_f ?_); intro z; exact absurd zc17 (Int32.not_lt.mpr z.2.2.1.1))
                        | (refine Eq.symm (bI_f ?_); intro z; exact absurd z.2.2.1.2 zc22)
                        | (refine Eq.symm (bI_f ?_); intro z; exact absurd (hz.mp ((lg_cmp_eq _ _).mp zc55)) z.2.2.2.1)
                        | (refine Eq.symm (bI_t ?_); exact ⟨hw, hs, hws, fun q => zc55 ((lg_cmp_eq _ _).mpr (hz.mpr q)), Or.inl zc59⟩)
                        | (refine Eq.symm (bI_t ?_); exact ⟨hw, hs, hws, fun q => zc55 ((lg_cmp_eq _ _).mpr (hz.mpr q)), Or.inr (Or.inl ⟨zc36, zc41⟩)⟩)
                        | (exfalso; exact absurd zc64 (by decide))
                        | (exfalso; exact absurd rfl zc64)
                        | (refine Eq.symm (bI_t ?_); have h0 : ¬ mLow d w = 0 := fun q => zc55 ((lg_cmp_eq _ _).mpr (hz.mpr q)); exact ⟨hw, hs, hws, h0, Or.inr (Or.inr ((hp h0).mp (Int64.not_le.mp (fun q => zc71 ((lg_cmp_le _ _).mpr q)))))⟩)
                        | (refine Eq.symm (bI_f ?_); intro z; have q := (lg_cmp_le _ _).mp zc71; exact z.2.2.2.2.elim (fun a => zc59 a) (fun a => a.elim (fun a => by first | exact absurd zc36 a.1 | exact absurd zc41 a.2) (fun a => absurd q (Int64.not_le.mpr ((hp z.2.2.2.1).mpr a)))))
                      · refine g_iconst (v := 1) dX1_isAsking_74 (by decide) ?_
                        refine g_goto (tgt := 79) dX1_isAsking_75 (by decide) ?_
                        refine g_zret dX1_isAsking_79 rfl (rfl) ?_
                        refine ⟨_, rfl, ?_, rfl⟩
                        first
                        | (refine Eq.symm (bI_f ?_); intro z; exact absurd z.1 (bI_eq0.mp zc4))
                        | (refine Eq.symm (bI_f ?_); intro z; rcases z.2.1 with q | q <;> exact absurd (q ▸ zc8) (by decide))
                        | (refine Eq.symm (bI_f ?_); intro z; rcases z.2.1 with q | q <;> exact absurd (q ▸ zc13) (by decide))
                        | (refine Eq.symm (bI_f ?_); intro z; exact absurd zc17 (Int32.not_lt.mpr z.2.2.1.1))
                        | (refine Eq.symm (bI_f ?_); intro z; exact absurd z.2.2.1.2 zc22)
                        | (refine Eq.symm (bI_f ?_); intro z; exact absurd (hz.mp ((lg_cmp_eq _ _).mp zc55)) z.2.2.2.1)
                        | (refine Eq.symm (bI_t ?_); exact ⟨hw, hs, hws, fun q => zc55 ((lg_cmp_eq _ _).mpr (hz.mpr q)), Or.inl zc59⟩)
                        | (refine Eq.symm (bI_t ?_); exact ⟨hw, hs, hws, fun q => zc55 ((lg_cmp_eq _ _).mpr (hz.mpr q)), Or.inr (Or.inl ⟨zc36, zc41⟩)⟩)
                        | (exfalso; exact absurd zc64 (by decide))
                        | (exfalso; exact absurd rfl zc64)
                        | (refine Eq.symm (bI_t ?_); have h0 : ¬ mLow d w = 0 := fun q => zc55 ((lg_cmp_eq _ _).mpr (hz.mpr q)); exact ⟨hw, hs, hws, h0, Or.inr (Or.inr ((hp h0).mp (Int64.not_le.mp (fun q => zc71 ((lg_cmp_le _ _).mpr q)))))⟩)
                        | (refine Eq.symm (bI_f ?_); intro z; have q := (lg_cmp_le _ _).mp zc71; exact z.2.2.2.2.elim (fun a => zc59 a) (fun a => a.elim (fun a => by first | exact absurd zc36 a.1 | exact absurd zc41 a.2) (fun a => absurd q (Int64.not_le.mpr ((hp z.2.2.2.1).mpr a)))))
          · refine g_iconst (v := 0) dX1_isAsking_25 (by decide) ?_
            refine g_zret dX1_isAsking_26 rfl (rfl) ?_
            refine ⟨_, rfl, ?_, rfl⟩
            first
            | (refine Eq.symm (bI_f ?_); intro z; exact absurd z.1 (bI_eq0.mp zc4))
            | (refine Eq.symm (bI_f ?_); intro z; rcases z.2.1 with q | q <;> exact absurd (q ▸ zc8) (by decide))
            | (refine Eq.symm (bI_f ?_); intro z; rcases z.2.1 with q | q <;> exact absurd (q ▸ zc13) (by decide))
            | (refine Eq.symm (bI_f ?_); intro z; exact absurd zc17 (Int32.not_lt.mpr z.2.2.1.1))
            | (refine Eq.symm (bI_f ?_); intro z; exact absurd z.2.2.1.2 zc22)
            | (refine Eq.symm (bI_f ?_); intro z; exact absurd (hz.mp ((lg_cmp_eq _ _).mp zc55)) z.2.2.2.1)
            | (refine Eq.symm (bI_t ?_); exact ⟨hw, hs, hws, fun q => zc55 ((lg_cmp_eq _ _).mpr (hz.mpr q)), Or.inl zc59⟩)
            | (refine Eq.symm (bI_t ?_); exact ⟨hw, hs, hws, fun q => zc55 ((lg_cmp_eq _ _).mpr (hz.mpr q)), Or.inr (Or.inl ⟨zc36, zc41⟩)⟩)
            | (exfalso; exact absurd zc64 (by decide))
            | (exfalso; exact absurd rfl zc64)
            | (refine Eq.symm (bI_t ?_); have h0 : ¬ mLow d w = 0 := fun q => zc55 ((lg_cmp_eq _ _).mpr (hz.mpr q)); exact ⟨hw, hs, hws, h0, Or.inr (Or.inr ((hp h0).mp (Int64.not_le.mp (fun q => zc71 ((lg_cmp_le _ _).mpr q)))))⟩)
            | (refine Eq.symm (bI_f ?_); intro z; have q := (lg_cmp_le _ _).mp zc71; exact z.2.2.2.2.elim (fun a => zc59 a) (fun a => a.elim (fun a => by first | exact absurd zc36 a.1 | exact absurd zc41 a.2) (fun a => absurd q (Int64.not_le.mpr ((hp z.2.2.2.1).mpr a)))))
theorem c_X1_numberOf {q : Nat} {w sg ws : Int32} {dv : Int64} (h0 : σ q = some (gO 1 [.int w, .int (bI (sg = 1)), .int ws, .long dv])) (v : Int64) : Ct l mX1_numberOf 2 0 0 [.ref q, .long v] σ (pL fun r σ' => r = cDv w sg v ∧ σ' = σ) := by
  refine Ct_of moX1_numberOf [some (.ref q), some (.long v), none] rfl (Nat.le_of_ble_eq_true rfl) ?_
  refine g_aload_n (i := 0) dX1_numberOf_0 rfl rfl ?_
  refine g_getf dX1_numberOf_1 flX1_15 (by assumption) rfl ?_
  refine g_if_eq (tgt := 18) dX1_numberOf_4 (by decide) (fun zc4 => ?_) (fun zc4 => ?_)
  · refine g_lload_n (i := 1) dX1_numberOf_18 rfl rfl ?_
    refine g_aload_n (i := 0) dX1_numberOf_19 rfl rfl ?_
    refine g_getf dX1_numberOf_20 flX1_9 (by assumption) rfl ?_
    refine g_callSl (My := mX2_mask) [_] dX1_numberOf_23 lkX1_28 mvX2_mask rfl (c_X2_mask _) (by decide) (by decide) (by decide) rfl (Nat.le_of_ble_eq_true rfl) (fun zr23 σ zh23 => ?_)
    obtain ⟨rfl, rfl⟩ := zh23
    refine g_land dX1_numberOf_26 ?_
    refine g_lret dX1_numberOf_27 rfl ?_
    refine ⟨_, rfl, ?_, rfl⟩
    unfold cDv
    first
    | (rw [if_pos (bI_ne0.mp zc4)]; done)
    | (rw [if_neg (bI_eq0.mp zc4)]; done)
  · refine g_aload_n (i := 0) dX1_numberOf_7 rfl rfl ?_
    refine g_getf dX1_numberOf_8 flX1_9 (by assumption) rfl ?_
    refine g_lload_n (i := 1) dX1_numberOf_11 rfl rfl ?_
    refine g_callSl (My := mX2_signedOf) [_, _] dX1_numberOf_12 lkX1_22 mvX2_signedOf rfl (c_X2_signedOf _ _) (by decide) (by decide) (by decide) rfl (Nat.le_of_ble_eq_true rfl) (fun zr12 σ zh12 => ?_)
    obtain ⟨rfl, rfl⟩ := zh12
    refine g_goto (tgt := 27) dX1_numberOf_15 (by decide) ?_
    refine g_lret dX1_numberOf_27 rfl ?_
    refine ⟨_, rfl, ?_, rfl⟩
    unfold cDv
    first
    | (rw [if_pos (bI_ne0.mp zc4)]; done)
    | (rw [if_neg (bI_eq0.mp zc4)]; done)
theorem c_X1_towardsZero {q : Nat} {w sg ws : Int32} {dv : Int64} (h0 : σ q = some (gO 1 [.int w, .int (bI (sg = 1)), .int ws, .long dv])) (n : Int64) : Ct l mX1_towardsZero 3 0 0 [.ref q, .long n] σ (pL fun r σ' => r = cTz sg dv n ∧ σ' = σ) := by
  refine Ct_of moX1_towardsZero [some (.ref q), some (.long n), none] rfl (Nat.le_of_ble_eq_true rfl) ?_
  refine g_aload_n (i := 0) dX1_towardsZero_0 rfl rfl ?_
  refine g_getf dX1_towardsZero_1 flX1_32 (by assumption) rfl ?_
  refine g_lconst (v := 0) dX1_towardsZero_4 (by decide) ?_
  refine g_lcmp dX1_towardsZero_5 ?_
  refine g_if_ne (tgt := 11) dX1_towardsZero_6 (by decide) (fun zc6 => ?_) (fun zc6 => ?_)
  · refine g_aload_n (i := 0) dX1_towardsZero_11 rfl rfl ?_
    refine g_getf dX1_towardsZero_12 flX1_15 (by assumption) rfl ?_
    refine g_if_eq (tgt := 27) dX1_towardsZero_15 (by decide) (fun zc15 => ?_) (fun zc15 => ?_)
    · refine g_lload_n (i := 1) dX1_towardsZero_27 rfl rfl ?_
      refine g_aload_n (i := 0) dX1_towardsZero_28 rfl rfl ?_
      refine g_getf dX1_towardsZero_29 flX1_32 (by assumption) rfl ?_
      refine g_callSl (My := mX2_quotient) [_, _] dX1_towardsZero_32 lkX1_47 mvX2_quotient rfl (c_X2_quotient _ _) (by decide) (by decide) (by decide) rfl (Nat.le_of_ble_eq_true rfl) (fun zr32 σ zh32 => ?_)
      obtain ⟨rfl, rfl⟩ := zh32
      refine g_lret dX1_towardsZero_35 rfl ?_
      refine ⟨_, rfl, ?_, rfl⟩
      unfold cTz
      first
      | (rw [if_pos ((lg_cmp_eq _ _).mp zc6)]; done)
      | (rw [if_neg (fun z => zc6 ((lg_cmp_eq _ _).mpr z)), if_pos (bI_ne0.mp zc15)]; done)
      | (rw [if_neg (fun z => zc6 ((lg_cmp_eq _ _).mpr z)), if_neg (bI_eq0.mp zc15)]; done)
    · refine g_lload_n (i := 1) dX1_towardsZero_18 rfl rfl ?_
      refine g_aload_n (i := 0) dX1_towardsZero_19 rfl rfl ?_
      refine g_getf dX1_towardsZero_20 flX1_32 (by assumption) rfl ?_
      refine g_ldiv dX1_towardsZero_23 (fun z => zc6 ((lg_cmp_eq _ _).mpr z)) ?_
      refine g_goto (tgt := 35) dX1_towardsZero_24 (by decide) ?_
      refine g_lret dX1_towardsZero_35 rfl ?_
      refine ⟨_, rfl, ?_, rfl⟩
      unfold cTz
      first
      | (rw [if_pos ((lg_cmp_eq _ _).mp zc6)]; done)
      | (rw [if_neg (fun z => zc6 ((lg_cmp_eq _ _).mpr z)), if_pos (bI_ne0.mp zc15)]; done)
      | (rw [if_neg (fun z => zc6 ((lg_cmp_eq _ _).mpr z)), if_neg (bI_eq0.mp zc15)]; done)
  · refine g_lconst (v := 0) dX1_towardsZero_9 (by decide) ?_
    refine g_lret dX1_towardsZero_10 rfl ?_
    refine ⟨_, rfl, ?_, rfl⟩
    unfold cTz
    first
    | (rw [if_pos ((lg_cmp_eq _ _).mp zc6)]; done)
    | (rw [if_neg (fun z => zc6 ((lg_cmp_eq _ _).mpr z)), if_pos (bI_ne0.mp zc15)]; done)
    | (rw [if_neg (fun z => zc6 ((lg_cmp_eq _ _).mpr z)), if_neg (bI_eq0.mp zc15)]; done)
theorem c_X1_asksOf {q : Nat} {w sg ws : Int32} {dv : Int64} (h0 : σ q = some (gO 1 [.int w, .int (bI (sg = 1)), .int ws, .long dv])) (v : Int64) : Ct l mX1_asksOf 4 0 0 [.ref q, .long v] σ (pI fun r σ' => r = bI (cAk sg ws dv (cDv w sg v)) ∧ σ' = σ) := by
  refine Ct_of moX1_asksOf [some (.ref q), some (.long v), none, none, none] rfl (Nat.le_of_ble_eq_true rfl) ?_
  refine g_aload_n (i := 0) dX1_asksOf_0 rfl rfl ?_
  refine g_lload_n (i := 1) dX1_asksOf_1 rfl rfl ?_
  refine g_callVl (My := mX1_numberOf) [_] dX1_asksOf_2 lkX1_40 mvX1_numberOf rfl (by assumption) rfl (c_X1_numberOf h0 _) (by decide) (by decide) (by decide) rfl (Nat.le_of_ble_eq_true rfl) (fun zr2 σ zh2 => ?_)
  obtain ⟨rfl, rfl⟩ := zh2
  refine g_lstore_n (i := 3) (ls' := [_, _, _, _, _]) dX1_asksOf_5 rfl (by decide) rfl rfl ?_
  refine g_aload_n (i := 0) dX1_asksOf_6 rfl rfl ?_
  refine g_getf dX1_asksOf_7 flX1_19 (by assumption) rfl ?_
  refine g_iconst (v := 5) dX1_asksOf_10 (by decide) ?_
  refine g_icmp_ne (tgt := 29) dX1_asksOf_11 (by decide) (fun zc11 => ?_) (fun zc11 => ?_)
  · refine g_iconst (v := 1) dX1_asksOf_29 (by decide) ?_
    refine g_goto (tgt := 34) dX1_asksOf_30 (by decide) ?_
    refine g_zret dX1_asksOf_34 rfl (rfl) ?_
    refine ⟨_, rfl, ?_, rfl⟩
    first
    | (refine Eq.symm (bI_t ?_); exact Or.inl zc11)
    | (refine Eq.symm (bI_t ?_); exact Or.inr ((lg_cmp_eq _ _).mp zc26))
    | (refine Eq.symm (bI_f ?_); intro z; rcases z with a | a; exact absurd zc11 a; exact zc26 ((lg_cmp_eq _ _).mpr a))
  · refine g_lload_n (i := 3) dX1_asksOf_14 rfl rfl ?_
    refine g_aload_n (i := 0) dX1_asksOf_15 rfl rfl ?_
    refine g_lload_n (i := 3) dX1_asksOf_16 rfl rfl ?_
    refine g_callVl (My := mX1_towardsZero) [_] dX1_asksOf_17 lkX1_44 mvX1_towardsZero rfl (by assumption) rfl (c_X1_towardsZero h0 _) (by decide) (by decide) (by decide) rfl (Nat.le_of_ble_eq_true rfl) (fun zr17 σ zh17 => ?_)
    obtain ⟨rfl, rfl⟩ := zh17
    refine g_aload_n (i := 0) dX1_asksOf_20 rfl rfl ?_
    refine g_getf dX1_asksOf_21 flX1_32 (by assumption) rfl ?_
    refine g_lmul dX1_asksOf_24 ?_
    refine g_lcmp dX1_asksOf_25 ?_
    refine g_if_ne (tgt := 33) dX1_asksOf_26 (by decide) (fun zc26 => ?_) (fun zc26 => ?_)
    · refine g_iconst (v := 0) dX1_asksOf_33 (by decide) ?_
      refine g_zret dX1_asksOf_34 rfl (rfl) ?_
      refine ⟨_, rfl, ?_, rfl⟩
      first
      | (refine Eq.symm (bI_t ?_); exact Or.inl zc11)
      | (refine Eq.symm (bI_t ?_); exact Or.inr ((lg_cmp_eq _ _).mp zc26))
      | (refine Eq.symm (bI_f ?_); intro z; rcases z with a | a; exact absurd zc11 a; exact zc26 ((lg_cmp_eq _ _).mpr a))
    · refine g_iconst (v := 1) dX1_asksOf_29 (by decide) ?_
      refine g_goto (tgt := 34) dX1_asksOf_30 (by decide) ?_
      refine g_zret dX1_asksOf_34 rfl (rfl) ?_
      refine ⟨_, rfl, ?_, rfl⟩
      first
      | (refine Eq.symm (bI_t ?_); exact Or.inl zc11)
      | (refine Eq.symm (bI_t ?_); exact Or.inr ((lg_cmp_eq _ _).mp zc26))
      | (refine Eq.symm (bI_f ?_); intro z; rcases z with a | a; exact absurd zc11 a; exact zc26 ((lg_cmp_eq _ _).mpr a))
theorem t69_X1_answer {q : Nat} {w sg ws : Int32} {dv : Int64} (h0 : σ q = some (gO 1 [.int w, .int (bI (sg = 1)), .int ws, .long dv])) (v n q1 r1 : Int64) {post : Option Value → gH → Prop} (hp : post (some (.long (cAns w ws (q1, r1)))) σ) : G l mX1_answer 4 0 0 post σ 69 [some (.ref q), some (.long v), none, some (.long n), none, some (.long q1), none, some (.long r1), none] [] := by
  refine g_aload_n (i := 0) dX1_answer_69 rfl rfl ?_
  refine g_getf dX1_answer_70 flX1_19 (by assumption) rfl ?_
  by_cases e73_2 : ws = 2
  · refine g_tbIn (c := 2) (tgt := 100) e73_2 dX1_answer_73 (by decide) (by decide) rfl (by decide) ?_
    refine g_lload dX1_answer_100 rfl ?_
    refine g_aload_n (i := 0) dX1_answer_102 rfl rfl ?_
    refine g_getf dX1_answer_103 flX1_9 (by assumption) rfl ?_
    refine g_callSl (My := mX2_mask) [_] dX1_answer_106 lkX1_28 mvX2_mask rfl (c_X2_mask _) (by decide) (by decide) (by decide) rfl (Nat.le_of_ble_eq_true rfl) (fun zr106 σ zh106 => ?_)
    obtain ⟨ze106, zf106⟩ := zh106
    rw [ze106, zf106]
    refine g_land dX1_answer_109 ?_
    refine g_lret dX1_answer_110 rfl ?_
    unfold cAns at hp
    first
    | (rw [if_pos (Or.inl e73_2)] at hp; exact hp)
    | (rw [if_pos (Or.inr e73_3)] at hp; exact hp)
    | (rw [if_neg (by rw [e73_4]; decide), if_pos e73_4, if_pos ((lg_cmp_eq _ _).mp zc115)] at hp; exact hp)
    | (rw [if_neg (by rw [e73_4]; decide), if_pos e73_4, if_neg (fun z => zc115 ((lg_cmp_eq _ _).mpr z))] at hp; exact hp)
    | (rw [if_neg (fun z => z.elim e73_2 e73_3), if_neg e73_4] at hp; exact hp)
  by_cases e73_3 : ws = 3
  · refine g_tbIn (c := 3) (tgt := 100) e73_3 dX1_answer_73 (by decide) (by decide) rfl (by decide) ?_
    refine g_lload dX1_answer_100 rfl ?_
    refine g_aload_n (i := 0) dX1_answer_102 rfl rfl ?_
    refine g_getf dX1_answer_103 flX1_9 (by assumption) rfl ?_
    refine g_callSl (My := mX2_mask) [_] dX1_answer_106 lkX1_28 mvX2_mask rfl (c_X2_mask _) (by decide) (by decide) (by decide) rfl (Nat.le_of_ble_eq_true rfl) (fun zr106 σ zh106 => ?_)
    obtain ⟨ze106, zf106⟩ := zh106
    rw [ze106, zf106]
    refine g_land dX1_answer_109 ?_
    refine g_lret dX1_answer_110 rfl ?_
    unfold cAns at hp
    first
    | (rw [if_pos (Or.inl e73_2)] at hp; exact hp)
    | (rw [if_pos (Or.inr e73_3)] at hp; exact hp)
    | (rw [if_neg (by rw [e73_4]; decide), if_pos e73_4, if_pos ((lg_cmp_eq _ _).mp zc115)] at hp; exact hp)
    | (rw [if_neg (by rw [e73_4]; decide), if_pos e73_4, if_neg (fun z => zc115 ((lg_cmp_eq _ _).mpr z))] at hp; exact hp)
    | (rw [if_neg (fun z => z.elim e73_2 e73_3), if_neg e73_4] at hp; exact hp)
  by_cases e73_4 : ws = 4
  · refine g_tbIn (c := 4) (tgt := 111) e73_4 dX1_answer_73 (by decide) (by decide) rfl (by decide) ?_
    refine g_lload dX1_answer_111 rfl ?_
    refine g_lconst (v := 0) dX1_answer_113 (by decide) ?_
    refine g_lcmp dX1_answer_114 ?_
    refine g_if_ne (tgt := 122) dX1_answer_115 (by decide) (fun zc115 => ?_) (fun zc115 => ?_)
    · refine g_lconst (v := 0) dX1_answer_122 (by decide) ?_
      refine g_lret dX1_answer_123 rfl ?_
      unfold cAns at hp
      first
      | (rw [if_pos (Or.inl e73_2)] at hp; exact hp)
      | (rw [if_pos (Or.inr e73_3)] at hp; exact hp)
      | (rw [if_neg (by rw [e73_4]; decide), if_pos e73_4, if_pos ((lg_cmp_eq _ _).mp zc115)] at hp; exact hp)
      | (rw [if_neg (by rw [e73_4]; decide), if_pos e73_4, if_neg (fun z => zc115 ((lg_cmp_eq _ _).mpr z))] at hp; exact hp)
      | (rw [if_neg (fun z => z.elim e73_2 e73_3), if_neg e73_4] at hp; exact hp)
    · refine g_lconst (v := 1) dX1_answer_118 (by decide) ?_
      refine g_goto (tgt := 123) dX1_answer_119 (by decide) ?_
      refine g_lret dX1_answer_123 rfl ?_
      unfold cAns at hp
      first
      | (rw [if_pos (Or.inl e73_2)] at hp; exact hp)
      | (rw [if_pos (Or.inr e73_3)] at hp; exact hp)
      | (rw [if_neg (by rw [e73_4]; decide), if_pos e73_4, if_pos ((lg_cmp_eq _ _).mp zc115)] at hp; exact hp)
      | (rw [if_neg (by rw [e73_4]; decide), if_pos e73_4, if_neg (fun z => zc115 ((lg_cmp_eq _ _).mpr z))] at hp; exact hp)
      | (rw [if_neg (fun z => z.elim e73_2 e73_3), if_neg e73_4] at hp; exact hp)
  refine g_tbOut (tgt := 124) dX1_answer_73 (g_out 2 4 (by intro i h1 h2; (rcases (show i = 2 ∨ i = 3 ∨ i = 4 by omega) with rfl | rfl | rfl) <;> simp_all)) (by decide) ?_
  refine g_lload dX1_answer_124 rfl ?_
  refine g_aload_n (i := 0) dX1_answer_126 rfl rfl ?_
  refine g_getf dX1_answer_127 flX1_9 (by assumption) rfl ?_
  refine g_callSl (My := mX2_mask) [_] dX1_answer_130 lkX1_28 mvX2_mask rfl (c_X2_mask _) (by decide) (by decide) (by decide) rfl (Nat.le_of_ble_eq_true rfl) (fun zr130 σ zh130 => ?_)
  obtain ⟨ze130, zf130⟩ := zh130
  rw [ze130, zf130]
  refine g_land dX1_answer_133 ?_
  refine g_lret dX1_answer_134 rfl ?_
  unfold cAns at hp
  first
  | (rw [if_pos (Or.inl e73_2)] at hp; exact hp)
  | (rw [if_pos (Or.inr e73_3)] at hp; exact hp)
  | (rw [if_neg (by rw [e73_4]; decide), if_pos e73_4, if_pos ((lg_cmp_eq _ _).mp zc115)] at hp; exact hp)
  | (rw [if_neg (by rw [e73_4]; decide), if_pos e73_4, if_neg (fun z => zc115 ((lg_cmp_eq _ _).mpr z))] at hp; exact hp)
  | (rw [if_neg (fun z => z.elim e73_2 e73_3), if_neg e73_4] at hp; exact hp)
theorem c_X1_answer {q : Nat} {w sg ws : Int32} {dv : Int64} (h0 : σ q = some (gO 1 [.int w, .int (bI (sg = 1)), .int ws, .long dv])) (v : Int64) : Ct l mX1_answer 4 0 0 [.ref q, .long v] σ (pL fun r σ' => r = cAns w ws (cQR sg ws dv (cDv w sg v)) ∧ σ' = σ) := by
  refine Ct_of moX1_answer [some (.ref q), some (.long v), none, none, none, none, none, none, none] rfl (Nat.le_of_ble_eq_true rfl) ?_
  refine g_aload_n (i := 0) dX1_answer_0 rfl rfl ?_
  refine g_lload_n (i := 1) dX1_answer_1 rfl rfl ?_
  refine g_callVl (My := mX1_numberOf) [_] dX1_answer_2 lkX1_40 mvX1_numberOf rfl (by assumption) rfl (c_X1_numberOf h0 _) (by decide) (by decide) (by decide) rfl (Nat.le_of_ble_eq_true rfl) (fun zr2 σ zh2 => ?_)
  obtain ⟨rfl, rfl⟩ := zh2
  refine g_lstore_n (i := 3) (ls' := [_, _, _, _, _, _, _, _, _]) dX1_answer_5 rfl (by decide) rfl rfl ?_
  refine g_aload_n (i := 0) dX1_answer_6 rfl rfl ?_
  refine g_lload_n (i := 3) dX1_answer_7 rfl rfl ?_
  refine g_callVl (My := mX1_towardsZero) [_] dX1_answer_8 lkX1_44 mvX1_towardsZero rfl (by assumption) rfl (c_X1_towardsZero h0 _) (by decide) (by decide) (by decide) rfl (Nat.le_of_ble_eq_true rfl) (fun zr8 σ zh8 => ?_)
  obtain ⟨rfl, rfl⟩ := zh8
  refine g_lstore (ls' := [_, _, _, _, _, _, _, _, _]) dX1_answer_11 (by decide) rfl rfl ?_
  refine g_lload_n (i := 3) dX1_answer_13 rfl rfl ?_
  refine g_lload dX1_answer_14 rfl ?_
  refine g_aload_n (i := 0) dX1_answer_16 rfl rfl ?_
  refine g_getf dX1_answer_17 flX1_32 (by assumption) rfl ?_
  refine g_lmul dX1_answer_20 ?_
  refine g_lsub dX1_answer_21 ?_
  refine g_lstore (ls' := [_, _, _, _, _, _, _, _, _]) dX1_answer_22 (by decide) rfl rfl ?_
  refine g_aload_n (i := 0) dX1_answer_24 rfl rfl ?_
  refine g_getf dX1_answer_25 flX1_15 (by assumption) rfl ?_
  refine g_if_eq (tgt := 69) dX1_answer_28 (by decide) (fun zc28 => ?_) (fun zc28 => ?_)
  · refine t69_X1_answer h0 _ _ _ _ ⟨_, rfl, ?_, rfl⟩
    unfold cQR
    first
    | (rw [if_neg (fun z => bI_eq0.mp zc28 z.1)]; done)
    | (rw [if_neg (fun z => absurd ((lg_cmp_ge _ _).mp zc35) (Int64.not_le.mpr z.2.1))]; done)
    | (rw [if_neg (fun z => z.2.2.elim zc43 zc51)]; done)
    | (rw [if_pos ⟨bI_ne0.mp zc28, Int64.not_le.mp (fun z => zc35 ((lg_cmp_ge _ _).mpr z)), Or.inl zc43⟩]; done)
    | (rw [if_pos ⟨bI_ne0.mp zc28, Int64.not_le.mp (fun z => zc35 ((lg_cmp_ge _ _).mpr z)), Or.inr zc51⟩]; done)
  · refine g_lload dX1_answer_31 rfl ?_
    refine g_lconst (v := 0) dX1_answer_33 (by decide) ?_
    refine g_lcmp dX1_answer_34 ?_
    refine g_if_ge (tgt := 69) dX1_answer_35 (by decide) (fun zc35 => ?_) (fun zc35 => ?_)
    · refine t69_X1_answer h0 _ _ _ _ ⟨_, rfl, ?_, rfl⟩
      unfold cQR
      first
      | (rw [if_neg (fun z => bI_eq0.mp zc28 z.1)]; done)
      | (rw [if_neg (fun z => absurd ((lg_cmp_ge _ _).mp zc35) (Int64.not_le.mpr z.2.1))]; done)
      | (rw [if_neg (fun z => z.2.2.elim zc43 zc51)]; done)
      | (rw [if_pos ⟨bI_ne0.mp zc28, Int64.not_le.mp (fun z => zc35 ((lg_cmp_ge _ _).mpr z)), Or.inl zc43⟩]; done)
      | (rw [if_pos ⟨bI_ne0.mp zc28, Int64.not_le.mp (fun z => zc35 ((lg_cmp_ge _ _).mpr z)), Or.inr zc51⟩]; done)
    · refine g_aload_n (i := 0) dX1_answer_38 rfl rfl ?_
      refine g_getf dX1_answer_39 flX1_19 (by assumption) rfl ?_
      refine g_iconst (v := 1) dX1_answer_42 (by decide) ?_
      refine g_icmp_eq (tgt := 54) dX1_answer_43 (by decide) (fun zc43 => ?_) (fun zc43 => ?_)
      · refine g_lload dX1_answer_54 rfl ?_
        refine g_lconst (v := 1) dX1_answer_56 (by decide) ?_
        refine g_lsub dX1_answer_57 ?_
        refine g_lstore (ls' := [_, _, _, _, _, _, _, _, _]) dX1_answer_58 (by decide) rfl rfl ?_
        refine g_lload dX1_answer_60 rfl ?_
        refine g_aload_n (i := 0) dX1_answer_62 rfl rfl ?_
        refine g_getf dX1_answer_63 flX1_32 (by assumption) rfl ?_
        refine g_ladd dX1_answer_66 ?_
        refine g_lstore (ls' := [_, _, _, _, _, _, _, _, _]) dX1_answer_67 (by decide) rfl rfl ?_
        refine t69_X1_answer h0 _ _ _ _ ⟨_, rfl, ?_, rfl⟩
        unfold cQR
        first
        | (rw [if_neg (fun z => bI_eq0.mp zc28 z.1)]; done)
        | (rw [if_neg (fun z => absurd ((lg_cmp_ge _ _).mp zc35) (Int64.not_le.mpr z.2.1))]; done)
        | (rw [if_neg (fun z => z.2.2.elim zc43 zc51)]; done)
        | (rw [if_pos ⟨bI_ne0.mp zc28, Int64.not_le.mp (fun z => zc35 ((lg_cmp_ge _ _).mpr z)), Or.inl zc43⟩]; done)
        | (rw [if_pos ⟨bI_ne0.mp zc28, Int64.not_le.mp (fun z => zc35 ((lg_cmp_ge _ _).mpr z)), Or.inr zc51⟩]; done)
      · refine g_aload_n (i := 0) dX1_answer_46 rfl rfl ?_
        refine g_getf dX1_answer_47 flX1_19 (by assumption) rfl ?_
        refine g_iconst (v := 3) dX1_answer_50 (by decide) ?_
        refine g_icmp_ne (tgt := 69) dX1_answer_51 (by decide) (fun zc51 => ?_) (fun zc51 => ?_)
        · refine t69_X1_answer h0 _ _ _ _ ⟨_, rfl, ?_, rfl⟩
          unfold cQR
          first
          | (rw [if_neg (fun z => bI_eq0.mp zc28 z.1)]; done)
          | (rw [if_neg (fun z => absurd ((lg_cmp_ge _ _).mp zc35) (Int64.not_le.mpr z.2.1))]; done)
          | (rw [if_neg (fun z => z.2.2.elim zc43 zc51)]; done)
          | (rw [if_pos ⟨bI_ne0.mp zc28, Int64.not_le.mp (fun z => zc35 ((lg_cmp_ge _ _).mpr z)), Or.inl zc43⟩]; done)
          | (rw [if_pos ⟨bI_ne0.mp zc28, Int64.not_le.mp (fun z => zc35 ((lg_cmp_ge _ _).mpr z)), Or.inr zc51⟩]; done)
        · refine g_lload dX1_answer_54 rfl ?_
          refine g_lconst (v := 1) dX1_answer_56 (by decide) ?_
          refine g_lsub dX1_answer_57 ?_
          refine g_lstore (ls' := [_, _, _, _, _, _, _, _, _]) dX1_answer_58 (by decide) rfl rfl ?_
          refine g_lload dX1_answer_60 rfl ?_
          refine g_aload_n (i := 0) dX1_answer_62 rfl rfl ?_
          refine g_getf dX1_answer_63 flX1_32 (by assumption) rfl ?_
          refine g_ladd dX1_answer_66 ?_
          refine g_lstore (ls' := [_, _, _, _, _, _, _, _, _]) dX1_answer_67 (by decide) rfl rfl ?_
          refine t69_X1_answer h0 _ _ _ _ ⟨_, rfl, ?_, rfl⟩
          unfold cQR
          first
          | (rw [if_neg (fun z => bI_eq0.mp zc28 z.1)]; done)
          | (rw [if_neg (fun z => absurd ((lg_cmp_ge _ _).mp zc35) (Int64.not_le.mpr z.2.1))]; done)
          | (rw [if_neg (fun z => z.2.2.elim zc43 zc51)]; done)
          | (rw [if_pos ⟨bI_ne0.mp zc28, Int64.not_le.mp (fun z => zc35 ((lg_cmp_ge _ _).mpr z)), Or.inl zc43⟩]; done)
          | (rw [if_pos ⟨bI_ne0.mp zc28, Int64.not_le.mp (fun z => zc35 ((lg_cmp_ge _ _).mpr z)), Or.inr zc51⟩]; done)
end CAsk
