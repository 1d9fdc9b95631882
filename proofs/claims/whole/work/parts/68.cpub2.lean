/-! the class's public methods: price, tell, cost, run, end, inverse, plain, check -/
theorem c_X10_isKind {l : Launch} {σ : gH} (k : Int32) : Ct l mX10_isKind 1 0 0 [.int k] σ (pI fun r σ' => r = bI (¬ k < 0 ∧ k ≤ 12) ∧ σ' = σ) := by
  have h13 : k < 13 ↔ k ≤ 12 := by
    rw [Int32.lt_iff_toInt_lt, Int32.le_iff_toInt_le, show (13 : Int32).toInt = 13 from by decide, show (12 : Int32).toInt = 12 from by decide]
    omega
  refine Ct_of moX10_isKind [some (.int k)] rfl (Nat.le_of_ble_eq_true rfl) ?_
  refine g_iload_n (i := 0) dX10_isKind_0 rfl rfl ?_
  refine g_if_lt (tgt := 14) dX10_isKind_1 (by decide) (fun zc1 => ?_) (fun zc1 => ?_)
  · refine g_iconst (v := 0) dX10_isKind_14 (by decide) ?_
    refine g_zret dX10_isKind_15 rfl (rfl) ?_
    refine ⟨_, rfl, ?_, rfl⟩
    first
    | (refine Eq.symm (bI_t ?_); exact ⟨zc1, h13.mp (Int32.not_le.mp zc7)⟩)
    | (refine Eq.symm (bI_f ?_); intro z; exact absurd zc1 z.1)
    | (refine Eq.symm (bI_f ?_); intro z; exact absurd zc7 (Int32.not_le.mpr (h13.mpr z.2)))
  · refine g_iload_n (i := 0) dX10_isKind_4 rfl rfl ?_
    refine g_bipush (v := 13) dX10_isKind_5 (by decide) ?_
    refine g_icmp_ge (tgt := 14) dX10_isKind_7 (by decide) (fun zc7 => ?_) (fun zc7 => ?_)
    · refine g_iconst (v := 0) dX10_isKind_14 (by decide) ?_
      refine g_zret dX10_isKind_15 rfl (rfl) ?_
      refine ⟨_, rfl, ?_, rfl⟩
      first
      | (refine Eq.symm (bI_t ?_); exact ⟨zc1, h13.mp (Int32.not_le.mp zc7)⟩)
      | (refine Eq.symm (bI_f ?_); intro z; exact absurd zc1 z.1)
      | (refine Eq.symm (bI_f ?_); intro z; exact absurd zc7 (Int32.not_le.mpr (h13.mpr z.2)))
    · refine g_iconst (v := 1) dX10_isKind_10 (by decide) ?_
      refine g_goto (tgt := 15) dX10_isKind_11 (by decide) ?_
      refine g_zret dX10_isKind_15 rfl (rfl) ?_
      refine ⟨_, rfl, ?_, rfl⟩
      first
      | (refine Eq.symm (bI_t ?_); exact ⟨zc1, h13.mp (Int32.not_le.mp zc7)⟩)
      | (refine Eq.symm (bI_f ?_); intro z; exact absurd zc1 z.1)
      | (refine Eq.symm (bI_f ?_); intro z; exact absurd zc7 (Int32.not_le.mpr (h13.mpr z.2)))
/-- a new act's object -/
theorem AcC.mk {σ : gH} {ow : Nat → Nat} {q : Nat} (c : cA) : AcC (su σ q (gO 0 [.int (nI (c.1.1 - 1)), .int (nI c.1.2.1), .int (nI c.1.2.2.1), .long c.1.2.2.2.1, va_rf c.2])) (va_up ow q 51) q c := ⟨su_self _ _ _, va_up_self _ _ _⟩
theorem RCx.hs {σ : gH} {ow : Nat → Nat} {x : Nat} {A : aA} {ad hk : Nat → Nat} {cs : List cA} {ff : Nat → Option Nat} (q : RCx σ ow x A ad hk cs ff) : ∃ aa, σ (ad 6) = some (gO 3 [.ref aa, .int (nI cs.length)]) := by
  obtain ⟨aa, af, h1, -⟩ := q.2.2.2.2.2.2.1.1
  exact ⟨aa, h1.1⟩
section CPub2
variable {l : Launch} {τ : gH} {x : Nat} {A : aA}
theorem c_X10_price (hR : RC τ x A) (k c : Int32) : Ct l mX10_price 2 1 5 [.ref x, .int k, .int c] τ (pI (cP x (sPrice A k c))) := by
  obtain ⟨ow, ad, hk, cs, ff, hR⟩ := hR
  refine Ct_of moX10_price [some (.ref x), some (.int k), some (.int c), none] rfl (Nat.le_of_ble_eq_true rfl) ?_
  by_cases hh : (¬ k < 0 ∧ k ≤ 12) ∧ (¬ c < 1 ∧ c ≤ 50)
  · obtain ⟨j, hj, rfl⟩ := ixle 12 (by decide) hh.1.1 hh.1.2
    have hcj : (nI j).toNatClampNeg = j := nI_clamp (by omega)
    have hv : sPrice A (nI j) c = (A.2.1 j, aNote (A.1, va_up A.2.1 j c, A.2.2) (3, j, 0, (A.2.1 j).toInt64, (0, []))) := by
      unfold sPrice
      rw [if_pos hh, hcj]
    rw [hv]
    have hI : vp_in (nI j) 13 := vp_in_nI (by omega) (by decide)
    obtain ⟨pf, p1, p2⟩ := hR.2.2.1
    have hR2 : RCx (su τ (ad 2) (gAi 13 (upd pf (nI j).toNatClampNeg c))) ow x (A.1, va_up A.2.1 j c, A.2.2) ad hk cs ff := by
      have hs : Sm (fun m => m = 2) τ ow (su τ (ad 2) (gAi 13 (upd pf (nI j).toNatClampNeg c))) ow := Sm.stp p1.2 _
      obtain ⟨h1, h2, h3, h4, h5, h6, ⟨h7, h8, h9⟩, h10, h11, h12, h13⟩ := hR
      refine ⟨h1.mono hs (by decide), h2.mono hs (by decide) (fun m _ _ => by omega), ⟨_, p1.up _, fun q hq => ?_⟩, h4.mono hs (by decide), h5.mono hs (by decide) (by decide) (fun m _ => by omega), h6.mono hs (by decide) (by omega), ⟨h7.mono hs (by decide) (by decide) (by decide), h8, h9.mono hs (by decide) (fun m _ => by omega)⟩, h10, h11.mono hs (fun m _ _ _ => by omega), h12.mono hs (by decide), h13⟩
      rw [hcj]
      show upd pf j c q = va_up A.2.1 j c q
      by_cases e : q = j
      · subst e; rw [pk_us, va_up_self]
      · rw [pk_un e, va_up_ne _ _ e]; exact p2 q hq
    refine g_iload_n (i := 1) dX10_price_0 rfl rfl ?_
    refine g_callSi (My := mX10_isKind) [_] dX10_price_1 lkX10_79 mvX10_isKind rfl (c_X10_isKind _) (by decide) (by decide) (by decide) rfl (Nat.le_of_ble_eq_true rfl) (fun zr1 σ zh1 => ?_)
    obtain ⟨ze1, zf1⟩ := zh1
    rw [ze1, zf1]
    refine g_if_eq (tgt := 18) dX10_price_4 (by decide) (fun zc4 => ?_) (fun zc4 => ?_)
    · exact absurd hh.1 (bI_eq0.mp zc4)
    · refine g_iload_n (i := 2) dX10_price_7 rfl rfl ?_
      refine g_iconst (v := 1) dX10_price_8 (by decide) ?_
      refine g_icmp_lt (tgt := 18) dX10_price_9 (by decide) (fun zc9 => ?_) (fun zc9 => ?_)
      · exact absurd zc9 hh.2.1
      · refine g_iload_n (i := 2) dX10_price_12 rfl rfl ?_
        refine g_bipush (v := 50) dX10_price_13 (by decide) ?_
        refine g_icmp_le (tgt := 20) dX10_price_15 (by decide) (fun zc15 => ?_) (fun zc15 => ?_)
        · refine g_aload_n (i := 0) dX10_price_20 rfl rfl ?_
          refine g_getf dX10_price_21 flX10_15 (by first | exact hR.1.1 | exact p1.1 | exact hR2.1.1) rfl ?_
          refine g_iload_n (i := 1) dX10_price_24 rfl rfl ?_
          refine g_iald dX10_price_25 (by first | exact hR.1.1 | exact p1.1 | exact hR2.1.1) (hI) ?_
          refine g_toi (A.2.1 j) (by rw [hcj]; exact p2 j (by omega)) ?_
          refine g_istore_n (i := 3) (ls' := [_, _, _, _]) dX10_price_26 rfl (by decide) rfl rfl ?_
          refine g_aload_n (i := 0) dX10_price_27 rfl rfl ?_
          refine g_getf dX10_price_28 flX10_15 (by first | exact hR.1.1 | exact p1.1 | exact hR2.1.1) rfl ?_
          refine g_iload_n (i := 1) dX10_price_31 rfl rfl ?_
          refine g_iload_n (i := 2) dX10_price_32 rfl rfl ?_
          refine g_iast dX10_price_33 (by first | exact hR.1.1 | exact p1.1 | exact hR2.1.1) (hI) ?_
          refine g_aload_n (i := 0) dX10_price_34 rfl rfl ?_
          refine g_getf dX10_price_35 flX10_39 (by first | exact hR.1.1 | exact p1.1 | exact hR2.1.1) rfl ?_
          refine g_new dX10_price_38 nwX10_100 (by decide) (by decide) (fun zq38 zhq38 => ?_)
          have hR3 := hR2.new (Sm.none zhq38 (gO 0 [.int 0, .int 0, .int 0, .long 0, .null]) 51)
          refine g_dup dX10_price_41 rfl ?_
          refine g_iconst (v := 2) dX10_price_42 (by decide) ?_
          refine g_iload_n (i := 1) dX10_price_43 rfl rfl ?_
          refine g_iconst (v := 0) dX10_price_44 (by decide) ?_
          refine g_iload_n (i := 3) dX10_price_45 rfl rfl ?_
          refine g_i2l dX10_price_46 ?_
          refine g_null dX10_price_47 ?_
          refine g_callIv (My := mX0_init) [_, _, _, _, _] dX10_price_48 lkX10_102 mvX0_init rfl (c_X0_initN (su_self _ _ _) _ _ _ _) (by decide) (by decide) (by decide) rfl (Nat.le_of_ble_eq_true rfl) (fun σ zh48 => ?_)
          rw [zh48, su_su]
          have hR4 := hR2.new (Sm.none zhq38 (gO 0 [.int 2, .int (nI j), .int 0, .long (A.2.1 j).toInt64, .null]) 51)
          have hq := AcC.mk (σ := su τ (ad 2) (gAi 13 (upd pf (nI j).toNatClampNeg c))) (ow := ow) (q := zq38) ((3, j, 0, (A.2.1 j).toInt64, (0, [])), none)
          refine g_callVv (My := mX4_add) [_] dX10_price_51 lkX10_105 mvX4_add rfl (hR4.hs.choose_spec) rfl (c_note hR4 hq (show ¬ (3 : Nat) = 5 by decide) (fun z : (3 : Nat) = 6 => absurd z (by decide))) (by decide) (by decide) (by decide) rfl (Nat.le_of_ble_eq_true rfl) (fun σ zh51 => ?_)
          obtain ⟨-, hR5⟩ := zh51
          refine g_iload_n (i := 3) dX10_price_54 rfl rfl ?_
          refine g_iret dX10_price_55 rfl ?_
          exact ⟨_, rfl, rfl, hR5.rc⟩
        · exact absurd hh.2.2 zc15
  · have hv : sPrice A k c = (-1, A) := by
      unfold sPrice
      rw [if_neg hh]
    rw [hv]
    refine g_iload_n (i := 1) dX10_price_0 rfl rfl ?_
    refine g_callSi (My := mX10_isKind) [_] dX10_price_1 lkX10_79 mvX10_isKind rfl (c_X10_isKind _) (by decide) (by decide) (by decide) rfl (Nat.le_of_ble_eq_true rfl) (fun zr1 σ zh1 => ?_)
    obtain ⟨rfl, rfl⟩ := zh1
    refine g_if_eq (tgt := 18) dX10_price_4 (by decide) (fun zc4 => ?_) (fun zc4 => ?_)
    · refine g_iconst (v := (-1)) dX10_price_18 (by decide) ?_
      refine g_iret dX10_price_19 rfl ?_
      exact ⟨_, rfl, rfl, hR.rc⟩
    · refine g_iload_n (i := 2) dX10_price_7 rfl rfl ?_
      refine g_iconst (v := 1) dX10_price_8 (by decide) ?_
      refine g_icmp_lt (tgt := 18) dX10_price_9 (by decide) (fun zc9 => ?_) (fun zc9 => ?_)
      · refine g_iconst (v := (-1)) dX10_price_18 (by decide) ?_
        refine g_iret dX10_price_19 rfl ?_
        exact ⟨_, rfl, rfl, hR.rc⟩
      · refine g_iload_n (i := 2) dX10_price_12 rfl rfl ?_
        refine g_bipush (v := 50) dX10_price_13 (by decide) ?_
        refine g_icmp_le (tgt := 20) dX10_price_15 (by decide) (fun zc15 => ?_) (fun zc15 => ?_)
        · exact absurd ⟨bI_ne0.mp zc4, zc9, zc15⟩ hh
        · refine g_iconst (v := (-1)) dX10_price_18 (by decide) ?_
          refine g_iret dX10_price_19 rfl ?_
          exact ⟨_, rfl, rfl, hR.rc⟩
theorem c_X10_tell (hR : RC τ x A) (p : Int32) (v : Int64) : Ct l mX10_tell 2 1 5 [.ref x, .int p, .long v] τ (pL (cPl x (sTell A p v))) := by
  have h4 : p < 4 ↔ p ≤ 3 := by
    rw [Int32.lt_iff_toInt_lt, Int32.le_iff_toInt_le, show (4 : Int32).toInt = 4 from by decide, show (3 : Int32).toInt = 3 from by decide]
    omega
  obtain ⟨ow, ad, hk, cs, ff, hR⟩ := hR
  refine Ct_of moX10_tell [some (.ref x), some (.int p), some (.long v), none, none, none] rfl (Nat.le_of_ble_eq_true rfl) ?_
  by_cases hh : ¬ p < 0 ∧ p ≤ 3
  · obtain ⟨j, hj, rfl⟩ := ixle 3 (by decide) hh.1 hh.2
    have hcj : (nI j).toNatClampNeg = j := nI_clamp (by omega)
    have hv : sTell A (nI j) v = (A.2.2.1 j, aNote (A.1, A.2.1, va_up A.2.2.1 j v, A.2.2.2) (4, j, 0, A.2.2.1 j, (0, []))) := by
      unfold sTell
      rw [if_pos hh, hcj]
    rw [hv]
    have hI : vp_in (nI j) 4 := vp_in_nI (by omega) (by decide)
    obtain ⟨tf, p1, p2⟩ := hR.2.2.2.1
    have hR2 : RCx (su τ (ad 3) (gAl 4 (vp_updL tf (nI j).toNatClampNeg v))) ow x (A.1, A.2.1, va_up A.2.2.1 j v, A.2.2.2) ad hk cs ff := by
      have hs : Sm (fun m => m = 3) τ ow (su τ (ad 3) (gAl 4 (vp_updL tf (nI j).toNatClampNeg v))) ow := Sm.stp p1.2 _
      obtain ⟨h1, h2, h3, h4, h5, h6, ⟨h7, h8, h9⟩, h10, h11, h12, h13⟩ := hR
      refine ⟨h1.mono hs (by decide), h2.mono hs (by decide) (fun m _ _ => by omega), h3.mono hs (by decide), ⟨_, p1.up _, fun q hq => ?_⟩, h5.mono hs (by decide) (by decide) (fun m _ => by omega), h6.mono hs (by decide) (by omega), ⟨h7.mono hs (by decide) (by decide) (by decide), h8, h9.mono hs (by decide) (fun m _ => by omega)⟩, h10, h11.mono hs (fun m _ _ _ => by omega), h12.mono hs (by decide), h13⟩
      rw [hcj]
      show vp_updL tf j v q = va_up A.2.2.1 j v q
      by_cases e : q = j
      · subst e; rw [pk_uLs, va_up_self]
      · rw [pk_uLn e, va_up_ne _ _ e]; exact p2 q hq
    refine g_iload_n (i := 1) dX10_tell_0 rfl rfl ?_
    refine g_if_lt (tgt := 9) dX10_tell_1 (by decide) (fun zc1 => ?_) (fun zc1 => ?_)
    · exact absurd zc1 hh.1
    · refine g_iload_n (i := 1) dX10_tell_4 rfl rfl ?_
      refine g_iconst (v := 4) dX10_tell_5 (by decide) ?_
      refine g_icmp_lt (tgt := 11) dX10_tell_6 (by decide) (fun zc6 => ?_) (fun zc6 => ?_)
      · refine g_aload_n (i := 0) dX10_tell_11 rfl rfl ?_
        refine g_getf dX10_tell_12 flX10_19 (by first | exact hR.1.1 | exact p1.1 | exact hR2.1.1) rfl ?_
        refine g_iload_n (i := 1) dX10_tell_15 rfl rfl ?_
        refine g_lald dX10_tell_16 (by first | exact hR.1.1 | exact p1.1 | exact hR2.1.1) (hI) ?_
        refine g_tol (A.2.2.1 j) (by rw [hcj]; exact p2 j (by omega)) ?_
        refine g_lstore (ls' := [_, _, _, _, _, _]) dX10_tell_17 (by decide) rfl rfl ?_
        refine g_aload_n (i := 0) dX10_tell_19 rfl rfl ?_
        refine g_getf dX10_tell_20 flX10_19 (by first | exact hR.1.1 | exact p1.1 | exact hR2.1.1) rfl ?_
        refine g_iload_n (i := 1) dX10_tell_23 rfl rfl ?_
        refine g_lload_n (i := 2) dX10_tell_24 rfl rfl ?_
        refine g_last dX10_tell_25 (by first | exact hR.1.1 | exact p1.1 | exact hR2.1.1) (hI) ?_
        refine g_aload_n (i := 0) dX10_tell_26 rfl rfl ?_
        refine g_getf dX10_tell_27 flX10_39 (by first | exact hR.1.1 | exact p1.1 | exact hR2.1.1) rfl ?_
        refine g_new dX10_tell_30 nwX10_100 (by decide) (by decide) (fun zq30 zhq30 => ?_)
        refine g_dup dX10_tell_33 rfl ?_
        refine g_iconst (v := 3) dX10_tell_34 (by decide) ?_
        refine g_iload_n (i := 1) dX10_tell_35 rfl rfl ?_
        refine g_iconst (v := 0) dX10_tell_36 (by decide) ?_
        refine g_lload dX10_tell_37 rfl ?_
        refine g_null dX10_tell_39 ?_
        refine g_callIv (My := mX0_init) [_, _, _, _, _] dX10_tell_40 lkX10_102 mvX0_init rfl (c_X0_initN (su_self _ _ _) _ _ _ _) (by decide) (by decide) (by decide) rfl (Nat.le_of_ble_eq_true rfl) (fun σ zh40 => ?_)
        rw [zh40, su_su]
        have hR4 := hR2.new (Sm.none zhq30 (gO 0 [.int 3, .int (nI j), .int 0, .long (A.2.2.1 j), .null]) 51)
        have hq := AcC.mk (σ := su τ (ad 3) (gAl 4 (vp_updL tf (nI j).toNatClampNeg v))) (ow := ow) (q := zq30) ((4, j, 0, A.2.2.1 j, (0, [])), none)
        refine g_callVv (My := mX4_add) [_] dX10_tell_43 lkX10_105 mvX4_add rfl (hR4.hs.choose_spec) rfl (c_note hR4 hq (show ¬ (4 : Nat) = 5 by decide) (fun z : (4 : Nat) = 6 => absurd z (by decide))) (by decide) (by decide) (by decide) rfl (Nat.le_of_ble_eq_true rfl) (fun σ zh43 => ?_)
        obtain ⟨-, hR5⟩ := zh43
        refine g_lload dX10_tell_46 rfl ?_
        refine g_lret dX10_tell_48 rfl ?_
        exact ⟨_, rfl, rfl, hR5.rc⟩
      · exact absurd (h4.mpr hh.2) zc6
  · have hv : sTell A p v = (0, A) := by
      unfold sTell
      rw [if_neg hh]
    rw [hv]
    refine g_iload_n (i := 1) dX10_tell_0 rfl rfl ?_
    refine g_if_lt (tgt := 9) dX10_tell_1 (by decide) (fun zc1 => ?_) (fun zc1 => ?_)
    · refine g_lconst (v := 0) dX10_tell_9 (by decide) ?_
      refine g_lret dX10_tell_10 rfl ?_
      exact ⟨_, rfl, rfl, hR.rc⟩
    · refine g_iload_n (i := 1) dX10_tell_4 rfl rfl ?_
      refine g_iconst (v := 4) dX10_tell_5 (by decide) ?_
      refine g_icmp_lt (tgt := 11) dX10_tell_6 (by decide) (fun zc6 => ?_) (fun zc6 => ?_)
      · exact absurd ⟨zc1, h4.mp zc6⟩ hh
      · refine g_lconst (v := 0) dX10_tell_9 (by decide) ?_
        refine g_lret dX10_tell_10 rfl ?_
        exact ⟨_, rfl, rfl, hR.rc⟩
theorem lp_X10_cost {ow : Nat → Nat} {ad hk : Nat → Nat} {cs : List cA} {ff : Nat → Option Nat} (hR : RCx τ ow x A ad hk cs ff) {b : Nat} {g : aF} {vb vc : Value} {ka : Nat} {kf : Nat → Int32} (hw : wfF g) (p1 : τ b = some (gO 2 [.int g.1, .int (nI g.2.length), .ref ka, vb, vc])) (p2 : τ ka = some (gAi 12 kf)) (hst : ∀ (k : Nat) (s : aSt), g.2[k]? = some s → kf k = s.1) (f : Option Value) {post : Option Value → gH → Prop} (hp : post (some (.int (aCost A.2.1 g.2))) τ) : ∀ (n k : Nat) (acc : Int32), k + n = g.2.length → acc + aCost A.2.1 (g.2.drop k) = aCost A.2.1 g.2 → G l mX10_cost 2 0 0 post τ 17 [some (.ref x), f, some (.ref b), some (.int acc), some (.int (nI k))] [] := by
  have h12 := hw.2.1
  obtain ⟨pf, q1, q2⟩ := hR.2.2.1
  intro n
  induction n with
  | zero =>
    intro k acc hk' he
    obtain rfl : k = g.2.length := by omega
    rw [List.drop_length] at he
    have : acc = aCost A.2.1 g.2 := by rw [← he]; simp [aCost]
    subst this
    refine g_iload dX10_cost_17 rfl ?_
    refine g_aload_n (i := 2) dX10_cost_19 rfl rfl ?_
    refine g_getf dX10_cost_20 flX10_82 (p1) rfl ?_
    refine g_icmp_ge (tgt := 47) dX10_cost_23 (by decide) (fun zc23 => ?_) (fun zc23 => ?_)
    · refine g_iload_n (i := 3) dX10_cost_47 rfl rfl ?_
      refine g_iret dX10_cost_48 rfl ?_
      exact hp
    · exact absurd (nI_le (Nat.le_refl _) (by omega)) zc23
  | succ n ih =>
    intro k acc hk' he
    have hkl : k < g.2.length := by omega
    obtain ⟨s, hs⟩ : ∃ s, g.2[k]? = some s := ⟨_, List.getElem?_eq_getElem hkl⟩
    obtain ⟨⟨cc, hcc, ec⟩, -⟩ := hw.2.2 k s hs
    have hck : (nI k).toNatClampNeg = k := nI_clamp (by omega)
    have hcc' : (nI cc).toNatClampNeg = cc := nI_clamp (by omega)
    have hdr : g.2.drop k = s :: g.2.drop (k + 1) := by
      rw [List.drop_eq_getElem_cons hkl]
      congr 1
      exact Option.some.inj ((List.getElem?_eq_getElem hkl).symm.trans hs)
    refine g_iload dX10_cost_17 rfl ?_
    refine g_aload_n (i := 2) dX10_cost_19 rfl rfl ?_
    refine g_getf dX10_cost_20 flX10_82 (by first | exact p1 | exact p2 | exact hR.1.1 | exact q1.1) rfl ?_
    refine g_icmp_ge (tgt := 47) dX10_cost_23 (by decide) (fun zc23 => ?_) (fun zc23 => ?_)
    · exact absurd zc23 (nI_ge (by omega) (by omega))
    · refine g_iload_n (i := 3) dX10_cost_26 rfl rfl ?_
      refine g_aload_n (i := 0) dX10_cost_27 rfl rfl ?_
      refine g_getf dX10_cost_28 flX10_15 (by first | exact p1 | exact p2 | exact hR.1.1 | exact q1.1) rfl ?_
      refine g_aload_n (i := 2) dX10_cost_31 rfl rfl ?_
      refine g_getf dX10_cost_32 flX10_137 (by first | exact p1 | exact p2 | exact hR.1.1 | exact q1.1) rfl ?_
      refine g_iload dX10_cost_35 rfl ?_
      refine g_iald dX10_cost_37 (by first | exact p1 | exact p2 | exact hR.1.1 | exact q1.1) ((vp_in_nI (show k < 12 by omega) (by decide) : vp_in (nI k) 12)) ?_
      refine g_toi (nI cc) (by rw [hck, hst k s hs]; exact ec) ?_
      refine g_iald dX10_cost_38 (by first | exact p1 | exact p2 | exact hR.1.1 | exact q1.1) ((vp_in_nI (show cc < 13 by omega) (by decide) : vp_in (nI cc) 13)) ?_
      refine g_toi (A.2.1 cc) (by rw [hcc']; exact q2 cc (by omega)) ?_
      refine g_iadd dX10_cost_39 ?_
      refine g_istore_n (i := 3) (ls' := [_, _, _, _, _]) dX10_cost_40 rfl (by decide) rfl rfl ?_
      refine g_iinc (v := _ + 1) (ls' := [_, _, _, _, _]) dX10_cost_41 rfl rfl (by decide) rfl rfl ?_
      refine g_goto (tgt := 17) dX10_cost_44 (by decide) ?_
      refine g_cl (by rw [nI_1]) (ih (k + 1) _ (by omega) ?_)
      rw [← he, hdr]
      show acc + A.2.1 cc + aCost A.2.1 (g.2.drop (k + 1)) = acc + (A.2.1 s.1.toNatClampNeg + aCost A.2.1 (g.2.drop (k + 1)))
      rw [ec, hcc', Int32.add_assoc]
theorem c_X10_cost (hR : RC τ x A) (hw : wfA A) (f : Int32) : Ct l mX10_cost 2 0 0 [.ref x, .int f] τ (pI (cP x (sCost A f, A))) := by
  obtain ⟨ow, ad, hk, cs, ff, hR⟩ := hR
  refine Ct_of moX10_cost [some (.ref x), some (.int f), none, none, none] rfl (Nat.le_of_ble_eq_true rfl) ?_
  rcases aForm_cases A hR.2.1.2.1 f with ⟨hh, hn⟩ | ⟨j, g, hj, rfl, hg, ha⟩
  · refine g_aload_n (i := 0) dX10_cost_0 rfl rfl ?_
    refine g_iload_n (i := 1) dX10_cost_1 rfl rfl ?_
    refine g_callVq (My := mX10_formAt) [_] dX10_cost_2 lkX10_76 mvX10_formAt rfl (hR.1.1) rfl (c_X10_formAt0 hR hh) (by decide) (by decide) (by decide) rfl (Nat.le_of_ble_eq_true rfl) (fun zr2 σ zh2 => ?_)
    obtain ⟨rfl, rfl⟩ := zh2
    refine g_astore_nN (i := 2) (ls' := [_, _, _, _, _]) dX10_cost_5 rfl (by decide) rfl rfl ?_
    refine g_aload_nN (i := 2) dX10_cost_6 rfl rfl ?_
    refine g_ifnonnullN dX10_cost_7 ?_
    refine g_iconst (v := (-1)) dX10_cost_10 (by decide) ?_
    refine g_iret dX10_cost_11 rfl ?_
    exact ⟨_, rfl, by simp only [sCost, hn], hR.rc⟩
  · obtain ⟨b, ka, xa, ya, kf, xf, yf, hb, p1, p2, p3, p4, hst, h12⟩ := hR.form hg
    have hv : sCost A (nI j) = aCost A.2.1 g.2 := by simp only [sCost, ha]
    rw [hv]
    refine g_aload_n (i := 0) dX10_cost_0 rfl rfl ?_
    refine g_iload_n (i := 1) dX10_cost_1 rfl rfl ?_
    refine g_callVq (My := mX10_formAt) [_] dX10_cost_2 lkX10_76 mvX10_formAt rfl (by first | exact hR.1.1 | exact p1.1) rfl (c_X10_formAt1 hR hj hb) (by decide) (by decide) (by decide) rfl (Nat.le_of_ble_eq_true rfl) (fun zr2 σ zh2 => ?_)
    obtain ⟨ze2, zf2⟩ := zh2
    rw [ze2, zf2]
    refine g_tor b rfl ?_
    refine g_astore_n (i := 2) (ls' := [_, _, _, _, _]) dX10_cost_5 rfl (by decide) rfl rfl ?_
    refine g_aload_n (i := 2) dX10_cost_6 rfl rfl ?_
    refine g_ifnonnull (tgt := 12) dX10_cost_7 (by decide) ?_
    refine g_iconst (v := 0) dX10_cost_12 (by decide) ?_
    refine g_istore_n (i := 3) (ls' := [_, _, _, _, _]) dX10_cost_13 rfl (by decide) rfl rfl ?_
    refine g_iconst (v := 0) dX10_cost_14 (by decide) ?_
    refine g_istore (ls' := [_, _, _, _, _]) dX10_cost_15 (by decide) rfl rfl ?_
    exact lp_X10_cost hR (hw j g hg) p1.1 p2.1 (fun k s hs => (hst k s hs).1) _ ⟨_, rfl, rfl, hR.rc⟩ _ 0 0 (Nat.zero_add _) (by simp)
theorem c_X10_run (hR : RC τ x A) (hw : wfA A) (f : Int32) (v : Int64) : Ct l mX10_run 5 0 0 [.ref x, .int f, .long v] τ (pL (cPl x (sRun A f v, A))) := by
  obtain ⟨ow, ad, hk, cs, ff, hR⟩ := hR
  refine Ct_of moX10_run [some (.ref x), some (.int f), some (.long v), none, none] rfl (Nat.le_of_ble_eq_true rfl) ?_
  rcases aForm_cases A hR.2.1.2.1 f with ⟨hh, hn⟩ | ⟨j, g, hj, rfl, hg, ha⟩
  · have hv : sRun A f v = 0 := by simp only [sRun, hn]
    rw [hv]
    refine g_aload_n (i := 0) dX10_run_0 rfl rfl ?_
    refine g_iload_n (i := 1) dX10_run_1 rfl rfl ?_
    refine g_callVq (My := mX10_formAt) [_] dX10_run_2 lkX10_76 mvX10_formAt rfl (hR.1.1) rfl (c_X10_formAt0 hR hh) (by decide) (by decide) (by decide) rfl (Nat.le_of_ble_eq_true rfl) (fun zr2 σ zh2 => ?_)
    obtain ⟨rfl, rfl⟩ := zh2
    refine g_astoreN (ls' := [_, _, _, _, _]) dX10_run_5 (by decide) rfl rfl ?_
    refine g_aloadN dX10_run_7 rfl ?_
    refine g_ifnonnullN dX10_run_9 ?_
    refine g_lconst (v := 0) dX10_run_12 (by decide) ?_
    refine g_lret dX10_run_13 rfl ?_
    exact ⟨_, rfl, rfl, hR.rc⟩
  · obtain ⟨b, ka, xa, ya, kf, xf, yf, hb, p1, p2, p3, p4, hst, h12⟩ := hR.form hg
    have hv : sRun A (nI j) v = opA g.1 g.2 v g.2.length g.2.length := by simp only [sRun, ha]
    rw [hv]
    obtain ⟨mk0, hma⟩ := hR.2.2.2.2.2.2.2.2.2.1
    have hcl : (nI g.2.length).toNatClampNeg = g.2.length := nI_clamp (by omega)
    refine g_aload_n (i := 0) dX10_run_0 rfl rfl ?_
    refine g_iload_n (i := 1) dX10_run_1 rfl rfl ?_
    refine g_callVq (My := mX10_formAt) [_] dX10_run_2 lkX10_76 mvX10_formAt rfl (by first | exact hR.1.1 | exact p1.1) rfl (c_X10_formAt1 hR hj hb) (by decide) (by decide) (by decide) rfl (Nat.le_of_ble_eq_true rfl) (fun zr2 σ zh2 => ?_)
    obtain ⟨ze2, zf2⟩ := zh2
    rw [ze2, zf2]
    refine g_tor b rfl ?_
    refine g_astore (ls' := [_, _, _, _, _]) dX10_run_5 (by decide) rfl rfl ?_
    refine g_aload dX10_run_7 rfl ?_
    refine g_ifnonnull (tgt := 14) dX10_run_9 (by decide) ?_
    refine g_aload dX10_run_14 rfl ?_
    refine g_lload_n (i := 2) dX10_run_16 rfl rfl ?_
    refine g_aload dX10_run_17 rfl ?_
    refine g_getf dX10_run_19 flX10_82 (by first | exact hR.1.1 | exact p1.1) rfl ?_
    refine g_aload_n (i := 0) dX10_run_22 rfl rfl ?_
    refine g_getf dX10_run_23 flX10_50 (by first | exact hR.1.1 | exact p1.1) rfl ?_
    refine g_callVv (My := mX3_work) [_, _, _] dX10_run_26 lkX10_146 mvX3_work rfl (by first | exact hR.1.1 | exact p1.1) rfl (c_X3_work (hw j g hg) p1.1 p2.1 p3.1 p4.1 hma.1 (Nat.le_refl _) hst v) (by decide) (by decide) (by decide) rfl (Nat.le_of_ble_eq_true rfl) (fun σ zh26 => ?_)
    obtain ⟨mk, ze26, hmk⟩ := zh26
    have hs : Sm (fun m => m = 9) τ ow (su τ (ad 9) (gAl 13 mk)) ow := Sm.stp hma.2 _
    have hR1 := hR.oth hs ⟨mk, hma.up _⟩
    have p1' := p1.mono hs (by omega)
    rw [ze26]
    refine g_aload_n (i := 0) dX10_run_29 rfl rfl ?_
    refine g_getf dX10_run_30 flX10_50 (hR1.1.1) rfl ?_
    refine g_aload dX10_run_33 rfl ?_
    refine g_getf dX10_run_35 flX10_82 (p1'.1) rfl ?_
    refine g_lald dX10_run_38 (su_self _ _ _) ((vp_in_nI (show g.2.length < 13 by omega) (by decide) : vp_in (nI g.2.length) 13)) ?_
    refine g_lret dX10_run_39 rfl ?_
    exact ⟨_, rfl, by rw [hcl]; exact hmk _ (Nat.le_refl _), hR1.rc⟩
theorem c_X10_end (hR : RC τ x A) (hw : wfA A) (f : Int32) (v : Int64) (k : Int32) : Ct l mX10_end 5 0 0 [.ref x, .int f, .long v, .int k] τ (pL (cPl x (sEnd A f v k, A))) := by
  obtain ⟨ow, ad, hk, cs, ff, hR⟩ := hR
  refine Ct_of moX10_end [some (.ref x), some (.int f), some (.long v), none, some (.int k), none] rfl (Nat.le_of_ble_eq_true rfl) ?_
  rcases aForm_cases A hR.2.1.2.1 f with ⟨hh, hn⟩ | ⟨j, g, hj, rfl, hg, ha⟩
  · have hv : sEnd A f v k = 0 := by simp only [sEnd, hn]
    rw [hv]
    refine g_aload_n (i := 0) dX10_end_0 rfl rfl ?_
    refine g_iload_n (i := 1) dX10_end_1 rfl rfl ?_
    refine g_callVq (My := mX10_formAt) [_] dX10_end_2 lkX10_76 mvX10_formAt rfl (hR.1.1) rfl (c_X10_formAt0 hR hh) (by decide) (by decide) (by decide) rfl (Nat.le_of_ble_eq_true rfl) (fun zr2 σ zh2 => ?_)
    obtain ⟨rfl, rfl⟩ := zh2
    refine g_astoreN (ls' := [_, _, _, _, _, _]) dX10_end_5 (by decide) rfl rfl ?_
    refine g_aloadN dX10_end_7 rfl ?_
    refine g_ifnullN (tgt := 22) dX10_end_9 (by decide) ?_
    refine g_lconst (v := 0) dX10_end_22 (by decide) ?_
    refine g_lret dX10_end_23 rfl ?_
    exact ⟨_, rfl, rfl, hR.rc⟩
  · obtain ⟨b, ka, xa, ya, kf, xf, yf, hb, p1, p2, p3, p4, hst, h12⟩ := hR.form hg
    obtain ⟨mk0, hma⟩ := hR.2.2.2.2.2.2.2.2.2.1
    by_cases hk' : k < 0 ∨ nI g.2.length ≤ k
    · have hv : sEnd A (nI j) v k = 0 := by simp only [sEnd, ha, if_pos hk']
      rw [hv]
      refine g_aload_n (i := 0) dX10_end_0 rfl rfl ?_
      refine g_iload_n (i := 1) dX10_end_1 rfl rfl ?_
      refine g_callVq (My := mX10_formAt) [_] dX10_end_2 lkX10_76 mvX10_formAt rfl (by first | exact hR.1.1 | exact p1.1) rfl (c_X10_formAt1 hR hj hb) (by decide) (by decide) (by decide) rfl (Nat.le_of_ble_eq_true rfl) (fun zr2 σ zh2 => ?_)
      obtain ⟨ze2, zf2⟩ := zh2
      rw [ze2, zf2]
      refine g_tor b rfl ?_
      refine g_astore (ls' := [_, _, _, _, _, _]) dX10_end_5 (by decide) rfl rfl ?_
      refine g_aload dX10_end_7 rfl ?_
      refine g_ifnull dX10_end_9 ?_
      refine g_aload dX10_end_12 rfl ?_
      refine g_iload dX10_end_14 rfl ?_
      refine g_callVi (My := mX3_hasStep) [_] dX10_end_16 lkX10_132 mvX3_hasStep rfl (by first | exact hR.1.1 | exact p1.1) rfl (c_X3_hasStep p1.1 _) (by decide) (by decide) (by decide) rfl (Nat.le_of_ble_eq_true rfl) (fun zr16 σ zh16 => ?_)
      obtain ⟨ze16, zf16⟩ := zh16
      rw [ze16, zf16]
      refine g_if_ne (tgt := 24) dX10_end_19 (by decide) (fun zc19 => ?_) (fun zc19 => ?_)
      · exact absurd (bI_ne0.mp zc19) (fun z => hk'.elim z.1 (fun q => absurd q (Int32.not_le.mpr z.2)))
      · refine g_lconst (v := 0) dX10_end_22 (by decide) ?_
        refine g_lret dX10_end_23 rfl ?_
        exact ⟨_, rfl, rfl, hR.rc⟩
    · obtain ⟨kk, hkl, rfl⟩ : ∃ kk : Nat, kk < g.2.length ∧ k = nI kk := by
        rcases ix3 k g.2.length (by omega) with q | q | q
        · exact absurd (Or.inl q) hk'
        · exact absurd (Or.inr q.2) hk'
        · exact q
      have hv : sEnd A (nI j) v (nI kk) = opA g.1 g.2 v (kk + 1) (kk + 1) := by simp only [sEnd, ha, if_neg hk', nI_clamp (show kk < 2 ^ 31 by omega)]
      rw [hv]
      have hcl : (nI (kk + 1)).toNatClampNeg = kk + 1 := nI_clamp (by omega)
      refine g_aload_n (i := 0) dX10_end_0 rfl rfl ?_
      refine g_iload_n (i := 1) dX10_end_1 rfl rfl ?_
      refine g_callVq (My := mX10_formAt) [_] dX10_end_2 lkX10_76 mvX10_formAt rfl (by first | exact hR.1.1 | exact p1.1) rfl (c_X10_formAt1 hR hj hb) (by decide) (by decide) (by decide) rfl (Nat.le_of_ble_eq_true rfl) (fun zr2 σ zh2 => ?_)
      obtain ⟨ze2, zf2⟩ := zh2
      rw [ze2, zf2]
      refine g_tor b rfl ?_
      refine g_astore (ls' := [_, _, _, _, _, _]) dX10_end_5 (by decide) rfl rfl ?_
      refine g_aload dX10_end_7 rfl ?_
      refine g_ifnull dX10_end_9 ?_
      refine g_aload dX10_end_12 rfl ?_
      refine g_iload dX10_end_14 rfl ?_
      refine g_callVi (My := mX3_hasStep) [_] dX10_end_16 lkX10_132 mvX3_hasStep rfl (by first | exact hR.1.1 | exact p1.1) rfl (c_X3_hasStep p1.1 _) (by decide) (by decide) (by decide) rfl (Nat.le_of_ble_eq_true rfl) (fun zr16 σ zh16 => ?_)
      obtain ⟨ze16, zf16⟩ := zh16
      rw [ze16, zf16]
      refine g_if_ne (tgt := 24) dX10_end_19 (by decide) (fun zc19 => ?_) (fun zc19 => ?_)
      · refine g_aload dX10_end_24 rfl ?_
        refine g_lload_n (i := 2) dX10_end_26 rfl rfl ?_
        refine g_iload dX10_end_27 rfl ?_
        refine g_iconst (v := 1) dX10_end_29 (by decide) ?_
        refine g_iadd dX10_end_30 ?_
        rw [nI_1]
        refine g_aload_n (i := 0) dX10_end_31 rfl rfl ?_
        refine g_getf dX10_end_32 flX10_50 (by first | exact hR.1.1 | exact p1.1) rfl ?_
        refine g_callVv (My := mX3_work) [_, _, _] dX10_end_35 lkX10_146 mvX3_work rfl (by first | exact hR.1.1 | exact p1.1) rfl (c_X3_work (hw j g hg) p1.1 p2.1 p3.1 p4.1 hma.1 (show kk + 1 ≤ g.2.length by omega) hst v) (by decide) (by decide) (by decide) rfl (Nat.le_of_ble_eq_true rfl) (fun σ zh35 => ?_)
        obtain ⟨mk, ze35, hmk⟩ := zh35
        have hs : Sm (fun m => m = 9) τ ow (su τ (ad 9) (gAl 13 mk)) ow := Sm.stp hma.2 _
        have hR1 := hR.oth hs ⟨mk, hma.up _⟩
        rw [ze35]
        refine g_aload_n (i := 0) dX10_end_38 rfl rfl ?_
        refine g_getf dX10_end_39 flX10_50 (hR1.1.1) rfl ?_
        refine g_iload dX10_end_42 rfl ?_
        refine g_iconst (v := 1) dX10_end_44 (by decide) ?_
        refine g_iadd dX10_end_45 ?_
        rw [nI_1]
        refine g_lald dX10_end_46 (su_self _ _ _) ((vp_in_nI (show kk + 1 < 13 by omega) (by decide) : vp_in (nI (kk + 1)) 13)) ?_
        refine g_lret dX10_end_47 rfl ?_
        exact ⟨_, rfl, by rw [hcl]; exact hmk _ (Nat.le_refl _), hR1.rc⟩
      · exact absurd ⟨nI_pos (by omega), nI_lt hkl (by omega)⟩ (bI_eq0.mp zc19)
theorem c_X10_plain (hR : RC τ x A) (w sg ws : Int32) (d v : Int64) : Ct l mX10_plain 5 1 4 [.ref x, .int w, .int sg, .int ws, .long d, .long v] τ (pL (cPl x (sPlain w sg ws d v, A))) := by
  obtain ⟨ow, ad, hk, cs, ff, hR⟩ := hR
  refine Ct_of moX10_plain [some (.ref x), some (.int w), some (.int sg), some (.int ws), some (.long d), none, some (.long v), none] rfl (Nat.le_of_ble_eq_true rfl) ?_
  by_cases hh : mIsA w sg ws d
  · have hv : sPlain w sg ws d v = mAns w ws (aQR w sg ws (mLow d w) (mLow v w)) := by
      unfold sPlain
      rw [if_pos hh]
    rw [hv, ← cAns_eq hh]
    refine g_iload_n (i := 1) dX10_plain_0 rfl rfl ?_
    refine g_iload_n (i := 2) dX10_plain_1 rfl rfl ?_
    refine g_iload_n (i := 3) dX10_plain_2 rfl rfl ?_
    refine g_lload dX10_plain_3 rfl ?_
    refine g_callSi (My := mX1_isAsking) [_, _, _, _] dX10_plain_5 lkX10_108 mvX1_isAsking rfl (c_X1_isAsking _ _ _ _) (by decide) (by decide) (by decide) rfl (Nat.le_of_ble_eq_true rfl) (fun zr5 σ zh5 => ?_)
    obtain ⟨ze5, zf5⟩ := zh5
    rw [ze5, zf5]
    refine g_if_ne (tgt := 13) dX10_plain_8 (by decide) (fun zc8 => ?_) (fun zc8 => ?_)
    · refine g_new dX10_plain_13 nwX10_109 (by decide) (by decide) (fun zq13 zhq13 => ?_)
      refine g_dup dX10_plain_16 rfl ?_
      refine g_iload_n (i := 1) dX10_plain_17 rfl rfl ?_
      refine g_iload_n (i := 2) dX10_plain_18 rfl rfl ?_
      refine g_iload_n (i := 3) dX10_plain_19 rfl rfl ?_
      refine g_lload dX10_plain_20 rfl ?_
      refine g_callIv (My := mX1_init) [_, _, _, _] dX10_plain_22 lkX10_116 mvX1_init rfl (c_X1_init (su_self _ _ _) _ _ _ _) (by decide) (by decide) (by decide) rfl (Nat.le_of_ble_eq_true rfl) (fun σ zh22 => ?_)
      rw [zh22, su_su]
      refine g_lload dX10_plain_25 rfl ?_
      refine g_callVl (My := mX1_answer) [_] dX10_plain_27 lkX10_150 mvX1_answer rfl (su_self _ _ _) rfl (c_X1_answer (su_self _ _ _) _) (by decide) (by decide) (by decide) rfl (Nat.le_of_ble_eq_true rfl) (fun zr27 σ zh27 => ?_)
      obtain ⟨ze27, zf27⟩ := zh27
      rw [ze27, zf27]
      refine g_lret dX10_plain_30 rfl ?_
      exact ⟨_, rfl, rfl, (hR.new (Sm.none zhq13 _ 400)).rc⟩
    · exact absurd hh (bI_eq0.mp zc8)
  · have hv : sPlain w sg ws d v = 0 := by
      unfold sPlain
      rw [if_neg hh]
    rw [hv]
    refine g_iload_n (i := 1) dX10_plain_0 rfl rfl ?_
    refine g_iload_n (i := 2) dX10_plain_1 rfl rfl ?_
    refine g_iload_n (i := 3) dX10_plain_2 rfl rfl ?_
    refine g_lload dX10_plain_3 rfl ?_
    refine g_callSi (My := mX1_isAsking) [_, _, _, _] dX10_plain_5 lkX10_108 mvX1_isAsking rfl (c_X1_isAsking _ _ _ _) (by decide) (by decide) (by decide) rfl (Nat.le_of_ble_eq_true rfl) (fun zr5 σ zh5 => ?_)
    obtain ⟨ze5, zf5⟩ := zh5
    rw [ze5, zf5]
    refine g_if_ne (tgt := 13) dX10_plain_8 (by decide) (fun zc8 => ?_) (fun zc8 => ?_)
    · exact absurd (bI_ne0.mp zc8) hh
    · refine g_lconst (v := 0) dX10_plain_11 (by decide) ?_
      refine g_lret dX10_plain_12 rfl ?_
      exact ⟨_, rfl, rfl, hR.rc⟩
end CPub2
