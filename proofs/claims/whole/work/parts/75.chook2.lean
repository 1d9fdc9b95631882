/-! the class: hook and use -/
theorem i32_eq {a b : Int32} (h1 : ¬ a < b) (h2 : a ≤ b) : a = b := by
  apply Int32.toInt_inj.mp
  rw [Int32.lt_iff_toInt_lt] at h1
  rw [Int32.le_iff_toInt_le] at h2
  omega
theorem kd25 {k : Int32} (h0 : ¬ k < 0) (h5 : k ≤ 5) (h0' : ¬ k ≤ 0) (h1 : ¬ k = 1) : k = 2 ∨ k = 3 ∨ k = 4 ∨ k = 5 := by
  obtain ⟨j, hj, rfl⟩ := ixle 5 (by decide) h0 h5
  rcases (show j = 0 ∨ j = 1 ∨ j = 2 ∨ j = 3 ∨ j = 4 ∨ j = 5 by omega) with rfl | rfl | rfl | rfl | rfl | rfl
  · exact absurd (by decide) h0'
  · exact absurd rfl h1
  · exact Or.inl rfl
  · exact Or.inr (Or.inl rfl)
  · exact Or.inr (Or.inr (Or.inl rfl))
  · exact Or.inr (Or.inr (Or.inr rfl))
theorem h6lt {how : Int32} (hlo : ¬ how < 0) (hhi : how ≤ 10) (h6 : ¬ how = 6) (h7 : ¬ how = 7) (h8 : ¬ how = 8) (h9 : ¬ how = 9) (h10 : ¬ how = 10) : how < 6 := by
  obtain ⟨j, hj, rfl⟩ := ixle 10 (by decide) hlo hhi
  have c6 : ¬ j = 6 := fun e => h6 (by rw [e]; rfl)
  have c7 : ¬ j = 7 := fun e => h7 (by rw [e]; rfl)
  have c8 : ¬ j = 8 := fun e => h8 (by rw [e]; rfl)
  have c9 : ¬ j = 9 := fun e => h9 (by rw [e]; rfl)
  have c10 : ¬ j = 10 := fun e => h10 (by rw [e]; rfl)
  exact nI_lt (b := 6) (by omega) (by decide)
theorem rem_m1 (a b : Int64) : (a - a / b * b).toInt32 = (if b = -1 then 0 else (a - a / b * b).toInt32) := by
  by_cases h : b = -1
  · rw [if_pos h, h, sdv_eq]
    have e : a - mSdv a (-1) * -1 = 0 := by
      apply uN_inj
      have ha := uN_lt a
      rw [mSdv, if_pos rfl, uN_sub, uN_mul, uN_neg, show uN (-1) = 18446744073709551615 from by decide, show uN 0 = 0 from by decide]
      omega
    rw [e]
    decide
  · rw [if_neg h]
section CHook2
variable {l : Launch} {τ : gH} {x : Nat} {A : aA}
theorem c_X10_hook (hR : RC τ x A) (hw : wfA A) (h kind f k : Int32) : Ct l mX10_hook 6 3 21 [.ref x, .int h, .int kind, .int f, .int k] τ (pI (cP x (sHook A h kind f k))) := by
  obtain ⟨ow, ad, hk, cs, ff, hR⟩ := hR
  have h60 := hR.2.1.2.1
  refine Ct_of moX10_hook [some (.ref x), some (.int h), some (.int kind), some (.int f), some (.int k), none, none] rfl (Nat.le_of_ble_eq_true rfl) ?_
  by_cases hc : (¬ h < 0 ∧ h < 8) ∧ ¬ kind < 0 ∧ kind ≤ 5
  · obtain ⟨j, hj, rfl⟩ := ix8 hc.1
    have hcj : (nI j).toNatClampNeg = j := nI_clamp (by omega)
    by_cases hk0 : kind ≤ 0
    · have hkz : kind = 0 := by
        apply Int32.toInt_inj.mp
        have h1 := hc.2.1
        rw [Int32.lt_iff_toInt_lt] at h1
        rw [Int32.le_iff_toInt_le] at hk0
        omega
      subst hkz
      have hv : sHook A (nI j) 0 f k = ((A.2.2.2.1 j).1, aSetHk (aNote A (5, j, 0, 0, A.2.2.2.1 j)) j (0, [])) := by
        unfold sHook
        rw [if_pos hc, if_pos hk0, hcj]
      rw [hv]
      refine g_iload_n (i := 1) dX10_hook_0 rfl rfl ?_
      refine g_if_lt (tgt := 19) dX10_hook_1 (by decide) (fun zc1 => ?_) (fun zc1 => ?_)
      · exact absurd zc1 hc.1.1
      · refine g_iload_n (i := 1) dX10_hook_4 rfl rfl ?_
        refine g_bipush (v := 8) dX10_hook_5 (by decide) ?_
        refine g_icmp_ge (tgt := 19) dX10_hook_7 (by decide) (fun zc7 => ?_) (fun zc7 => ?_)
        · exact absurd zc7 (Int32.not_le.mpr hc.1.2)
        · refine g_iload_n (i := 2) dX10_hook_10 rfl rfl ?_
          refine g_if_lt (tgt := 19) dX10_hook_11 (by decide) (fun zc11 => ?_) (fun zc11 => ?_)
          · exact absurd zc11 hc.2.1
          · refine g_iload_n (i := 2) dX10_hook_14 rfl rfl ?_
            refine g_iconst (v := 5) dX10_hook_15 (by decide) ?_
            refine g_icmp_le (tgt := 21) dX10_hook_16 (by decide) (fun zc16 => ?_) (fun zc16 => ?_)
            · refine g_aload_n (i := 0) dX10_hook_21 rfl rfl ?_
              refine g_getf dX10_hook_22 flX10_32 (hR.1.1) rfl ?_
              refine g_astore (ls' := [_, _, _, _, _, _, _]) dX10_hook_25 (by decide) rfl rfl ?_
              refine g_iload_n (i := 2) dX10_hook_27 rfl rfl ?_
              refine g_if_eq (tgt := 120) dX10_hook_28 (by decide) (fun zc28 => ?_) (fun zc28 => ?_)
              · exact g_bud (by decide) (by decide) (t120_X10_hook hR hj hR.2.2.2.2.2.1 (Or.inl rfl) _ _ _ _)
              · exact absurd rfl zc28
            · exact absurd hc.2.2 zc16
    · have hkz : ¬ kind = 0 := fun e => hk0 (by rw [e]; decide)
      rcases aForm_cases A hR.2.1.2.1 f with ⟨hh, hn⟩ | ⟨i, g, hi, rfl, hg, ha⟩
      · have hv : sHook A (nI j) kind f k = (-1, A) := by
          unfold sHook
          rw [if_pos hc, if_neg hk0, hn]
        rw [hv]
        refine g_iload_n (i := 1) dX10_hook_0 rfl rfl ?_
        refine g_if_lt (tgt := 19) dX10_hook_1 (by decide) (fun zc1 => ?_) (fun zc1 => ?_)
        · exact absurd zc1 hc.1.1
        · refine g_iload_n (i := 1) dX10_hook_4 rfl rfl ?_
          refine g_bipush (v := 8) dX10_hook_5 (by decide) ?_
          refine g_icmp_ge (tgt := 19) dX10_hook_7 (by decide) (fun zc7 => ?_) (fun zc7 => ?_)
          · exact absurd zc7 (Int32.not_le.mpr hc.1.2)
          · refine g_iload_n (i := 2) dX10_hook_10 rfl rfl ?_
            refine g_if_lt (tgt := 19) dX10_hook_11 (by decide) (fun zc11 => ?_) (fun zc11 => ?_)
            · exact absurd zc11 hc.2.1
            · refine g_iload_n (i := 2) dX10_hook_14 rfl rfl ?_
              refine g_iconst (v := 5) dX10_hook_15 (by decide) ?_
              refine g_icmp_le (tgt := 21) dX10_hook_16 (by decide) (fun zc16 => ?_) (fun zc16 => ?_)
              · refine g_aload_n (i := 0) dX10_hook_21 rfl rfl ?_
                refine g_getf dX10_hook_22 flX10_32 (hR.1.1) rfl ?_
                refine g_astore (ls' := [_, _, _, _, _, _, _]) dX10_hook_25 (by decide) rfl rfl ?_
                refine g_iload_n (i := 2) dX10_hook_27 rfl rfl ?_
                refine g_if_eq (tgt := 120) dX10_hook_28 (by decide) (fun zc28 => ?_) (fun zc28 => ?_)
                · exact absurd zc28 hkz
                · refine g_aload_n (i := 0) dX10_hook_31 rfl rfl ?_
                  refine g_iload_n (i := 3) dX10_hook_32 rfl rfl ?_
                  refine g_callVq (My := mX10_formAt) [_] dX10_hook_33 lkX10_76 mvX10_formAt rfl (hR.1.1) rfl (c_X10_formAt0 hR hh) (by decide) (by decide) (by decide) rfl (Nat.le_of_ble_eq_true rfl) (fun zr33 σ zh33 => ?_)
                  obtain ⟨rfl, rfl⟩ := zh33
                  refine g_astoreN (ls' := [_, _, _, _, _, _, _]) dX10_hook_36 (by decide) rfl rfl ?_
                  refine g_aloadN dX10_hook_38 rfl ?_
                  refine g_ifnullN (tgt := 73) dX10_hook_40 (by decide) ?_
                  refine g_iconst (v := (-1)) dX10_hook_73 (by decide) ?_
                  refine g_iret dX10_hook_74 rfl ?_
                  exact ⟨_, rfl, rfl, hR.rc⟩
              · exact absurd hc.2.2 zc16
      · obtain ⟨b, ka, xa, ya, kf, xf, yf, hb, p1, p2, p3, p4, hst, h12⟩ := hR.form hg
        by_cases hok : (¬ k < 0 ∧ ¬ nI g.2.length < k) ∧ ¬ (kind = 1 ∧ k = nI g.2.length)
        · obtain ⟨m, hm, rfl⟩ := ixle g.2.length (by omega) hok.1.1 (Int32.not_lt.mp hok.1.2)
          have hcm : (nI m).toNatClampNeg = m := nI_clamp (by omega)
          have hv : sHook A (nI j) kind (nI i) (nI m) = ((A.2.2.2.1 j).1, aSetHk (aNote A (5, j, 0, 0, A.2.2.2.1 j)) j (kind, if kind = 1 then (match g.2[m]? with
              | some s => [s.1.toInt64, s.2.2]
              | none => []) else aRow g kind (nI i) m)) := by
            unfold sHook
            rw [if_pos hc, if_neg hk0, ha, hcj, hcm]
            exact if_pos hok
          rw [hv]
          by_cases hk1 : kind = 1
          · subst hk1
            have hml : m < g.2.length := by
              rcases Nat.lt_or_ge m g.2.length with z | z
              · exact z
              · exact absurd ⟨rfl, by rw [show m = g.2.length by omega]⟩ hok.2
            obtain ⟨s, hs⟩ : ∃ s, g.2[m]? = some s := ⟨_, List.getElem?_eq_getElem hml⟩
            obtain ⟨e1, e2, e3⟩ := hst m s hs
            rw [if_pos rfl, hs]
            show G _ _ _ _ _ (pI (cP x ((A.2.2.2.1 j).1, aSetHk (aNote A (5, j, 0, 0, A.2.2.2.1 j)) j (1, [s.1.toInt64, s.2.2])))) _ _ _ _
            have hI : vp_in (nI m) 12 := vp_in_nI (by omega) (by decide)
            refine g_iload_n (i := 1) dX10_hook_0 rfl rfl ?_
            refine g_if_lt (tgt := 19) dX10_hook_1 (by decide) (fun zc1 => ?_) (fun zc1 => ?_)
            · exact absurd zc1 hc.1.1
            · refine g_iload_n (i := 1) dX10_hook_4 rfl rfl ?_
              refine g_bipush (v := 8) dX10_hook_5 (by decide) ?_
              refine g_icmp_ge (tgt := 19) dX10_hook_7 (by decide) (fun zc7 => ?_) (fun zc7 => ?_)
              · exact absurd zc7 (Int32.not_le.mpr hc.1.2)
              · refine g_iload_n (i := 2) dX10_hook_10 rfl rfl ?_
                refine g_if_lt (tgt := 19) dX10_hook_11 (by decide) (fun zc11 => ?_) (fun zc11 => ?_)
                · exact absurd zc11 hc.2.1
                · refine g_iload_n (i := 2) dX10_hook_14 rfl rfl ?_
                  refine g_iconst (v := 5) dX10_hook_15 (by decide) ?_
                  refine g_icmp_le (tgt := 21) dX10_hook_16 (by decide) (fun zc16 => ?_) (fun zc16 => ?_)
                  · refine g_aload_n (i := 0) dX10_hook_21 rfl rfl ?_
                    refine g_getf dX10_hook_22 flX10_32 (by first | exact hR.1.1 | exact p1.1 | exact (su_ne _ _ (p1.nq zhq80)).trans p1.1 | exact (su_ne _ _ (p2.nq zhq80)).trans p2.1 | exact (su_ne _ _ (p4.nq zhq80)).trans p4.1) rfl ?_
                    refine g_astore (ls' := [_, _, _, _, _, _, _]) dX10_hook_25 (by decide) rfl rfl ?_
                    refine g_iload_n (i := 2) dX10_hook_27 rfl rfl ?_
                    refine g_if_eq (tgt := 120) dX10_hook_28 (by decide) (fun zc28 => ?_) (fun zc28 => ?_)
                    · exact absurd zc28 (by decide)
                    · refine g_aload_n (i := 0) dX10_hook_31 rfl rfl ?_
                      refine g_iload_n (i := 3) dX10_hook_32 rfl rfl ?_
                      refine g_callVq (My := mX10_formAt) [_] dX10_hook_33 lkX10_76 mvX10_formAt rfl (by first | exact hR.1.1 | exact p1.1 | exact (su_ne _ _ (p1.nq zhq80)).trans p1.1 | exact (su_ne _ _ (p2.nq zhq80)).trans p2.1 | exact (su_ne _ _ (p4.nq zhq80)).trans p4.1) rfl (c_X10_formAt1 hR hi hb) (by decide) (by decide) (by decide) rfl (Nat.le_of_ble_eq_true rfl) (fun zr33 σ zh33 => ?_)
                      obtain ⟨ze33, zf33⟩ := zh33
                      rw [ze33, zf33]
                      refine g_tor b rfl ?_
                      refine g_astore (ls' := [_, _, _, _, _, _, _]) dX10_hook_36 (by decide) rfl rfl ?_
                      refine g_aload dX10_hook_38 rfl ?_
                      refine g_ifnull dX10_hook_40 ?_
                      refine g_iload dX10_hook_43 rfl ?_
                      refine g_if_lt (tgt := 73) dX10_hook_45 (by decide) (fun zc45 => ?_) (fun zc45 => ?_)
                      · exact absurd zc45 hok.1.1
                      · refine g_iload dX10_hook_48 rfl ?_
                        refine g_aload dX10_hook_50 rfl ?_
                        refine g_getf dX10_hook_52 flX10_82 (by first | exact hR.1.1 | exact p1.1 | exact (su_ne _ _ (p1.nq zhq80)).trans p1.1 | exact (su_ne _ _ (p2.nq zhq80)).trans p2.1 | exact (su_ne _ _ (p4.nq zhq80)).trans p4.1) rfl ?_
                        refine g_icmp_gt (tgt := 73) dX10_hook_55 (by decide) (fun zc55 => ?_) (fun zc55 => ?_)
                        · exact absurd zc55 hok.1.2
                        · refine g_iload_n (i := 2) dX10_hook_58 rfl rfl ?_
                          refine g_iconst (v := 1) dX10_hook_59 (by decide) ?_
                          refine g_icmp_ne (tgt := 75) dX10_hook_60 (by decide) (fun zc60 => ?_) (fun zc60 => ?_)
                          · exact absurd rfl zc60
                          · refine g_iload dX10_hook_63 rfl ?_
                            refine g_aload dX10_hook_65 rfl ?_
                            refine g_getf dX10_hook_67 flX10_82 (by first | exact hR.1.1 | exact p1.1 | exact (su_ne _ _ (p1.nq zhq80)).trans p1.1 | exact (su_ne _ _ (p2.nq zhq80)).trans p2.1 | exact (su_ne _ _ (p4.nq zhq80)).trans p4.1) rfl ?_
                            refine g_icmp_ne (tgt := 75) dX10_hook_70 (by decide) (fun zc70 => ?_) (fun zc70 => ?_)
                            · refine g_iload_n (i := 2) dX10_hook_75 rfl rfl ?_
                              refine g_iconst (v := 1) dX10_hook_76 (by decide) ?_
                              refine g_icmp_ne (tgt := 108) dX10_hook_77 (by decide) (fun zc77 => ?_) (fun zc77 => ?_)
                              · exact absurd rfl zc77
                              · refine g_new dX10_hook_80 nwX10_23 (by decide) (by decide) (fun zq80 zhq80 => ?_)
                                refine g_dup dX10_hook_83 rfl ?_
                                refine g_iconst (v := 1) dX10_hook_84 (by decide) ?_
                                refine g_aload dX10_hook_85 rfl ?_
                                refine g_getf dX10_hook_87 flX10_137 (by first | exact hR.1.1 | exact p1.1 | exact (su_ne _ _ (p1.nq zhq80)).trans p1.1 | exact (su_ne _ _ (p2.nq zhq80)).trans p2.1 | exact (su_ne _ _ (p4.nq zhq80)).trans p4.1) rfl ?_
                                refine g_iload dX10_hook_90 rfl ?_
                                refine g_iald dX10_hook_92 (by first | exact hR.1.1 | exact p1.1 | exact (su_ne _ _ (p1.nq zhq80)).trans p1.1 | exact (su_ne _ _ (p2.nq zhq80)).trans p2.1 | exact (su_ne _ _ (p4.nq zhq80)).trans p4.1) (hI) ?_
                                refine g_toi s.1 (by rw [hcm]; exact e1) ?_
                                refine g_aload dX10_hook_93 rfl ?_
                                refine g_getf dX10_hook_95 flX10_143 (by first | exact hR.1.1 | exact p1.1 | exact (su_ne _ _ (p1.nq zhq80)).trans p1.1 | exact (su_ne _ _ (p2.nq zhq80)).trans p2.1 | exact (su_ne _ _ (p4.nq zhq80)).trans p4.1) rfl ?_
                                refine g_iload dX10_hook_98 rfl ?_
                                refine g_lald dX10_hook_100 (by first | exact hR.1.1 | exact p1.1 | exact (su_ne _ _ (p1.nq zhq80)).trans p1.1 | exact (su_ne _ _ (p2.nq zhq80)).trans p2.1 | exact (su_ne _ _ (p4.nq zhq80)).trans p4.1) (hI) ?_
                                refine g_tol s.2.2 (by rw [hcm]; exact e3) ?_
                                refine g_iconst (v := 0) dX10_hook_101 (by decide) ?_
                                refine g_callIv (My := mX5_init) [_, _, _, _] dX10_hook_102 lkX10_29 mvX5_init rfl (c_X5_init (n := 0) (su_self _ _ _) 1 s.1 s.2.2 (by decide)) (by decide) (by decide) (by decide) rfl (Nat.le_of_ble_eq_true rfl) (fun σ zh102 => ?_)
                                obtain ⟨c, hcc, ze102⟩ := zh102
                                have nqc : c ≠ zq80 := fun e => by
                                  rw [e, su_self] at hcc
                                  cases hcc
                                rw [su_ne _ _ nqc] at hcc
                                have eσ : su (su (su τ zq80 (gO 4 [.int 0, .int 0, .long 0, .null])) c (gAl 0 (fun _ => 0))) zq80 (gO 4 [.int 1, .int s.1, .long s.2.2, .ref c]) = su (su τ c (gAl 0 (fun _ => 0))) zq80 (gO 4 [.int 1, .int s.1, .long s.2.2, .ref c]) := by
                                  rw [su_comm τ _ _ (Ne.symm nqc), su_su]
                                rw [ze102, eσ]
                                refine g_goto (tgt := 118) dX10_hook_105 (by decide) ?_
                                refine g_astore (ls' := [_, _, _, _, _, _, _]) dX10_hook_118 (by decide) rfl rfl ?_
                                have a1 := Sm.none (ow := ow) hcc (gAl 0 (fun _ => 0)) (1000 + zq80)
                                have a2 := Sm.none (ow := va_up ow c (1000 + zq80)) (q := zq80) (show su τ c (gAl 0 (fun _ => 0)) zq80 = none by rw [su_ne _ _ (Ne.symm nqc)]; exact zhq80) (gO 4 [.int 1, .int s.1, .long s.2.2, .ref c]) 50
                                have hR1 := hR.new (a1.tr a2)
                                exact g_bud (by decide) (by decide) (t120_X10_hook hR1 hj ⟨s.1, s.2.2, c, 0, _, ⟨su_self _ _ _, va_up_self _ _ _⟩, ⟨by rw [su_ne _ _ nqc]; exact su_self _ _ _, by rw [va_up_ne _ _ nqc]; exact va_up_self _ _ _⟩, by decide, Or.inl ⟨rfl, rfl, rfl⟩⟩ (Or.inr (hR.fresh zhq80)) _ _ _ _)
                            · exact absurd ((nI_eq (by omega) (by omega)).mp zc70) (by omega)
                  · exact absurd hc.2.2 zc16
          · rw [if_neg hk1]
            have h25 := kd25 hc.2.1 hc.2.2 hk0 hk1
            refine g_iload_n (i := 1) dX10_hook_0 rfl rfl ?_
            refine g_if_lt (tgt := 19) dX10_hook_1 (by decide) (fun zc1 => ?_) (fun zc1 => ?_)
            · exact absurd zc1 hc.1.1
            · refine g_iload_n (i := 1) dX10_hook_4 rfl rfl ?_
              refine g_bipush (v := 8) dX10_hook_5 (by decide) ?_
              refine g_icmp_ge (tgt := 19) dX10_hook_7 (by decide) (fun zc7 => ?_) (fun zc7 => ?_)
              · exact absurd zc7 (Int32.not_le.mpr hc.1.2)
              · refine g_iload_n (i := 2) dX10_hook_10 rfl rfl ?_
                refine g_if_lt (tgt := 19) dX10_hook_11 (by decide) (fun zc11 => ?_) (fun zc11 => ?_)
                · exact absurd zc11 hc.2.1
                · refine g_iload_n (i := 2) dX10_hook_14 rfl rfl ?_
                  refine g_iconst (v := 5) dX10_hook_15 (by decide) ?_
                  refine g_icmp_le (tgt := 21) dX10_hook_16 (by decide) (fun zc16 => ?_) (fun zc16 => ?_)
                  · refine g_aload_n (i := 0) dX10_hook_21 rfl rfl ?_
                    refine g_getf dX10_hook_22 flX10_32 (by first | exact hR.1.1 | exact p1.1) rfl ?_
                    refine g_astore (ls' := [_, _, _, _, _, _, _]) dX10_hook_25 (by decide) rfl rfl ?_
                    refine g_iload_n (i := 2) dX10_hook_27 rfl rfl ?_
                    refine g_if_eq (tgt := 120) dX10_hook_28 (by decide) (fun zc28 => ?_) (fun zc28 => ?_)
                    · exact absurd zc28 hkz
                    · refine g_aload_n (i := 0) dX10_hook_31 rfl rfl ?_
                      refine g_iload_n (i := 3) dX10_hook_32 rfl rfl ?_
                      refine g_callVq (My := mX10_formAt) [_] dX10_hook_33 lkX10_76 mvX10_formAt rfl (by first | exact hR.1.1 | exact p1.1) rfl (c_X10_formAt1 hR hi hb) (by decide) (by decide) (by decide) rfl (Nat.le_of_ble_eq_true rfl) (fun zr33 σ zh33 => ?_)
                      obtain ⟨ze33, zf33⟩ := zh33
                      rw [ze33, zf33]
                      refine g_tor b rfl ?_
                      refine g_astore (ls' := [_, _, _, _, _, _, _]) dX10_hook_36 (by decide) rfl rfl ?_
                      refine g_aload dX10_hook_38 rfl ?_
                      refine g_ifnull dX10_hook_40 ?_
                      refine g_iload dX10_hook_43 rfl ?_
                      refine g_if_lt (tgt := 73) dX10_hook_45 (by decide) (fun zc45 => ?_) (fun zc45 => ?_)
                      · exact absurd zc45 hok.1.1
                      · refine g_iload dX10_hook_48 rfl ?_
                        refine g_aload dX10_hook_50 rfl ?_
                        refine g_getf dX10_hook_52 flX10_82 (by first | exact hR.1.1 | exact p1.1) rfl ?_
                        refine g_icmp_gt (tgt := 73) dX10_hook_55 (by decide) (fun zc55 => ?_) (fun zc55 => ?_)
                        · exact absurd zc55 hok.1.2
                        · refine g_iload_n (i := 2) dX10_hook_58 rfl rfl ?_
                          refine g_iconst (v := 1) dX10_hook_59 (by decide) ?_
                          refine g_icmp_ne (tgt := 75) dX10_hook_60 (by decide) (fun zc60 => ?_) (fun zc60 => ?_)
                          · refine g_iload_n (i := 2) dX10_hook_75 rfl rfl ?_
                            refine g_iconst (v := 1) dX10_hook_76 (by decide) ?_
                            refine g_icmp_ne (tgt := 108) dX10_hook_77 (by decide) (fun zc77 => ?_) (fun zc77 => ?_)
                            · refine g_aload_n (i := 0) dX10_hook_108 rfl rfl ?_
                              refine g_iload_n (i := 2) dX10_hook_109 rfl rfl ?_
                              refine g_aload dX10_hook_110 rfl ?_
                              refine g_iload_n (i := 3) dX10_hook_112 rfl rfl ?_
                              refine g_iload dX10_hook_113 rfl ?_
                              refine g_callVq (My := mX10_rowOf) [_, _, _, _] dX10_hook_115 lkX10_221 mvX10_rowOf rfl (by first | exact hR.1.1 | exact p1.1) rfl (c_X10_rowOf hR hg (hw i g hg) hb h25 hm (nI i)) (by decide) (by decide) (by decide) rfl (Nat.le_of_ble_eq_true rfl) (fun zr115 σ zh115 => ?_)
                              obtain ⟨q, ow', ze115, hq, hR1, hq1⟩ := zh115
                              rw [ze115]
                              refine g_tor q rfl ?_
                              refine g_astore (ls' := [_, _, _, _, _, _, _]) dX10_hook_118 (by decide) rfl rfl ?_
                              exact g_bud (by decide) (by decide) (t120_X10_hook hR1 hj hq1 (Or.inr (hR.fresh hq)) _ _ _ _)
                            · exact absurd zc77 hk1
                          · exact absurd zc60 hk1
                  · exact absurd hc.2.2 zc16
        · have hv : sHook A (nI j) kind (nI i) k = (-1, A) := by
            unfold sHook
            rw [if_pos hc, if_neg hk0, ha]
            exact if_neg hok
          rw [hv]
          refine g_iload_n (i := 1) dX10_hook_0 rfl rfl ?_
          refine g_if_lt (tgt := 19) dX10_hook_1 (by decide) (fun zc1 => ?_) (fun zc1 => ?_)
          · exact absurd zc1 hc.1.1
          · refine g_iload_n (i := 1) dX10_hook_4 rfl rfl ?_
            refine g_bipush (v := 8) dX10_hook_5 (by decide) ?_
            refine g_icmp_ge (tgt := 19) dX10_hook_7 (by decide) (fun zc7 => ?_) (fun zc7 => ?_)
            · exact absurd zc7 (Int32.not_le.mpr hc.1.2)
            · refine g_iload_n (i := 2) dX10_hook_10 rfl rfl ?_
              refine g_if_lt (tgt := 19) dX10_hook_11 (by decide) (fun zc11 => ?_) (fun zc11 => ?_)
              · exact absurd zc11 hc.2.1
              · refine g_iload_n (i := 2) dX10_hook_14 rfl rfl ?_
                refine g_iconst (v := 5) dX10_hook_15 (by decide) ?_
                refine g_icmp_le (tgt := 21) dX10_hook_16 (by decide) (fun zc16 => ?_) (fun zc16 => ?_)
                · refine g_aload_n (i := 0) dX10_hook_21 rfl rfl ?_
                  refine g_getf dX10_hook_22 flX10_32 (by first | exact hR.1.1 | exact p1.1) rfl ?_
                  refine g_astore (ls' := [_, _, _, _, _, _, _]) dX10_hook_25 (by decide) rfl rfl ?_
                  refine g_iload_n (i := 2) dX10_hook_27 rfl rfl ?_
                  refine g_if_eq (tgt := 120) dX10_hook_28 (by decide) (fun zc28 => ?_) (fun zc28 => ?_)
                  · exact absurd zc28 hkz
                  · refine g_aload_n (i := 0) dX10_hook_31 rfl rfl ?_
                    refine g_iload_n (i := 3) dX10_hook_32 rfl rfl ?_
                    refine g_callVq (My := mX10_formAt) [_] dX10_hook_33 lkX10_76 mvX10_formAt rfl (by first | exact hR.1.1 | exact p1.1) rfl (c_X10_formAt1 hR hi hb) (by decide) (by decide) (by decide) rfl (Nat.le_of_ble_eq_true rfl) (fun zr33 σ zh33 => ?_)
                    obtain ⟨ze33, zf33⟩ := zh33
                    rw [ze33, zf33]
                    refine g_tor b rfl ?_
                    refine g_astore (ls' := [_, _, _, _, _, _, _]) dX10_hook_36 (by decide) rfl rfl ?_
                    refine g_aload dX10_hook_38 rfl ?_
                    refine g_ifnull dX10_hook_40 ?_
                    refine g_iload dX10_hook_43 rfl ?_
                    refine g_if_lt (tgt := 73) dX10_hook_45 (by decide) (fun zc45 => ?_) (fun zc45 => ?_)
                    · refine g_iconst (v := (-1)) dX10_hook_73 (by decide) ?_
                      refine g_iret dX10_hook_74 rfl ?_
                      exact ⟨_, rfl, rfl, hR.rc⟩
                    · refine g_iload dX10_hook_48 rfl ?_
                      refine g_aload dX10_hook_50 rfl ?_
                      refine g_getf dX10_hook_52 flX10_82 (by first | exact hR.1.1 | exact p1.1) rfl ?_
                      refine g_icmp_gt (tgt := 73) dX10_hook_55 (by decide) (fun zc55 => ?_) (fun zc55 => ?_)
                      · refine g_iconst (v := (-1)) dX10_hook_73 (by decide) ?_
                        refine g_iret dX10_hook_74 rfl ?_
                        exact ⟨_, rfl, rfl, hR.rc⟩
                      · refine g_iload_n (i := 2) dX10_hook_58 rfl rfl ?_
                        refine g_iconst (v := 1) dX10_hook_59 (by decide) ?_
                        refine g_icmp_ne (tgt := 75) dX10_hook_60 (by decide) (fun zc60 => ?_) (fun zc60 => ?_)
                        · exfalso
                          first
                          | exact hok ⟨⟨zc45, zc55⟩, fun z => zc60 z.1⟩
                          | exact hok ⟨⟨zc45, zc55⟩, fun z => zc70 z.2⟩
                        · refine g_iload dX10_hook_63 rfl ?_
                          refine g_aload dX10_hook_65 rfl ?_
                          refine g_getf dX10_hook_67 flX10_82 (by first | exact hR.1.1 | exact p1.1) rfl ?_
                          refine g_icmp_ne (tgt := 75) dX10_hook_70 (by decide) (fun zc70 => ?_) (fun zc70 => ?_)
                          · exfalso
                            first
                            | exact hok ⟨⟨zc45, zc55⟩, fun z => zc60 z.1⟩
                            | exact hok ⟨⟨zc45, zc55⟩, fun z => zc70 z.2⟩
                          · refine g_iconst (v := (-1)) dX10_hook_73 (by decide) ?_
                            refine g_iret dX10_hook_74 rfl ?_
                            exact ⟨_, rfl, rfl, hR.rc⟩
                · exact absurd hc.2.2 zc16
  · have hv : sHook A h kind f k = (-1, A) := by
      unfold sHook
      rw [if_neg hc]
    rw [hv]
    refine g_iload_n (i := 1) dX10_hook_0 rfl rfl ?_
    refine g_if_lt (tgt := 19) dX10_hook_1 (by decide) (fun zc1 => ?_) (fun zc1 => ?_)
    · refine g_iconst (v := (-1)) dX10_hook_19 (by decide) ?_
      refine g_iret dX10_hook_20 rfl ?_
      exact ⟨_, rfl, rfl, hR.rc⟩
    · refine g_iload_n (i := 1) dX10_hook_4 rfl rfl ?_
      refine g_bipush (v := 8) dX10_hook_5 (by decide) ?_
      refine g_icmp_ge (tgt := 19) dX10_hook_7 (by decide) (fun zc7 => ?_) (fun zc7 => ?_)
      · refine g_iconst (v := (-1)) dX10_hook_19 (by decide) ?_
        refine g_iret dX10_hook_20 rfl ?_
        exact ⟨_, rfl, rfl, hR.rc⟩
      · refine g_iload_n (i := 2) dX10_hook_10 rfl rfl ?_
        refine g_if_lt (tgt := 19) dX10_hook_11 (by decide) (fun zc11 => ?_) (fun zc11 => ?_)
        · refine g_iconst (v := (-1)) dX10_hook_19 (by decide) ?_
          refine g_iret dX10_hook_20 rfl ?_
          exact ⟨_, rfl, rfl, hR.rc⟩
        · refine g_iload_n (i := 2) dX10_hook_14 rfl rfl ?_
          refine g_iconst (v := 5) dX10_hook_15 (by decide) ?_
          refine g_icmp_le (tgt := 21) dX10_hook_16 (by decide) (fun zc16 => ?_) (fun zc16 => ?_)
          · exact absurd ⟨⟨zc1, Int32.not_le.mp zc7⟩, zc11, zc16⟩ hc
          · refine g_iconst (v := (-1)) dX10_hook_19 (by decide) ?_
            refine g_iret dX10_hook_20 rfl ?_
            exact ⟨_, rfl, rfl, hR.rc⟩
theorem c_X10_copyAnswer {σ : gH} {b c n : Nat} {k sk : Int32} {sy : Int64} {f : Nat → Int64} (h0 : σ b = some (gO 4 [.int k, .int sk, .long sy, .ref c])) (hc : σ c = some (gAl n f)) (xx y : Int32) : Ct l mX10_copyAnswer 1 0 0 [.ref b, .int xx, .int y] σ (pI fun r σ' => r = (if xx < 0 then -14 else if y < 0 ∨ xx < y ∨ nI n < y then -13 else y) ∧ σ' = σ) := by
  refine Ct_of moX10_copyAnswer [some (.ref b), some (.int xx), some (.int y)] rfl (Nat.le_of_ble_eq_true rfl) ?_
  refine g_iload_n (i := 1) dX10_copyAnswer_0 rfl rfl ?_
  refine g_if_ge (tgt := 7) dX10_copyAnswer_1 (by decide) (fun zc1 => ?_) (fun zc1 => ?_)
  · refine g_iload_n (i := 2) dX10_copyAnswer_7 rfl rfl ?_
    refine g_if_lt (tgt := 25) dX10_copyAnswer_8 (by decide) (fun zc8 => ?_) (fun zc8 => ?_)
    · refine g_bipush (v := (-13)) dX10_copyAnswer_25 (by decide) ?_
      refine g_goto (tgt := 31) dX10_copyAnswer_27 (by decide) ?_
      refine g_iret dX10_copyAnswer_31 rfl ?_
      refine ⟨_, rfl, ?_, rfl⟩
      first
      | (rw [if_pos (Int32.not_le.mp zc1)]; done)
      | (rw [if_neg (Int32.not_lt.mpr zc1), if_pos (Or.inl zc8)]; done)
      | (rw [if_neg (Int32.not_lt.mpr zc1), if_pos (Or.inr (Or.inl zc13))]; done)
      | (have z22 : nI n < y := Int32.not_le.mp zc22; rw [if_neg (Int32.not_lt.mpr zc1), if_pos (Or.inr (Or.inr z22))]; done)
      | (rw [if_neg (Int32.not_lt.mpr zc1), if_neg (fun z => z.elim zc8 (fun z => z.elim zc13 (fun z => (Int32.not_le.mpr z) zc22)))]; done)
    · refine g_iload_n (i := 2) dX10_copyAnswer_11 rfl rfl ?_
      refine g_iload_n (i := 1) dX10_copyAnswer_12 rfl rfl ?_
      refine g_icmp_gt (tgt := 25) dX10_copyAnswer_13 (by decide) (fun zc13 => ?_) (fun zc13 => ?_)
      · refine g_bipush (v := (-13)) dX10_copyAnswer_25 (by decide) ?_
        refine g_goto (tgt := 31) dX10_copyAnswer_27 (by decide) ?_
        refine g_iret dX10_copyAnswer_31 rfl ?_
        refine ⟨_, rfl, ?_, rfl⟩
        first
        | (rw [if_pos (Int32.not_le.mp zc1)]; done)
        | (rw [if_neg (Int32.not_lt.mpr zc1), if_pos (Or.inl zc8)]; done)
        | (rw [if_neg (Int32.not_lt.mpr zc1), if_pos (Or.inr (Or.inl zc13))]; done)
        | (have z22 : nI n < y := Int32.not_le.mp zc22; rw [if_neg (Int32.not_lt.mpr zc1), if_pos (Or.inr (Or.inr z22))]; done)
        | (rw [if_neg (Int32.not_lt.mpr zc1), if_neg (fun z => z.elim zc8 (fun z => z.elim zc13 (fun z => (Int32.not_le.mpr z) zc22)))]; done)
      · refine g_iload_n (i := 2) dX10_copyAnswer_16 rfl rfl ?_
        refine g_aload_n (i := 0) dX10_copyAnswer_17 rfl rfl ?_
        refine g_getf dX10_copyAnswer_18 flX10_287 (by first | exact h0 | exact hc) rfl ?_
        refine g_alen dX10_copyAnswer_21 (by first | exact h0 | exact hc) (by decide) rfl ?_
        refine g_icmp_le (tgt := 30) dX10_copyAnswer_22 (by decide) (fun zc22 => ?_) (fun zc22 => ?_)
        · refine g_iload_n (i := 2) dX10_copyAnswer_30 rfl rfl ?_
          refine g_iret dX10_copyAnswer_31 rfl ?_
          refine ⟨_, rfl, ?_, rfl⟩
          first
          | (rw [if_pos (Int32.not_le.mp zc1)]; done)
          | (rw [if_neg (Int32.not_lt.mpr zc1), if_pos (Or.inl zc8)]; done)
          | (rw [if_neg (Int32.not_lt.mpr zc1), if_pos (Or.inr (Or.inl zc13))]; done)
          | (have z22 : nI n < y := Int32.not_le.mp zc22; rw [if_neg (Int32.not_lt.mpr zc1), if_pos (Or.inr (Or.inr z22))]; done)
          | (rw [if_neg (Int32.not_lt.mpr zc1), if_neg (fun z => z.elim zc8 (fun z => z.elim zc13 (fun z => (Int32.not_le.mpr z) zc22)))]; done)
        · refine g_bipush (v := (-13)) dX10_copyAnswer_25 (by decide) ?_
          refine g_goto (tgt := 31) dX10_copyAnswer_27 (by decide) ?_
          refine g_iret dX10_copyAnswer_31 rfl ?_
          refine ⟨_, rfl, ?_, rfl⟩
          first
          | (rw [if_pos (Int32.not_le.mp zc1)]; done)
          | (rw [if_neg (Int32.not_lt.mpr zc1), if_pos (Or.inl zc8)]; done)
          | (rw [if_neg (Int32.not_lt.mpr zc1), if_pos (Or.inr (Or.inl zc13))]; done)
          | (have z22 : nI n < y := Int32.not_le.mp zc22; rw [if_neg (Int32.not_lt.mpr zc1), if_pos (Or.inr (Or.inr z22))]; done)
          | (rw [if_neg (Int32.not_lt.mpr zc1), if_neg (fun z => z.elim zc8 (fun z => z.elim zc13 (fun z => (Int32.not_le.mpr z) zc22)))]; done)
  · refine g_bipush (v := (-14)) dX10_copyAnswer_4 (by decide) ?_
    refine g_iret dX10_copyAnswer_6 rfl ?_
    refine ⟨_, rfl, ?_, rfl⟩
    first
    | (rw [if_pos (Int32.not_le.mp zc1)]; done)
    | (rw [if_neg (Int32.not_lt.mpr zc1), if_pos (Or.inl zc8)]; done)
    | (rw [if_neg (Int32.not_lt.mpr zc1), if_pos (Or.inr (Or.inl zc13))]; done)
    | (have z22 : nI n < y := Int32.not_le.mp zc22; rw [if_neg (Int32.not_lt.mpr zc1), if_pos (Or.inr (Or.inr z22))]; done)
    | (rw [if_neg (Int32.not_lt.mpr zc1), if_neg (fun z => z.elim zc8 (fun z => z.elim zc13 (fun z => (Int32.not_le.mpr z) zc22)))]; done)
theorem nd_tk {j : Nat} (hj : j < 10) : tkF j = nd (nI j) := by
  rcases (show j = 0 ∨ j = 1 ∨ j = 2 ∨ j = 3 ∨ j = 4 ∨ j = 5 ∨ j = 6 ∨ j = 7 ∨ j = 8 ∨ j = 9 by omega) with rfl | rfl | rfl | rfl | rfl | rfl | rfl | rfl | rfl | rfl <;> decide
theorem getD_of {L : List Int64} {p : Nat} (h : p < L.length) : L[p]? = some (L.getD p 0) := by
  rw [List.getD_eq_getElem?_getD, List.getElem?_eq_getElem h]
  rfl
theorem c_X10_rowAnswer (hR : RC τ x A) {h p : Nat} (hh : h < 8) {how y : Int32} (hp : p < (A.2.2.2.1 h).2.length) (hk0 : ¬ (A.2.2.2.1 h).1 = 0) (hk1 : ¬ (A.2.2.2.1 h).1 = 1) (h10 : ¬ how = 10) (hn : (A.2.2.2.1 h).1 = nd how) (h0 : ¬ how = 0) (h1 : ¬ how = 1) (h9 : ¬ how = 9) (hlo : ¬ how < 0) (hhi : how ≤ 10) : Ct l mX10_rowAnswer 2 1 5 [.ref x, .int (nI h), .int how, .int (nI p), .int y] τ (pI (cP x (use1 A h how (nI p) y))) := by
  obtain ⟨ow, ad, hk, cs, ff, hR⟩ := hR
  obtain ⟨hf, p1, p2⟩ := hR.2.2.2.2.1
  have e1 := (p2 h hh).1
  obtain ⟨sk, sy, c, f, r1, r2, r3, r4, r5⟩ := hR.cell hh hp hk1
  have hch : (nI h).toNatClampNeg = h := nI_clamp (by omega)
  have hcp : (nI p).toNatClampNeg = p := nI_clamp (by omega)
  have hinx : inR (A.2.2.2.1 h).2 (nI p) := ⟨nI_pos (by omega), nI_lt hp (by omega)⟩
  have hfp := r4 p _ (getD_of hp)
  refine Ct_of moX10_rowAnswer [some (.ref x), some (.int (nI h)), some (.int how), some (.int (nI p)), some (.int y), none, none, none, none, none] rfl (Nat.le_of_ble_eq_true rfl) ?_
  have huse : use1 A h how (nI p) y = (if (how = 7 ∨ how = 8) ∧ ¬ inR (A.2.2.2.1 h).2 y then (-13, A) else
      if how < 6 then (((A.2.2.2.1 h).2.getD p 0).toInt32, A) else
      if how = 6 then (((A.2.2.2.1 h).2.getD p 0).toInt32, aSetHk (aNote A (6, h, p, (A.2.2.2.1 h).2.getD p 0, (0, []))) h ((A.2.2.2.1 h).1, (A.2.2.2.1 h).2.set p y.toInt64)) else
      if (A.2.2.2.1 h).2.getD y.toNatClampNeg 0 = 0 then (-16, A) else
      if how = 7 then ((mSdv ((A.2.2.2.1 h).2.getD p 0) ((A.2.2.2.1 h).2.getD y.toNatClampNeg 0)).toInt32, A) else
      (if (A.2.2.2.1 h).2.getD y.toNatClampNeg 0 = -1 then 0 else ((A.2.2.2.1 h).2.getD p 0 - (A.2.2.2.1 h).2.getD p 0 / (A.2.2.2.1 h).2.getD y.toNatClampNeg 0 * (A.2.2.2.1 h).2.getD y.toNatClampNeg 0).toInt32, A)) := by
    unfold use1
    rw [if_neg hk0, if_neg h10, if_neg (fun z => z hn), if_neg h0, if_neg h1, if_neg h9, hcp]
    by_cases hb : (how = 7 ∨ how = 8) ∧ ¬ inR (A.2.2.2.1 h).2 y
    · rw [if_pos (Or.inr hb), if_pos hb]
    · rw [if_neg (fun z => z.elim (fun q => q hinx) hb), if_neg hb]
  rw [huse]
  clear huse
  refine g_aload_n (i := 0) dX10_rowAnswer_0 rfl rfl ?_
  refine g_getf dX10_rowAnswer_1 flX10_25 (by first | exact hR.1.1 | exact p1.1 | exact r1 | exact r2) rfl ?_
  refine g_iload_n (i := 1) dX10_rowAnswer_4 rfl rfl ?_
  refine g_aald dX10_rowAnswer_5 (by first | exact hR.1.1 | exact p1.1 | exact r1 | exact r2) (by decide) ((vp_in_nI hh (by decide) : vp_in (nI h) 8)) ?_
  refine g_tor (hk h) (by rw [hch]; exact e1) ?_
  refine g_astore (ls' := [_, _, _, _, _, _, _, _, _, _]) dX10_rowAnswer_6 (by decide) rfl rfl ?_
  refine g_aload dX10_rowAnswer_8 rfl ?_
  refine g_getf dX10_rowAnswer_10 flX10_287 (by first | exact hR.1.1 | exact p1.1 | exact r1 | exact r2) rfl ?_
  refine g_iload_n (i := 3) dX10_rowAnswer_13 rfl rfl ?_
  refine g_lald dX10_rowAnswer_14 (by first | exact hR.1.1 | exact p1.1 | exact r1 | exact r2) ((vp_in_nI hp (by omega) : vp_in (nI p) (A.2.2.2.1 h).2.length)) ?_
  refine g_tol ((A.2.2.2.1 h).2.getD p 0) (by rw [hcp]; exact hfp) ?_
  refine g_lstore (ls' := [_, _, _, _, _, _, _, _, _, _]) dX10_rowAnswer_15 (by decide) rfl rfl ?_
  refine g_iload_n (i := 2) dX10_rowAnswer_17 rfl rfl ?_
  refine g_bipush (v := 6) dX10_rowAnswer_18 (by decide) ?_
  refine g_icmp_ne (tgt := 58) dX10_rowAnswer_20 (by decide) (fun zc20 => ?_) (fun zc20 => ?_)
  · refine g_iload_n (i := 2) dX10_rowAnswer_58 rfl rfl ?_
    refine g_bipush (v := 7) dX10_rowAnswer_59 (by decide) ?_
    refine g_icmp_eq (tgt := 74) dX10_rowAnswer_61 (by decide) (fun zc61 => ?_) (fun zc61 => ?_)
    · refine g_aload dX10_rowAnswer_74 rfl ?_
      refine g_iload dX10_rowAnswer_76 rfl ?_
      refine g_callVi (My := mX5_hasPlace) [_] dX10_rowAnswer_78 lkX10_245 mvX5_hasPlace rfl (by first | exact hR.1.1 | exact p1.1 | exact r1 | exact r2) rfl (c_X5_hasPlace r1 r2 _) (by decide) (by decide) (by decide) rfl (Nat.le_of_ble_eq_true rfl) (fun zr78 σ zh78 => ?_)
      obtain ⟨ze78, zf78⟩ := zh78
      rw [ze78, zf78]
      refine g_if_ne (tgt := 87) dX10_rowAnswer_81 (by decide) (fun zc81 => ?_) (fun zc81 => ?_)
      · refine g_aload dX10_rowAnswer_87 rfl ?_
        obtain ⟨yy, hyy, rfl⟩ : ∃ yy : Nat, yy < (A.2.2.2.1 h).2.length ∧ y = nI yy := inR_ix r3 (bI_ne0.mp zc81)
        have hcy : (nI yy).toNatClampNeg = yy := nI_clamp (by omega)
        have hfy := r4 yy _ (getD_of hyy)
        refine g_getf dX10_rowAnswer_89 flX10_287 (by first | exact hR.1.1 | exact p1.1 | exact r1 | exact r2) rfl ?_
        refine g_iload dX10_rowAnswer_92 rfl ?_
        refine g_lald dX10_rowAnswer_94 (by first | exact hR.1.1 | exact p1.1 | exact r1 | exact r2) ((vp_in_nI hyy (by omega) : vp_in (nI yy) (A.2.2.2.1 h).2.length)) ?_
        refine g_tol ((A.2.2.2.1 h).2.getD yy 0) (by rw [hcy]; exact hfy) ?_
        refine g_lstore (ls' := [_, _, _, _, _, _, _, _, _, _]) dX10_rowAnswer_95 (by decide) rfl rfl ?_
        refine g_lload dX10_rowAnswer_97 rfl ?_
        refine g_lconst (v := 0) dX10_rowAnswer_99 (by decide) ?_
        refine g_lcmp dX10_rowAnswer_100 ?_
        refine g_if_ne (tgt := 107) dX10_rowAnswer_101 (by decide) (fun zc101 => ?_) (fun zc101 => ?_)
        · refine g_iload_n (i := 2) dX10_rowAnswer_107 rfl rfl ?_
          refine g_bipush (v := 7) dX10_rowAnswer_108 (by decide) ?_
          refine g_icmp_ne (tgt := 121) dX10_rowAnswer_110 (by decide) (fun zc110 => ?_) (fun zc110 => ?_)
          · refine g_lload dX10_rowAnswer_121 rfl ?_
            refine g_lload dX10_rowAnswer_123 rfl ?_
            refine g_lrem dX10_rowAnswer_125 (fun z => zc101 ((lg_cmp_eq _ _).mpr z)) ?_
            refine g_l2i dX10_rowAnswer_126 ?_
            refine g_iret dX10_rowAnswer_127 rfl ?_
            first
            | (have e6 : ¬ (how = 7 ∨ how = 8) := by (rw [zc20]; decide)
               rw [if_neg (fun z => e6 z.1), if_neg (by rw [zc20]; decide), if_pos zc20]
               exact ⟨_, rfl, rfl, hR5.rc⟩)
            | (have hlt : how < 6 := h6lt hlo hhi zc20 zc61 zc67 h9 h10
               rw [if_neg (fun z => z.1.elim zc61 zc67), if_pos hlt]
               exact ⟨_, rfl, rfl, hR.rc⟩)
            | (have h78 : how = 7 ∨ how = 8 := by first | exact Or.inl zc61 | exact Or.inr zc67
               have h81 : ¬ inR (A.2.2.2.1 h).2 y := bI_eq0.mp zc81
               rw [if_pos ⟨h78, h81⟩]
               exact ⟨_, rfl, rfl, hR.rc⟩)
            | (rw [if_neg (fun z => z.2 (bI_ne0.mp zc81)), if_neg (by first | (rw [zc61]; decide) | (rw [zc67]; decide)), if_neg zc20, hcy, if_pos ((lg_cmp_eq _ _).mp zc101)]
               exact ⟨_, rfl, rfl, hR.rc⟩)
            | (rw [if_neg (fun z => z.2 (bI_ne0.mp zc81)), if_neg (by first | (rw [zc61]; decide) | (rw [zc67]; decide)), if_neg zc20, hcy, if_neg (fun z => zc101 ((lg_cmp_eq _ _).mpr z)), if_pos zc110, ← sdv_eq]
               exact ⟨_, rfl, rfl, hR.rc⟩)
            | (rw [if_neg (fun z => z.2 (bI_ne0.mp zc81)), if_neg (by first | (rw [zc61]; decide) | (rw [zc67]; decide)), if_neg zc20, hcy, if_neg (fun z => zc101 ((lg_cmp_eq _ _).mpr z)), if_neg zc110]
               refine ⟨_, rfl, ?_, hR.rc⟩
               exact rem_m1 _ _)
          · refine g_lload dX10_rowAnswer_113 rfl ?_
            refine g_lload dX10_rowAnswer_115 rfl ?_
            refine g_ldiv dX10_rowAnswer_117 (fun z => zc101 ((lg_cmp_eq _ _).mpr z)) ?_
            refine g_goto (tgt := 126) dX10_rowAnswer_118 (by decide) ?_
            refine g_l2i dX10_rowAnswer_126 ?_
            refine g_iret dX10_rowAnswer_127 rfl ?_
            first
            | (have e6 : ¬ (how = 7 ∨ how = 8) := by (rw [zc20]; decide)
               rw [if_neg (fun z => e6 z.1), if_neg (by rw [zc20]; decide), if_pos zc20]
               exact ⟨_, rfl, rfl, hR5.rc⟩)
            | (have hlt : how < 6 := h6lt hlo hhi zc20 zc61 zc67 h9 h10
               rw [if_neg (fun z => z.1.elim zc61 zc67), if_pos hlt]
               exact ⟨_, rfl, rfl, hR.rc⟩)
            | (have h78 : how = 7 ∨ how = 8 := by first | exact Or.inl zc61 | exact Or.inr zc67
               have h81 : ¬ inR (A.2.2.2.1 h).2 y := bI_eq0.mp zc81
               rw [if_pos ⟨h78, h81⟩]
               exact ⟨_, rfl, rfl, hR.rc⟩)
            | (rw [if_neg (fun z => z.2 (bI_ne0.mp zc81)), if_neg (by first | (rw [zc61]; decide) | (rw [zc67]; decide)), if_neg zc20, hcy, if_pos ((lg_cmp_eq _ _).mp zc101)]
               exact ⟨_, rfl, rfl, hR.rc⟩)
            | (rw [if_neg (fun z => z.2 (bI_ne0.mp zc81)), if_neg (by first | (rw [zc61]; decide) | (rw [zc67]; decide)), if_neg zc20, hcy, if_neg (fun z => zc101 ((lg_cmp_eq _ _).mpr z)), if_pos zc110, ← sdv_eq]
               exact ⟨_, rfl, rfl, hR.rc⟩)
            | (rw [if_neg (fun z => z.2 (bI_ne0.mp zc81)), if_neg (by first | (rw [zc61]; decide) | (rw [zc67]; decide)), if_neg zc20, hcy, if_neg (fun z => zc101 ((lg_cmp_eq _ _).mpr z)), if_neg zc110]
               refine ⟨_, rfl, ?_, hR.rc⟩
               exact rem_m1 _ _)
        · refine g_bipush (v := (-16)) dX10_rowAnswer_104 (by decide) ?_
          refine g_iret dX10_rowAnswer_106 rfl ?_
          first
          | (have e6 : ¬ (how = 7 ∨ how = 8) := by (rw [zc20]; decide)
             rw [if_neg (fun z => e6 z.1), if_neg (by rw [zc20]; decide), if_pos zc20]
             exact ⟨_, rfl, rfl, hR5.rc⟩)
          | (have hlt : how < 6 := h6lt hlo hhi zc20 zc61 zc67 h9 h10
             rw [if_neg (fun z => z.1.elim zc61 zc67), if_pos hlt]
             exact ⟨_, rfl, rfl, hR.rc⟩)
          | (have h78 : how = 7 ∨ how = 8 := by first | exact Or.inl zc61 | exact Or.inr zc67
             have h81 : ¬ inR (A.2.2.2.1 h).2 y := bI_eq0.mp zc81
             rw [if_pos ⟨h78, h81⟩]
             exact ⟨_, rfl, rfl, hR.rc⟩)
          | (rw [if_neg (fun z => z.2 (bI_ne0.mp zc81)), if_neg (by first | (rw [zc61]; decide) | (rw [zc67]; decide)), if_neg zc20, hcy, if_pos ((lg_cmp_eq _ _).mp zc101)]
             exact ⟨_, rfl, rfl, hR.rc⟩)
          | (rw [if_neg (fun z => z.2 (bI_ne0.mp zc81)), if_neg (by first | (rw [zc61]; decide) | (rw [zc67]; decide)), if_neg zc20, hcy, if_neg (fun z => zc101 ((lg_cmp_eq _ _).mpr z)), if_pos zc110, ← sdv_eq]
             exact ⟨_, rfl, rfl, hR.rc⟩)
          | (rw [if_neg (fun z => z.2 (bI_ne0.mp zc81)), if_neg (by first | (rw [zc61]; decide) | (rw [zc67]; decide)), if_neg zc20, hcy, if_neg (fun z => zc101 ((lg_cmp_eq _ _).mpr z)), if_neg zc110]
             refine ⟨_, rfl, ?_, hR.rc⟩
             exact rem_m1 _ _)
      · refine g_bipush (v := (-13)) dX10_rowAnswer_84 (by decide) ?_
        refine g_iret dX10_rowAnswer_86 rfl ?_
        first
        | (have e6 : ¬ (how = 7 ∨ how = 8) := by (rw [zc20]; decide)
           rw [if_neg (fun z => e6 z.1), if_neg (by rw [zc20]; decide), if_pos zc20]
           exact ⟨_, rfl, rfl, hR5.rc⟩)
        | (have hlt : how < 6 := h6lt hlo hhi zc20 zc61 zc67 h9 h10
           rw [if_neg (fun z => z.1.elim zc61 zc67), if_pos hlt]
           exact ⟨_, rfl, rfl, hR.rc⟩)
        | (have h78 : how = 7 ∨ how = 8 := by first | exact Or.inl zc61 | exact Or.inr zc67
           have h81 : ¬ inR (A.2.2.2.1 h).2 y := bI_eq0.mp zc81
           rw [if_pos ⟨h78, h81⟩]
           exact ⟨_, rfl, rfl, hR.rc⟩)
        | (rw [if_neg (fun z => z.2 (bI_ne0.mp zc81)), if_neg (by first | (rw [zc61]; decide) | (rw [zc67]; decide)), if_neg zc20, hcy, if_pos ((lg_cmp_eq _ _).mp zc101)]
           exact ⟨_, rfl, rfl, hR.rc⟩)
        | (rw [if_neg (fun z => z.2 (bI_ne0.mp zc81)), if_neg (by first | (rw [zc61]; decide) | (rw [zc67]; decide)), if_neg zc20, hcy, if_neg (fun z => zc101 ((lg_cmp_eq _ _).mpr z)), if_pos zc110, ← sdv_eq]
           exact ⟨_, rfl, rfl, hR.rc⟩)
        | (rw [if_neg (fun z => z.2 (bI_ne0.mp zc81)), if_neg (by first | (rw [zc61]; decide) | (rw [zc67]; decide)), if_neg zc20, hcy, if_neg (fun z => zc101 ((lg_cmp_eq _ _).mpr z)), if_neg zc110]
           refine ⟨_, rfl, ?_, hR.rc⟩
           exact rem_m1 _ _)
    · refine g_iload_n (i := 2) dX10_rowAnswer_64 rfl rfl ?_
      refine g_bipush (v := 8) dX10_rowAnswer_65 (by decide) ?_
      refine g_icmp_eq (tgt := 74) dX10_rowAnswer_67 (by decide) (fun zc67 => ?_) (fun zc67 => ?_)
      · refine g_aload dX10_rowAnswer_74 rfl ?_
        refine g_iload dX10_rowAnswer_76 rfl ?_
        refine g_callVi (My := mX5_hasPlace) [_] dX10_rowAnswer_78 lkX10_245 mvX5_hasPlace rfl (by first | exact hR.1.1 | exact p1.1 | exact r1 | exact r2) rfl (c_X5_hasPlace r1 r2 _) (by decide) (by decide) (by decide) rfl (Nat.le_of_ble_eq_true rfl) (fun zr78 σ zh78 => ?_)
        obtain ⟨ze78, zf78⟩ := zh78
        rw [ze78, zf78]
        refine g_if_ne (tgt := 87) dX10_rowAnswer_81 (by decide) (fun zc81 => ?_) (fun zc81 => ?_)
        · refine g_aload dX10_rowAnswer_87 rfl ?_
          obtain ⟨yy, hyy, rfl⟩ : ∃ yy : Nat, yy < (A.2.2.2.1 h).2.length ∧ y = nI yy := inR_ix r3 (bI_ne0.mp zc81)
          have hcy : (nI yy).toNatClampNeg = yy := nI_clamp (by omega)
          have hfy := r4 yy _ (getD_of hyy)
          refine g_getf dX10_rowAnswer_89 flX10_287 (by first | exact hR.1.1 | exact p1.1 | exact r1 | exact r2) rfl ?_
          refine g_iload dX10_rowAnswer_92 rfl ?_
          refine g_lald dX10_rowAnswer_94 (by first | exact hR.1.1 | exact p1.1 | exact r1 | exact r2) ((vp_in_nI hyy (by omega) : vp_in (nI yy) (A.2.2.2.1 h).2.length)) ?_
          refine g_tol ((A.2.2.2.1 h).2.getD yy 0) (by rw [hcy]; exact hfy) ?_
          refine g_lstore (ls' := [_, _, _, _, _, _, _, _, _, _]) dX10_rowAnswer_95 (by decide) rfl rfl ?_
          refine g_lload dX10_rowAnswer_97 rfl ?_
          refine g_lconst (v := 0) dX10_rowAnswer_99 (by decide) ?_
          refine g_lcmp dX10_rowAnswer_100 ?_
          refine g_if_ne (tgt := 107) dX10_rowAnswer_101 (by decide) (fun zc101 => ?_) (fun zc101 => ?_)
          · refine g_iload_n (i := 2) dX10_rowAnswer_107 rfl rfl ?_
            refine g_bipush (v := 7) dX10_rowAnswer_108 (by decide) ?_
            refine g_icmp_ne (tgt := 121) dX10_rowAnswer_110 (by decide) (fun zc110 => ?_) (fun zc110 => ?_)
            · refine g_lload dX10_rowAnswer_121 rfl ?_
              refine g_lload dX10_rowAnswer_123 rfl ?_
              refine g_lrem dX10_rowAnswer_125 (fun z => zc101 ((lg_cmp_eq _ _).mpr z)) ?_
              refine g_l2i dX10_rowAnswer_126 ?_
              refine g_iret dX10_rowAnswer_127 rfl ?_
              first
              | (have e6 : ¬ (how = 7 ∨ how = 8) := by (rw [zc20]; decide)
                 rw [if_neg (fun z => e6 z.1), if_neg (by rw [zc20]; decide), if_pos zc20]
                 exact ⟨_, rfl, rfl, hR5.rc⟩)
              | (have hlt : how < 6 := h6lt hlo hhi zc20 zc61 zc67 h9 h10
                 rw [if_neg (fun z => z.1.elim zc61 zc67), if_pos hlt]
                 exact ⟨_, rfl, rfl, hR.rc⟩)
              | (have h78 : how = 7 ∨ how = 8 := by first | exact Or.inl zc61 | exact Or.inr zc67
                 have h81 : ¬ inR (A.2.2.2.1 h).2 y := bI_eq0.mp zc81
                 rw [if_pos ⟨h78, h81⟩]
                 exact ⟨_, rfl, rfl, hR.rc⟩)
              | (rw [if_neg (fun z => z.2 (bI_ne0.mp zc81)), if_neg (by first | (rw [zc61]; decide) | (rw [zc67]; decide)), if_neg zc20, hcy, if_pos ((lg_cmp_eq _ _).mp zc101)]
                 exact ⟨_, rfl, rfl, hR.rc⟩)
              | (rw [if_neg (fun z => z.2 (bI_ne0.mp zc81)), if_neg (by first | (rw [zc61]; decide) | (rw [zc67]; decide)), if_neg zc20, hcy, if_neg (fun z => zc101 ((lg_cmp_eq _ _).mpr z)), if_pos zc110, ← sdv_eq]
                 exact ⟨_, rfl, rfl, hR.rc⟩)
              | (rw [if_neg (fun z => z.2 (bI_ne0.mp zc81)), if_neg (by first | (rw [zc61]; decide) | (rw [zc67]; decide)), if_neg zc20, hcy, if_neg (fun z => zc101 ((lg_cmp_eq _ _).mpr z)), if_neg zc110]
                 refine ⟨_, rfl, ?_, hR.rc⟩
                 exact rem_m1 _ _)
            · refine g_lload dX10_rowAnswer_113 rfl ?_
              refine g_lload dX10_rowAnswer_115 rfl ?_
              refine g_ldiv dX10_rowAnswer_117 (fun z => zc101 ((lg_cmp_eq _ _).mpr z)) ?_
              refine g_goto (tgt := 126) dX10_rowAnswer_118 (by decide) ?_
              refine g_l2i dX10_rowAnswer_126 ?_
              refine g_iret dX10_rowAnswer_127 rfl ?_
              first
              | (have e6 : ¬ (how = 7 ∨ how = 8) := by (rw [zc20]; decide)
                 rw [if_neg (fun z => e6 z.1), if_neg (by rw [zc20]; decide), if_pos zc20]
                 exact ⟨_, rfl, rfl, hR5.rc⟩)
              | (have hlt : how < 6 := h6lt hlo hhi zc20 zc61 zc67 h9 h10
                 rw [if_neg (fun z => z.1.elim zc61 zc67), if_pos hlt]
                 exact ⟨_, rfl, rfl, hR.rc⟩)
              | (have h78 : how = 7 ∨ how = 8 := by first | exact Or.inl zc61 | exact Or.inr zc67
                 have h81 : ¬ inR (A.2.2.2.1 h).2 y := bI_eq0.mp zc81
                 rw [if_pos ⟨h78, h81⟩]
                 exact ⟨_, rfl, rfl, hR.rc⟩)
              | (rw [if_neg (fun z => z.2 (bI_ne0.mp zc81)), if_neg (by first | (rw [zc61]; decide) | (rw [zc67]; decide)), if_neg zc20, hcy, if_pos ((lg_cmp_eq _ _).mp zc101)]
                 exact ⟨_, rfl, rfl, hR.rc⟩)
              | (rw [if_neg (fun z => z.2 (bI_ne0.mp zc81)), if_neg (by first | (rw [zc61]; decide) | (rw [zc67]; decide)), if_neg zc20, hcy, if_neg (fun z => zc101 ((lg_cmp_eq _ _).mpr z)), if_pos zc110, ← sdv_eq]
                 exact ⟨_, rfl, rfl, hR.rc⟩)
              | (rw [if_neg (fun z => z.2 (bI_ne0.mp zc81)), if_neg (by first | (rw [zc61]; decide) | (rw [zc67]; decide)), if_neg zc20, hcy, if_neg (fun z => zc101 ((lg_cmp_eq _ _).mpr z)), if_neg zc110]
                 refine ⟨_, rfl, ?_, hR.rc⟩
                 exact rem_m1 _ _)
          · refine g_bipush (v := (-16)) dX10_rowAnswer_104 (by decide) ?_
            refine g_iret dX10_rowAnswer_106 rfl ?_
            first
            | (have e6 : ¬ (how = 7 ∨ how = 8) := by (rw [zc20]; decide)
               rw [if_neg (fun z => e6 z.1), if_neg (by rw [zc20]; decide), if_pos zc20]
               exact ⟨_, rfl, rfl, hR5.rc⟩)
            | (have hlt : how < 6 := h6lt hlo hhi zc20 zc61 zc67 h9 h10
               rw [if_neg (fun z => z.1.elim zc61 zc67), if_pos hlt]
               exact ⟨_, rfl, rfl, hR.rc⟩)
            | (have h78 : how = 7 ∨ how = 8 := by first | exact Or.inl zc61 | exact Or.inr zc67
               have h81 : ¬ inR (A.2.2.2.1 h).2 y := bI_eq0.mp zc81
               rw [if_pos ⟨h78, h81⟩]
               exact ⟨_, rfl, rfl, hR.rc⟩)
            | (rw [if_neg (fun z => z.2 (bI_ne0.mp zc81)), if_neg (by first | (rw [zc61]; decide) | (rw [zc67]; decide)), if_neg zc20, hcy, if_pos ((lg_cmp_eq _ _).mp zc101)]
               exact ⟨_, rfl, rfl, hR.rc⟩)
            | (rw [if_neg (fun z => z.2 (bI_ne0.mp zc81)), if_neg (by first | (rw [zc61]; decide) | (rw [zc67]; decide)), if_neg zc20, hcy, if_neg (fun z => zc101 ((lg_cmp_eq _ _).mpr z)), if_pos zc110, ← sdv_eq]
               exact ⟨_, rfl, rfl, hR.rc⟩)
            | (rw [if_neg (fun z => z.2 (bI_ne0.mp zc81)), if_neg (by first | (rw [zc61]; decide) | (rw [zc67]; decide)), if_neg zc20, hcy, if_neg (fun z => zc101 ((lg_cmp_eq _ _).mpr z)), if_neg zc110]
               refine ⟨_, rfl, ?_, hR.rc⟩
               exact rem_m1 _ _)
        · refine g_bipush (v := (-13)) dX10_rowAnswer_84 (by decide) ?_
          refine g_iret dX10_rowAnswer_86 rfl ?_
          first
          | (have e6 : ¬ (how = 7 ∨ how = 8) := by (rw [zc20]; decide)
             rw [if_neg (fun z => e6 z.1), if_neg (by rw [zc20]; decide), if_pos zc20]
             exact ⟨_, rfl, rfl, hR5.rc⟩)
          | (have hlt : how < 6 := h6lt hlo hhi zc20 zc61 zc67 h9 h10
             rw [if_neg (fun z => z.1.elim zc61 zc67), if_pos hlt]
             exact ⟨_, rfl, rfl, hR.rc⟩)
          | (have h78 : how = 7 ∨ how = 8 := by first | exact Or.inl zc61 | exact Or.inr zc67
             have h81 : ¬ inR (A.2.2.2.1 h).2 y := bI_eq0.mp zc81
             rw [if_pos ⟨h78, h81⟩]
             exact ⟨_, rfl, rfl, hR.rc⟩)
          | (rw [if_neg (fun z => z.2 (bI_ne0.mp zc81)), if_neg (by first | (rw [zc61]; decide) | (rw [zc67]; decide)), if_neg zc20, hcy, if_pos ((lg_cmp_eq _ _).mp zc101)]
             exact ⟨_, rfl, rfl, hR.rc⟩)
          | (rw [if_neg (fun z => z.2 (bI_ne0.mp zc81)), if_neg (by first | (rw [zc61]; decide) | (rw [zc67]; decide)), if_neg zc20, hcy, if_neg (fun z => zc101 ((lg_cmp_eq _ _).mpr z)), if_pos zc110, ← sdv_eq]
             exact ⟨_, rfl, rfl, hR.rc⟩)
          | (rw [if_neg (fun z => z.2 (bI_ne0.mp zc81)), if_neg (by first | (rw [zc61]; decide) | (rw [zc67]; decide)), if_neg zc20, hcy, if_neg (fun z => zc101 ((lg_cmp_eq _ _).mpr z)), if_neg zc110]
             refine ⟨_, rfl, ?_, hR.rc⟩
             exact rem_m1 _ _)
      · refine g_lload dX10_rowAnswer_70 rfl ?_
        refine g_l2i dX10_rowAnswer_72 ?_
        refine g_iret dX10_rowAnswer_73 rfl ?_
        first
        | (have e6 : ¬ (how = 7 ∨ how = 8) := by (rw [zc20]; decide)
           rw [if_neg (fun z => e6 z.1), if_neg (by rw [zc20]; decide), if_pos zc20]
           exact ⟨_, rfl, rfl, hR5.rc⟩)
        | (have hlt : how < 6 := h6lt hlo hhi zc20 zc61 zc67 h9 h10
           rw [if_neg (fun z => z.1.elim zc61 zc67), if_pos hlt]
           exact ⟨_, rfl, rfl, hR.rc⟩)
        | (have h78 : how = 7 ∨ how = 8 := by first | exact Or.inl zc61 | exact Or.inr zc67
           have h81 : ¬ inR (A.2.2.2.1 h).2 y := bI_eq0.mp zc81
           rw [if_pos ⟨h78, h81⟩]
           exact ⟨_, rfl, rfl, hR.rc⟩)
        | (rw [if_neg (fun z => z.2 (bI_ne0.mp zc81)), if_neg (by first | (rw [zc61]; decide) | (rw [zc67]; decide)), if_neg zc20, hcy, if_pos ((lg_cmp_eq _ _).mp zc101)]
           exact ⟨_, rfl, rfl, hR.rc⟩)
        | (rw [if_neg (fun z => z.2 (bI_ne0.mp zc81)), if_neg (by first | (rw [zc61]; decide) | (rw [zc67]; decide)), if_neg zc20, hcy, if_neg (fun z => zc101 ((lg_cmp_eq _ _).mpr z)), if_pos zc110, ← sdv_eq]
           exact ⟨_, rfl, rfl, hR.rc⟩)
        | (rw [if_neg (fun z => z.2 (bI_ne0.mp zc81)), if_neg (by first | (rw [zc61]; decide) | (rw [zc67]; decide)), if_neg zc20, hcy, if_neg (fun z => zc101 ((lg_cmp_eq _ _).mpr z)), if_neg zc110]
           refine ⟨_, rfl, ?_, hR.rc⟩
           exact rem_m1 _ _)
  · refine g_aload dX10_rowAnswer_23 rfl ?_
    refine g_getf dX10_rowAnswer_25 flX10_287 (by first | exact hR.1.1 | exact p1.1 | exact r1 | exact r2) rfl ?_
    refine g_iload_n (i := 3) dX10_rowAnswer_28 rfl rfl ?_
    refine g_iload dX10_rowAnswer_29 rfl ?_
    refine g_i2l dX10_rowAnswer_31 ?_
    refine g_last dX10_rowAnswer_32 (by first | exact hR.1.1 | exact p1.1 | exact r1 | exact r2) ((vp_in_nI hp (by omega) : vp_in (nI p) (A.2.2.2.1 h).2.length)) ?_
    rw [hcp]
    have hR2 := r5 y.toInt64
    refine g_aload_n (i := 0) dX10_rowAnswer_33 rfl rfl ?_
    refine g_getf dX10_rowAnswer_34 flX10_39 (hR2.1.1) rfl ?_
    refine g_new dX10_rowAnswer_37 nwX10_100 (by decide) (by decide) (fun zq37 zhq37 => ?_)
    refine g_dup dX10_rowAnswer_40 rfl ?_
    refine g_iconst (v := 5) dX10_rowAnswer_41 (by decide) ?_
    refine g_iload_n (i := 1) dX10_rowAnswer_42 rfl rfl ?_
    refine g_iload_n (i := 3) dX10_rowAnswer_43 rfl rfl ?_
    refine g_lload dX10_rowAnswer_44 rfl ?_
    refine g_aload dX10_rowAnswer_46 rfl ?_
    refine g_callIv (My := mX0_init) [_, _, _, _, _] dX10_rowAnswer_48 lkX10_102 mvX0_init rfl (c_X0_init (su_self _ _ _) _ _ _ _) (by decide) (by decide) (by decide) rfl (Nat.le_of_ble_eq_true rfl) (fun σ zh48 => ?_)
    rw [zh48, su_su]
    have hR4 := hR2.new (Sm.none zhq37 (gO 0 [.int 5, .int (nI h), .int (nI p), .long ((A.2.2.2.1 h).2.getD p 0), .ref (hk h)]) 51)
    have hq := AcC.mk (σ := su τ c (gAl (A.2.2.2.1 h).2.length (vp_updL f p y.toInt64))) (ow := ow) (q := zq37) ((6, h, p, (A.2.2.2.1 h).2.getD p 0, (0, [])), some (hk h))
    refine g_callVv (My := mX4_add) [_] dX10_rowAnswer_51 lkX10_105 mvX4_add rfl (hR4.hs.choose_spec) rfl (c_note hR4 hq (show ¬ (6 : Nat) = 5 by decide) (fun _ => rfl)) (by decide) (by decide) (by decide) rfl (Nat.le_of_ble_eq_true rfl) (fun σ zh51 => ?_)
    obtain ⟨-, hR5⟩ := zh51
    refine g_lload dX10_rowAnswer_54 rfl ?_
    refine g_l2i dX10_rowAnswer_56 ?_
    refine g_iret dX10_rowAnswer_57 rfl ?_
    first
    | (have e6 : ¬ (how = 7 ∨ how = 8) := by (rw [zc20]; decide)
       rw [if_neg (fun z => e6 z.1), if_neg (by rw [zc20]; decide), if_pos zc20]
       exact ⟨_, rfl, rfl, hR5.rc⟩)
    | (have hlt : how < 6 := h6lt hlo hhi zc20 zc61 zc67 h9 h10
       rw [if_neg (fun z => z.1.elim zc61 zc67), if_pos hlt]
       exact ⟨_, rfl, rfl, hR.rc⟩)
    | (have h78 : how = 7 ∨ how = 8 := by first | exact Or.inl zc61 | exact Or.inr zc67
       have h81 : ¬ inR (A.2.2.2.1 h).2 y := bI_eq0.mp zc81
       rw [if_pos ⟨h78, h81⟩]
       exact ⟨_, rfl, rfl, hR.rc⟩)
    | (rw [if_neg (fun z => z.2 (bI_ne0.mp zc81)), if_neg (by first | (rw [zc61]; decide) | (rw [zc67]; decide)), if_neg zc20, hcy, if_pos ((lg_cmp_eq _ _).mp zc101)]
       exact ⟨_, rfl, rfl, hR.rc⟩)
    | (rw [if_neg (fun z => z.2 (bI_ne0.mp zc81)), if_neg (by first | (rw [zc61]; decide) | (rw [zc67]; decide)), if_neg zc20, hcy, if_neg (fun z => zc101 ((lg_cmp_eq _ _).mpr z)), if_pos zc110, ← sdv_eq]
       exact ⟨_, rfl, rfl, hR.rc⟩)
    | (rw [if_neg (fun z => z.2 (bI_ne0.mp zc81)), if_neg (by first | (rw [zc61]; decide) | (rw [zc67]; decide)), if_neg zc20, hcy, if_neg (fun z => zc101 ((lg_cmp_eq _ _).mpr z)), if_neg zc110]
       refine ⟨_, rfl, ?_, hR.rc⟩
       exact rem_m1 _ _)
theorem t42_X10_use (hR : RC τ x A) {h : Nat} (hh : h < 8) {how xx y : Int32} (hlo : ¬ how < 0) (hhi : how ≤ 10) {hk : Nat → Nat} {ow : Nat → Nat} (hH : HoC τ ow (hk h) (A.2.2.2.1 h)) : G l mX10_use 3 1 5 (pI (cP x (use1 A h how xx y))) τ 42 [some (.ref x), some (.int (nI h)), some (.int how), some (.int xx), some (.int y), some (.ref (hk h))] [] := by
  obtain ⟨sk, sy, c, n, f, r1, r2, r3, r4⟩ := hH
  by_cases h10 : how = 10
  · by_cases hk0 : (A.2.2.2.1 h).1 = 0
    · have hv : use1 A h how xx y = (-15, A) := by
        unfold use1
        rw [if_pos hk0, if_pos h10]
      rw [hv]
      refine g_iload_n (i := 2) dX10_use_42 rfl rfl ?_
      refine g_bipush (v := 10) dX10_use_43 (by decide) ?_
      refine g_icmp_ne (tgt := 64) dX10_use_45 (by decide) (fun zc45 => ?_) (fun zc45 => ?_)
      · exact absurd h10 zc45
      · refine g_aload dX10_use_48 rfl ?_
        refine g_getf dX10_use_50 flX10_225 (r1.1) rfl ?_
        refine g_if_ne (tgt := 61) dX10_use_53 (by decide) (fun zc53 => ?_) (fun zc53 => ?_)
        · exact absurd hk0 zc53
        · refine g_bipush (v := (-15)) dX10_use_56 (by decide) ?_
          refine g_goto (tgt := 63) dX10_use_58 (by decide) ?_
          refine g_iret dX10_use_63 rfl ?_
          exact ⟨_, rfl, rfl, hR⟩
    · have hv : use1 A h how xx y = (-11, A) := by
        unfold use1
        rw [if_neg hk0, if_pos h10]
      rw [hv]
      refine g_iload_n (i := 2) dX10_use_42 rfl rfl ?_
      refine g_bipush (v := 10) dX10_use_43 (by decide) ?_
      refine g_icmp_ne (tgt := 64) dX10_use_45 (by decide) (fun zc45 => ?_) (fun zc45 => ?_)
      · exact absurd h10 zc45
      · refine g_aload dX10_use_48 rfl ?_
        refine g_getf dX10_use_50 flX10_225 (r1.1) rfl ?_
        refine g_if_ne (tgt := 61) dX10_use_53 (by decide) (fun zc53 => ?_) (fun zc53 => ?_)
        · refine g_bipush (v := (-11)) dX10_use_61 (by decide) ?_
          refine g_iret dX10_use_63 rfl ?_
          exact ⟨_, rfl, rfl, hR⟩
        · exact absurd zc53 hk0
  · by_cases hk0 : (A.2.2.2.1 h).1 = 0
    · have hv : use1 A h how xx y = (-12, A) := by
        unfold use1
        rw [if_pos hk0, if_neg h10]
      rw [hv]
      refine g_iload_n (i := 2) dX10_use_42 rfl rfl ?_
      refine g_bipush (v := 10) dX10_use_43 (by decide) ?_
      refine g_icmp_ne (tgt := 64) dX10_use_45 (by decide) (fun zc45 => ?_) (fun zc45 => ?_)
      · refine g_aload dX10_use_64 rfl ?_
        refine g_getf dX10_use_66 flX10_225 (r1.1) rfl ?_
        refine g_if_ne (tgt := 75) dX10_use_69 (by decide) (fun zc69 => ?_) (fun zc69 => ?_)
        · exact absurd hk0 zc69
        · refine g_bipush (v := (-12)) dX10_use_72 (by decide) ?_
          refine g_iret dX10_use_74 rfl ?_
          exact ⟨_, rfl, rfl, hR⟩
      · exact absurd zc45 h10
    · obtain ⟨j, hj, rfl⟩ := ixle 10 (by decide) hlo hhi
      have hj10 : j < 10 := by
        rcases Nat.lt_or_ge j 10 with z | z
        · exact z
        · exact absurd (by rw [show j = 10 by omega]; rfl) h10
      have htk := nd_tk hj10
      by_cases hn : (A.2.2.2.1 h).1 = nd (nI j)
      · by_cases h0 : nI j = 0
        · have hk1 : (A.2.2.2.1 h).1 = 1 := by rw [hn, h0]; decide
          have hL : (A.2.2.2.1 h).2 = [sk.toInt64, sy] := by
            rcases r4 with z | z
            · exact z.2.2
            · exact absurd hk1 z.1
          have hv : use1 A h (nI j) xx y = (sk, A) := by
            unfold use1
            rw [if_neg hk0, if_neg h10, if_neg (fun z => z hn), if_pos h0, hL]
            show ((sk.toInt64).toInt32, A) = (sk, A)
            rw [Int32.toInt32_toInt64]
          rw [hv]
          refine g_iload_n (i := 2) dX10_use_42 rfl rfl ?_
          refine g_bipush (v := 10) dX10_use_43 (by decide) ?_
          refine g_icmp_ne (tgt := 64) dX10_use_45 (by decide) (fun zc45 => ?_) (fun zc45 => ?_)
          · refine g_aload dX10_use_64 rfl ?_
            refine g_getf dX10_use_66 flX10_225 (r1.1) rfl ?_
            refine g_if_ne (tgt := 75) dX10_use_69 (by decide) (fun zc69 => ?_) (fun zc69 => ?_)
            · refine g_aload dX10_use_75 rfl ?_
              refine g_getf dX10_use_77 flX10_225 (r1.1) rfl ?_
              refine g_taken hj10 rfl ?_
              rw [htk]
              refine g_icmp_ne (tgt := 101) dX10_use_85 (by decide) (fun zc85 => ?_) (fun zc85 => ?_)
              · exact absurd hn zc85
              · refine g_iload_n (i := 2) dX10_use_88 rfl rfl ?_
                refine g_iconst (v := 1) dX10_use_89 (by decide) ?_
                refine g_icmp_ne (tgt := 104) dX10_use_90 (by decide) (fun zc90 => ?_) (fun zc90 => ?_)
                · refine g_aload dX10_use_104 rfl ?_
                  refine g_getf dX10_use_106 flX10_225 (r1.1) rfl ?_
                  refine g_iconst (v := 1) dX10_use_109 (by decide) ?_
                  refine g_icmp_ne (tgt := 133) dX10_use_110 (by decide) (fun zc110 => ?_) (fun zc110 => ?_)
                  · exact absurd hk1 zc110
                  · refine g_iload_n (i := 2) dX10_use_113 rfl rfl ?_
                    refine g_iconst (v := 1) dX10_use_114 (by decide) ?_
                    refine g_icmp_ne (tgt := 127) dX10_use_115 (by decide) (fun zc115 => ?_) (fun zc115 => ?_)
                    · refine g_aload dX10_use_127 rfl ?_
                      refine g_getf dX10_use_129 flX10_238 (r1.1) rfl ?_
                      refine g_iret dX10_use_132 rfl ?_
                      exact ⟨_, rfl, rfl, hR⟩
                    · exact absurd (h0.symm.trans zc115) (by decide)
                · exact absurd (h0.symm.trans zc90) (by decide)
            · exact absurd zc69 hk0
          · exact absurd zc45 h10
        · by_cases h1 : nI j = 1
          · have hk1 : (A.2.2.2.1 h).1 = 1 := by rw [hn, h1]; decide
            have hL : (A.2.2.2.1 h).2 = [sk.toInt64, sy] := by
              rcases r4 with z | z
              · exact z.2.2
              · exact absurd hk1 z.1
            have hv : use1 A h (nI j) xx y = (if sk.toInt64 < 2 ∨ 4 < sk.toInt64 then -11 else sy.toInt32, A) := by
              unfold use1
              rw [if_neg hk0, if_neg h10, if_neg (fun z => z hn), if_neg h0, if_pos h1, hL]
              rfl
            have hml : (sk.toInt64 < 2 ∨ 4 < sk.toInt64) ↔ ¬ (¬ sk < 2 ∧ ¬ 4 < sk) := by
              rw [Int64.lt_iff_toInt_lt, Int64.lt_iff_toInt_lt, Int32.lt_iff_toInt_lt, Int32.lt_iff_toInt_lt, Int32.toInt_toInt64, show (2 : Int64).toInt = 2 from by decide, show (4 : Int64).toInt = 4 from by decide, show (2 : Int32).toInt = 2 from by decide, show (4 : Int32).toInt = 4 from by decide]
              omega
            rw [hv]
            refine g_iload_n (i := 2) dX10_use_42 rfl rfl ?_
            refine g_bipush (v := 10) dX10_use_43 (by decide) ?_
            refine g_icmp_ne (tgt := 64) dX10_use_45 (by decide) (fun zc45 => ?_) (fun zc45 => ?_)
            · refine g_aload dX10_use_64 rfl ?_
              refine g_getf dX10_use_66 flX10_225 (r1.1) rfl ?_
              refine g_if_ne (tgt := 75) dX10_use_69 (by decide) (fun zc69 => ?_) (fun zc69 => ?_)
              · refine g_aload dX10_use_75 rfl ?_
                refine g_getf dX10_use_77 flX10_225 (r1.1) rfl ?_
                refine g_taken hj10 rfl ?_
                rw [htk]
                refine g_icmp_ne (tgt := 101) dX10_use_85 (by decide) (fun zc85 => ?_) (fun zc85 => ?_)
                · exact absurd hn zc85
                · refine g_iload_n (i := 2) dX10_use_88 rfl rfl ?_
                  refine g_iconst (v := 1) dX10_use_89 (by decide) ?_
                  refine g_icmp_ne (tgt := 104) dX10_use_90 (by decide) (fun zc90 => ?_) (fun zc90 => ?_)
                  · exact absurd h1 zc90
                  · refine g_aload dX10_use_93 rfl ?_
                    refine g_callVi (My := mX5_multiplies) [] dX10_use_95 lkX10_231 mvX5_multiplies rfl (r1.1) rfl (c_X5_multiplies r1.1) (by decide) (by decide) (by decide) rfl (Nat.le_of_ble_eq_true rfl) (fun zr95 σ zh95 => ?_)
                    obtain ⟨ze95, zf95⟩ := zh95
                    rw [ze95, zf95]
                    refine g_if_ne (tgt := 104) dX10_use_98 (by decide) (fun zc98 => ?_) (fun zc98 => ?_)
                    · refine g_aload dX10_use_104 rfl ?_
                      refine g_getf dX10_use_106 flX10_225 (r1.1) rfl ?_
                      refine g_iconst (v := 1) dX10_use_109 (by decide) ?_
                      refine g_icmp_ne (tgt := 133) dX10_use_110 (by decide) (fun zc110 => ?_) (fun zc110 => ?_)
                      · exact absurd hk1 zc110
                      · refine g_iload_n (i := 2) dX10_use_113 rfl rfl ?_
                        refine g_iconst (v := 1) dX10_use_114 (by decide) ?_
                        refine g_icmp_ne (tgt := 127) dX10_use_115 (by decide) (fun zc115 => ?_) (fun zc115 => ?_)
                        · exact absurd h1 zc115
                        · refine g_aload dX10_use_118 rfl ?_
                          refine g_getf dX10_use_120 flX10_235 (r1.1) rfl ?_
                          refine g_l2i dX10_use_123 ?_
                          refine g_goto (tgt := 132) dX10_use_124 (by decide) ?_
                          refine g_iret dX10_use_132 rfl ?_
                          first
                          | (rw [if_pos (hml.mpr (bI_eq0.mp zc98))]
                             exact ⟨_, rfl, rfl, hR⟩)
                          | (rw [if_neg (fun z => hml.mp z (bI_ne0.mp zc98))]
                             exact ⟨_, rfl, rfl, hR⟩)
                    · refine g_bipush (v := (-11)) dX10_use_101 (by decide) ?_
                      refine g_iret dX10_use_103 rfl ?_
                      first
                      | (rw [if_pos (hml.mpr (bI_eq0.mp zc98))]
                         exact ⟨_, rfl, rfl, hR⟩)
                      | (rw [if_neg (fun z => hml.mp z (bI_ne0.mp zc98))]
                         exact ⟨_, rfl, rfl, hR⟩)
              · exact absurd zc69 hk0
            · exact absurd zc45 h10
          · have hk1 : ¬ (A.2.2.2.1 h).1 = 1 := by
              rw [hn]
              have c0 : ¬ j = 0 := fun e => h0 (by rw [e]; rfl)
              have c1 : ¬ j = 1 := fun e => h1 (by rw [e]; rfl)
              rcases (show j = 2 ∨ j = 3 ∨ j = 4 ∨ j = 5 ∨ j = 6 ∨ j = 7 ∨ j = 8 ∨ j = 9 by omega) with rfl | rfl | rfl | rfl | rfl | rfl | rfl | rfl <;> decide
            have hL : n = (A.2.2.2.1 h).2.length := by
              rcases r4 with z | z
              · exact absurd z.1 hk1
              · exact z.2.1
            subst hL
            by_cases h9 : nI j = 9
            · have hv : use1 A h (nI j) xx y = (if xx < 0 then -14 else if y < 0 ∨ xx < y ∨ nI (A.2.2.2.1 h).2.length < y then -13 else y, A) := by
                unfold use1
                rw [if_neg hk0, if_neg h10, if_neg (fun z => z hn), if_neg h0, if_neg h1, if_pos h9]
              rw [hv]
              refine g_iload_n (i := 2) dX10_use_42 rfl rfl ?_
              refine g_bipush (v := 10) dX10_use_43 (by decide) ?_
              refine g_icmp_ne (tgt := 64) dX10_use_45 (by decide) (fun zc45 => ?_) (fun zc45 => ?_)
              · refine g_aload dX10_use_64 rfl ?_
                refine g_getf dX10_use_66 flX10_225 (r1.1) rfl ?_
                refine g_if_ne (tgt := 75) dX10_use_69 (by decide) (fun zc69 => ?_) (fun zc69 => ?_)
                · refine g_aload dX10_use_75 rfl ?_
                  refine g_getf dX10_use_77 flX10_225 (r1.1) rfl ?_
                  refine g_taken hj10 rfl ?_
                  rw [htk]
                  refine g_icmp_ne (tgt := 101) dX10_use_85 (by decide) (fun zc85 => ?_) (fun zc85 => ?_)
                  · exact absurd hn zc85
                  · refine g_iload_n (i := 2) dX10_use_88 rfl rfl ?_
                    refine g_iconst (v := 1) dX10_use_89 (by decide) ?_
                    refine g_icmp_ne (tgt := 104) dX10_use_90 (by decide) (fun zc90 => ?_) (fun zc90 => ?_)
                    · refine g_aload dX10_use_104 rfl ?_
                      refine g_getf dX10_use_106 flX10_225 (r1.1) rfl ?_
                      refine g_iconst (v := 1) dX10_use_109 (by decide) ?_
                      refine g_icmp_ne (tgt := 133) dX10_use_110 (by decide) (fun zc110 => ?_) (fun zc110 => ?_)
                      · refine g_iload_n (i := 2) dX10_use_133 rfl rfl ?_
                        refine g_bipush (v := 9) dX10_use_134 (by decide) ?_
                        refine g_icmp_ne (tgt := 148) dX10_use_136 (by decide) (fun zc136 => ?_) (fun zc136 => ?_)
                        · exact absurd h9 zc136
                        · refine g_aload dX10_use_139 rfl ?_
                          refine g_iload_n (i := 3) dX10_use_141 rfl rfl ?_
                          refine g_iload dX10_use_142 rfl ?_
                          refine g_callSi (My := mX10_copyAnswer) [_, _, _] dX10_use_144 lkX10_241 mvX10_copyAnswer rfl (c_X10_copyAnswer r1.1 r2.1 _ _) (by decide) (by decide) (by decide) rfl (Nat.le_of_ble_eq_true rfl) (fun zr144 σ zh144 => ?_)
                          obtain ⟨ze144, zf144⟩ := zh144
                          rw [ze144, zf144]
                          refine g_iret dX10_use_147 rfl ?_
                          exact ⟨_, rfl, rfl, hR⟩
                      · exact absurd zc110 hk1
                    · exact absurd zc90 h1
                · exact absurd zc69 hk0
              · exact absurd zc45 h10
            · by_cases hx : inR (A.2.2.2.1 h).2 xx
              · obtain ⟨p, hp, rfl⟩ := inR_ix r3 hx
                have hRx := hR
                obtain ⟨ow', ad', hk', cs', ff', hRx⟩ := hRx
                refine g_iload_n (i := 2) dX10_use_42 rfl rfl ?_
                refine g_bipush (v := 10) dX10_use_43 (by decide) ?_
                refine g_icmp_ne (tgt := 64) dX10_use_45 (by decide) (fun zc45 => ?_) (fun zc45 => ?_)
                · refine g_aload dX10_use_64 rfl ?_
                  refine g_getf dX10_use_66 flX10_225 (r1.1) rfl ?_
                  refine g_if_ne (tgt := 75) dX10_use_69 (by decide) (fun zc69 => ?_) (fun zc69 => ?_)
                  · refine g_aload dX10_use_75 rfl ?_
                    refine g_getf dX10_use_77 flX10_225 (r1.1) rfl ?_
                    refine g_taken hj10 rfl ?_
                    rw [htk]
                    refine g_icmp_ne (tgt := 101) dX10_use_85 (by decide) (fun zc85 => ?_) (fun zc85 => ?_)
                    · exact absurd hn zc85
                    · refine g_iload_n (i := 2) dX10_use_88 rfl rfl ?_
                      refine g_iconst (v := 1) dX10_use_89 (by decide) ?_
                      refine g_icmp_ne (tgt := 104) dX10_use_90 (by decide) (fun zc90 => ?_) (fun zc90 => ?_)
                      · refine g_aload dX10_use_104 rfl ?_
                        refine g_getf dX10_use_106 flX10_225 (r1.1) rfl ?_
                        refine g_iconst (v := 1) dX10_use_109 (by decide) ?_
                        refine g_icmp_ne (tgt := 133) dX10_use_110 (by decide) (fun zc110 => ?_) (fun zc110 => ?_)
                        · refine g_iload_n (i := 2) dX10_use_133 rfl rfl ?_
                          refine g_bipush (v := 9) dX10_use_134 (by decide) ?_
                          refine g_icmp_ne (tgt := 148) dX10_use_136 (by decide) (fun zc136 => ?_) (fun zc136 => ?_)
                          · refine g_aload dX10_use_148 rfl ?_
                            refine g_iload_n (i := 3) dX10_use_150 rfl rfl ?_
                            refine g_callVi (My := mX5_hasPlace) [_] dX10_use_151 lkX10_245 mvX5_hasPlace rfl (r1.1) rfl (c_X5_hasPlace r1.1 r2.1 _) (by decide) (by decide) (by decide) rfl (Nat.le_of_ble_eq_true rfl) (fun zr151 σ zh151 => ?_)
                            obtain ⟨ze151, zf151⟩ := zh151
                            rw [ze151, zf151]
                            refine g_if_eq (tgt := 169) dX10_use_154 (by decide) (fun zc154 => ?_) (fun zc154 => ?_)
                            · exact absurd hx (bI_eq0.mp zc154)
                            · refine g_aload_n (i := 0) dX10_use_157 rfl rfl ?_
                              refine g_iload_n (i := 1) dX10_use_158 rfl rfl ?_
                              refine g_iload_n (i := 2) dX10_use_159 rfl rfl ?_
                              refine g_iload_n (i := 3) dX10_use_160 rfl rfl ?_
                              refine g_iload dX10_use_161 rfl ?_
                              refine g_callVi (My := mX10_rowAnswer) [_, _, _, _] dX10_use_163 lkX10_248 mvX10_rowAnswer rfl (hRx.1.1) rfl (c_X10_rowAnswer hR hh hp hk0 hk1 h10 hn h0 h1 h9 hlo hhi) (by decide) (by decide) (by decide) rfl (Nat.le_of_ble_eq_true rfl) (fun zr163 σ zh163 => ?_)
                              obtain ⟨ze163, hR2⟩ := zh163
                              rw [ze163]
                              refine g_goto (tgt := 171) dX10_use_166 (by decide) ?_
                              refine g_iret dX10_use_171 rfl ?_
                              exact ⟨_, rfl, rfl, hR2⟩
                          · exact absurd zc136 h9
                        · exact absurd zc110 hk1
                      · exact absurd zc90 h1
                  · exact absurd zc69 hk0
                · exact absurd zc45 h10
              · have hv : use1 A h (nI j) xx y = (-13, A) := by
                  unfold use1
                  rw [if_neg hk0, if_neg h10, if_neg (fun z => z hn), if_neg h0, if_neg h1, if_neg h9, if_pos (Or.inl hx)]
                rw [hv]
                refine g_iload_n (i := 2) dX10_use_42 rfl rfl ?_
                refine g_bipush (v := 10) dX10_use_43 (by decide) ?_
                refine g_icmp_ne (tgt := 64) dX10_use_45 (by decide) (fun zc45 => ?_) (fun zc45 => ?_)
                · refine g_aload dX10_use_64 rfl ?_
                  refine g_getf dX10_use_66 flX10_225 (r1.1) rfl ?_
                  refine g_if_ne (tgt := 75) dX10_use_69 (by decide) (fun zc69 => ?_) (fun zc69 => ?_)
                  · refine g_aload dX10_use_75 rfl ?_
                    refine g_getf dX10_use_77 flX10_225 (r1.1) rfl ?_
                    refine g_taken hj10 rfl ?_
                    rw [htk]
                    refine g_icmp_ne (tgt := 101) dX10_use_85 (by decide) (fun zc85 => ?_) (fun zc85 => ?_)
                    · exact absurd hn zc85
                    · refine g_iload_n (i := 2) dX10_use_88 rfl rfl ?_
                      refine g_iconst (v := 1) dX10_use_89 (by decide) ?_
                      refine g_icmp_ne (tgt := 104) dX10_use_90 (by decide) (fun zc90 => ?_) (fun zc90 => ?_)
                      · refine g_aload dX10_use_104 rfl ?_
                        refine g_getf dX10_use_106 flX10_225 (r1.1) rfl ?_
                        refine g_iconst (v := 1) dX10_use_109 (by decide) ?_
                        refine g_icmp_ne (tgt := 133) dX10_use_110 (by decide) (fun zc110 => ?_) (fun zc110 => ?_)
                        · refine g_iload_n (i := 2) dX10_use_133 rfl rfl ?_
                          refine g_bipush (v := 9) dX10_use_134 (by decide) ?_
                          refine g_icmp_ne (tgt := 148) dX10_use_136 (by decide) (fun zc136 => ?_) (fun zc136 => ?_)
                          · refine g_aload dX10_use_148 rfl ?_
                            refine g_iload_n (i := 3) dX10_use_150 rfl rfl ?_
                            refine g_callVi (My := mX5_hasPlace) [_] dX10_use_151 lkX10_245 mvX5_hasPlace rfl (r1.1) rfl (c_X5_hasPlace r1.1 r2.1 _) (by decide) (by decide) (by decide) rfl (Nat.le_of_ble_eq_true rfl) (fun zr151 σ zh151 => ?_)
                            obtain ⟨ze151, zf151⟩ := zh151
                            rw [ze151, zf151]
                            refine g_if_eq (tgt := 169) dX10_use_154 (by decide) (fun zc154 => ?_) (fun zc154 => ?_)
                            · refine g_bipush (v := (-13)) dX10_use_169 (by decide) ?_
                              refine g_iret dX10_use_171 rfl ?_
                              exact ⟨_, rfl, rfl, hR⟩
                            · exact absurd (bI_ne0.mp zc154) hx
                          · exact absurd zc136 h9
                        · exact absurd zc110 hk1
                      · exact absurd zc90 h1
                  · exact absurd zc69 hk0
                · exact absurd zc45 h10
      · have hv : use1 A h (nI j) xx y = (-11, A) := by
          unfold use1
          rw [if_neg hk0, if_neg h10, if_pos hn]
        rw [hv]
        refine g_iload_n (i := 2) dX10_use_42 rfl rfl ?_
        refine g_bipush (v := 10) dX10_use_43 (by decide) ?_
        refine g_icmp_ne (tgt := 64) dX10_use_45 (by decide) (fun zc45 => ?_) (fun zc45 => ?_)
        · refine g_aload dX10_use_64 rfl ?_
          refine g_getf dX10_use_66 flX10_225 (r1.1) rfl ?_
          refine g_if_ne (tgt := 75) dX10_use_69 (by decide) (fun zc69 => ?_) (fun zc69 => ?_)
          · refine g_aload dX10_use_75 rfl ?_
            refine g_getf dX10_use_77 flX10_225 (r1.1) rfl ?_
            refine g_taken hj10 rfl ?_
            rw [htk]
            refine g_icmp_ne (tgt := 101) dX10_use_85 (by decide) (fun zc85 => ?_) (fun zc85 => ?_)
            · refine g_bipush (v := (-11)) dX10_use_101 (by decide) ?_
              refine g_iret dX10_use_103 rfl ?_
              exact ⟨_, rfl, rfl, hR⟩
            · exact absurd zc85 hn
          · exact absurd zc69 hk0
        · exact absurd zc45 h10
theorem c_X10_use (hR : RC τ x A) (h how xx y : Int32) : Ct l mX10_use 3 1 5 [.ref x, .int h, .int how, .int xx, .int y] τ (pI (cP x (sUse A h how xx y))) := by
  have h11 : how < 11 ↔ how ≤ 10 := by
    rw [Int32.lt_iff_toInt_lt, Int32.le_iff_toInt_le, show (11 : Int32).toInt = 11 from by decide, show (10 : Int32).toInt = 10 from by decide]
    omega
  have hRx := hR
  obtain ⟨ow, ad, hk, cs, ff, hRx⟩ := hRx
  obtain ⟨hf, p1, p2⟩ := hRx.2.2.2.2.1
  refine Ct_of moX10_use [some (.ref x), some (.int h), some (.int how), some (.int xx), some (.int y), none] rfl (Nat.le_of_ble_eq_true rfl) ?_
  by_cases hc : (¬ h < 0 ∧ h < 8) ∧ (¬ how < 0 ∧ how ≤ 10) ∧ ¬ (how = 9 ∧ 100 < xx)
  · obtain ⟨j, hj, rfl⟩ := ix8 hc.1
    have hcj : (nI j).toNatClampNeg = j := nI_clamp (by omega)
    have hv : sUse A (nI j) how xx y = use1 A j how xx y := by
      unfold sUse
      rw [if_pos hc, hcj]
    rw [hv]
    refine g_iload_n (i := 1) dX10_use_0 rfl rfl ?_
    refine g_if_lt (tgt := 32) dX10_use_1 (by decide) (fun zc1 => ?_) (fun zc1 => ?_)
    · exact absurd zc1 hc.1.1
    · refine g_iload_n (i := 1) dX10_use_4 rfl rfl ?_
      refine g_bipush (v := 8) dX10_use_5 (by decide) ?_
      refine g_icmp_ge (tgt := 32) dX10_use_7 (by decide) (fun zc7 => ?_) (fun zc7 => ?_)
      · exact absurd zc7 (Int32.not_le.mpr hc.1.2)
      · refine g_iload_n (i := 2) dX10_use_10 rfl rfl ?_
        refine g_if_lt (tgt := 32) dX10_use_11 (by decide) (fun zc11 => ?_) (fun zc11 => ?_)
        · exact absurd zc11 hc.2.1.1
        · refine g_iload_n (i := 2) dX10_use_14 rfl rfl ?_
          refine g_bipush (v := 11) dX10_use_15 (by decide) ?_
          refine g_icmp_ge (tgt := 32) dX10_use_17 (by decide) (fun zc17 => ?_) (fun zc17 => ?_)
          · exact absurd zc17 (Int32.not_le.mpr (h11.mpr hc.2.1.2))
          · refine g_iload_n (i := 2) dX10_use_20 rfl rfl ?_
            refine g_bipush (v := 9) dX10_use_21 (by decide) ?_
            refine g_icmp_ne (tgt := 34) dX10_use_23 (by decide) (fun zc23 => ?_) (fun zc23 => ?_)
            · refine g_aload_n (i := 0) dX10_use_34 rfl rfl ?_
              refine g_getf dX10_use_35 flX10_25 (by first | exact hRx.1.1 | exact p1.1) rfl ?_
              refine g_iload_n (i := 1) dX10_use_38 rfl rfl ?_
              refine g_aald dX10_use_39 (by first | exact hRx.1.1 | exact p1.1) (by decide) ((vp_in_nI hj (by decide) : vp_in (nI j) 8)) ?_
              refine g_tor (hk j) (by rw [hcj]; exact (p2 j hj).1) ?_
              refine g_astore (ls' := [_, _, _, _, _, _]) dX10_use_40 (by decide) rfl rfl ?_
              exact t42_X10_use hR hj hc.2.1.1 hc.2.1.2 (p2 j hj).2
            · refine g_iload_n (i := 3) dX10_use_26 rfl rfl ?_
              refine g_bipush (v := 100) dX10_use_27 (by decide) ?_
              refine g_icmp_le (tgt := 34) dX10_use_29 (by decide) (fun zc29 => ?_) (fun zc29 => ?_)
              · refine g_aload_n (i := 0) dX10_use_34 rfl rfl ?_
                refine g_getf dX10_use_35 flX10_25 (by first | exact hRx.1.1 | exact p1.1) rfl ?_
                refine g_iload_n (i := 1) dX10_use_38 rfl rfl ?_
                refine g_aald dX10_use_39 (by first | exact hRx.1.1 | exact p1.1) (by decide) ((vp_in_nI hj (by decide) : vp_in (nI j) 8)) ?_
                refine g_tor (hk j) (by rw [hcj]; exact (p2 j hj).1) ?_
                refine g_astore (ls' := [_, _, _, _, _, _]) dX10_use_40 (by decide) rfl rfl ?_
                exact t42_X10_use hR hj hc.2.1.1 hc.2.1.2 (p2 j hj).2
              · exact absurd ⟨zc23, Int32.not_le.mp zc29⟩ hc.2.2
  · have hv : sUse A h how xx y = (-1, A) := by
      unfold sUse
      rw [if_neg hc]
    rw [hv]
    refine g_iload_n (i := 1) dX10_use_0 rfl rfl ?_
    refine g_if_lt (tgt := 32) dX10_use_1 (by decide) (fun zc1 => ?_) (fun zc1 => ?_)
    · refine g_iconst (v := (-1)) dX10_use_32 (by decide) ?_
      refine g_iret dX10_use_33 rfl ?_
      exact ⟨_, rfl, rfl, hR⟩
    · refine g_iload_n (i := 1) dX10_use_4 rfl rfl ?_
      refine g_bipush (v := 8) dX10_use_5 (by decide) ?_
      refine g_icmp_ge (tgt := 32) dX10_use_7 (by decide) (fun zc7 => ?_) (fun zc7 => ?_)
      · refine g_iconst (v := (-1)) dX10_use_32 (by decide) ?_
        refine g_iret dX10_use_33 rfl ?_
        exact ⟨_, rfl, rfl, hR⟩
      · refine g_iload_n (i := 2) dX10_use_10 rfl rfl ?_
        refine g_if_lt (tgt := 32) dX10_use_11 (by decide) (fun zc11 => ?_) (fun zc11 => ?_)
        · refine g_iconst (v := (-1)) dX10_use_32 (by decide) ?_
          refine g_iret dX10_use_33 rfl ?_
          exact ⟨_, rfl, rfl, hR⟩
        · refine g_iload_n (i := 2) dX10_use_14 rfl rfl ?_
          refine g_bipush (v := 11) dX10_use_15 (by decide) ?_
          refine g_icmp_ge (tgt := 32) dX10_use_17 (by decide) (fun zc17 => ?_) (fun zc17 => ?_)
          · refine g_iconst (v := (-1)) dX10_use_32 (by decide) ?_
            refine g_iret dX10_use_33 rfl ?_
            exact ⟨_, rfl, rfl, hR⟩
          · refine g_iload_n (i := 2) dX10_use_20 rfl rfl ?_
            refine g_bipush (v := 9) dX10_use_21 (by decide) ?_
            refine g_icmp_ne (tgt := 34) dX10_use_23 (by decide) (fun zc23 => ?_) (fun zc23 => ?_)
            · exfalso
              first
              | exact hc ⟨⟨zc1, Int32.not_le.mp zc7⟩, ⟨zc11, h11.mp (Int32.not_le.mp zc17)⟩, fun z => zc23 z.1⟩
              | exact hc ⟨⟨zc1, Int32.not_le.mp zc7⟩, ⟨zc11, h11.mp (Int32.not_le.mp zc17)⟩, fun z => absurd zc29 (Int32.not_le.mpr z.2)⟩
            · refine g_iload_n (i := 3) dX10_use_26 rfl rfl ?_
              refine g_bipush (v := 100) dX10_use_27 (by decide) ?_
              refine g_icmp_le (tgt := 34) dX10_use_29 (by decide) (fun zc29 => ?_) (fun zc29 => ?_)
              · exfalso
                first
                | exact hc ⟨⟨zc1, Int32.not_le.mp zc7⟩, ⟨zc11, h11.mp (Int32.not_le.mp zc17)⟩, fun z => zc23 z.1⟩
                | exact hc ⟨⟨zc1, Int32.not_le.mp zc7⟩, ⟨zc11, h11.mp (Int32.not_le.mp zc17)⟩, fun z => absurd zc29 (Int32.not_le.mpr z.2)⟩
              · refine g_iconst (v := (-1)) dX10_use_32 (by decide) ?_
                refine g_iret dX10_use_33 rfl ?_
                exact ⟨_, rfl, rfl, hR⟩
end CHook2
