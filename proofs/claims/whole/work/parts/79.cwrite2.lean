/-! the class's Writer: signed forms, make, proof -/
theorem gs_up {F : Int64} {N : Nat} (hN : N = 8 ∨ N = 16 ∨ N = 32 ∨ N = 64) (hF : uN F < 2 ^ N) : gUshr F (nI N - 1) = 0 ↔ ¬ mUp F (nI N) := by
  have h1 : nI N - 1 = nI (N - 1) := by rcases hN with rfl | rfl | rfl | rfl <;> decide
  have e := uN_gUshr F (s := N - 1) (by omega)
  rw [mUp_lt hN hF, h1]
  constructor
  · intro z
    rw [z, show uN 0 = 0 from by decide] at e
    rcases hN with rfl | rfl | rfl | rfl <;> (simp only [Nat.reduceSub, Nat.reducePow] at *; omega)
  · intro z
    apply uN_inj
    rw [e, Nat.div_eq_of_lt (by omega)]
    rfl
theorem mLow_0 (w : Int32) : mLow 0 w = 0 := by
  unfold mLow
  split
  · rfl
  · apply uN_inj
    rw [uN_and, show uN 0 = 0 from by decide, Nat.zero_and]
theorem low0 {σ : gH} {ow : Nat → Nat} {x : Nat} {A : aA} {ad hk : Nat → Nat} {cs : List cA} {ff : Nat → Option Nat} {j : Nat} {w : Int32} {L : List aSt} {b wq aq : Nat} {sgb ws : Int32} {dv D : Int64} {tz : Nat} {od : Int64} (_h : CWr σ ow x A ad hk cs ff j w L b wq aq sgb ws dv D tz od) : mLow 0 w = 0 := mLow_0 w
section CWrite2
variable {l : Launch} {x : Nat} {A : aA} {ow : Nat → Nat} {ad hk : Nat → Nat} {cs : List cA} {ff : Nat → Option Nat} {j : Nat} {w : Int32} {L : List aSt} {b wq aq : Nat} {sgb ws : Int32} {dv D : Int64} {tz : Nat} {od : Int64} {N : Nat} {τ : gH}
theorem c_X9_signedByShifting (h : CWr τ ow x A ad hk cs ff j w [] b wq aq sgb ws dv D tz od) : Ct l mX9_signedByShifting 2 0 0 [.ref wq] τ (pI fun r σ' => r = nI 4 ∧ CWr σ' ow x A ad hk cs ff j w [st1 w 1 0 (w - 1).toInt64, st1 w 0 1 (w - nI tz).toInt64, st1 w 5 0 (nI 2).toInt64, st1 w 1 3 (nI tz).toInt64] b wq aq sgb ws dv D tz od) := by
  refine Ct_of moX9_signedByShifting [some (.ref wq), none, none, none] rfl (Nat.le_of_ble_eq_true rfl) ?_
  refine g_aload_n (i := 0) dX9_signedByShifting_0 rfl rfl ?_
  refine g_getf dX9_signedByShifting_1 flX9_7 (by first | exact h.2.2.2.1.1 | exact h1.2.2.2.1.1 | exact h2.2.2.2.1.1 | exact h3.2.2.2.1.1) rfl ?_
  refine g_iconst (v := 1) dX9_signedByShifting_4 (by decide) ?_
  refine g_iconst (v := 0) dX9_signedByShifting_5 (by decide) ?_
  refine g_aload_n (i := 0) dX9_signedByShifting_6 rfl rfl ?_
  refine g_getf dX9_signedByShifting_7 flX9_23 (by first | exact h.2.2.2.1.1 | exact h1.2.2.2.1.1 | exact h2.2.2.2.1.1 | exact h3.2.2.2.1.1) rfl ?_
  refine g_iconst (v := 1) dX9_signedByShifting_10 (by decide) ?_
  refine g_isub dX9_signedByShifting_11 ?_
  refine g_i2l dX9_signedByShifting_12 ?_
  refine g_callVi (My := mX3_add) [_, _, _] dX9_signedByShifting_13 lkX9_56 mvX3_add rfl (h.tb.choose_spec) rfl (c_adW h rfl (by decide) 1 0 _ (aY_o (by decide) _ _).symm) (by decide) (by decide) (by decide) rfl (Nat.le_of_ble_eq_true rfl) (fun zr13 σ zh13 => ?_)
  obtain ⟨ze13, h1, l1⟩ := zh13
  rw [ze13]
  refine g_istore_n (i := 1) (ls' := [_, _, _, _]) dX9_signedByShifting_16 rfl (by decide) rfl rfl ?_
  refine g_aload_n (i := 0) dX9_signedByShifting_17 rfl rfl ?_
  refine g_getf dX9_signedByShifting_18 flX9_7 (by first | exact h.2.2.2.1.1 | exact h1.2.2.2.1.1 | exact h2.2.2.2.1.1 | exact h3.2.2.2.1.1) rfl ?_
  refine g_iconst (v := 0) dX9_signedByShifting_21 (by decide) ?_
  refine g_iload_n (i := 1) dX9_signedByShifting_22 rfl rfl ?_
  refine g_aload_n (i := 0) dX9_signedByShifting_23 rfl rfl ?_
  refine g_getf dX9_signedByShifting_24 flX9_23 (by first | exact h.2.2.2.1.1 | exact h1.2.2.2.1.1 | exact h2.2.2.2.1.1 | exact h3.2.2.2.1.1) rfl ?_
  refine g_aload_n (i := 0) dX9_signedByShifting_27 rfl rfl ?_
  refine g_getf dX9_signedByShifting_28 flX9_47 (by first | exact h.2.2.2.1.1 | exact h1.2.2.2.1.1 | exact h2.2.2.2.1.1 | exact h3.2.2.2.1.1) rfl ?_
  refine g_isub dX9_signedByShifting_31 ?_
  refine g_i2l dX9_signedByShifting_32 ?_
  refine g_callVi (My := mX3_add) [_, _, _] dX9_signedByShifting_33 lkX9_56 mvX3_add rfl (h1.tb.choose_spec) rfl (c_adW h1 l1 (by decide) 0 _ _ (aY_o (by decide) _ _).symm) (by decide) (by decide) (by decide) rfl (Nat.le_of_ble_eq_true rfl) (fun zr33 σ zh33 => ?_)
  obtain ⟨ze33, h2, l2⟩ := zh33
  rw [ze33]
  refine g_istore_n (i := 2) (ls' := [_, _, _, _]) dX9_signedByShifting_36 rfl (by decide) rfl rfl ?_
  refine g_aload_n (i := 0) dX9_signedByShifting_37 rfl rfl ?_
  refine g_getf dX9_signedByShifting_38 flX9_7 (by first | exact h.2.2.2.1.1 | exact h1.2.2.2.1.1 | exact h2.2.2.2.1.1 | exact h3.2.2.2.1.1) rfl ?_
  refine g_iconst (v := 5) dX9_signedByShifting_41 (by decide) ?_
  refine g_iconst (v := 0) dX9_signedByShifting_42 (by decide) ?_
  refine g_iload_n (i := 2) dX9_signedByShifting_43 rfl rfl ?_
  refine g_i2l dX9_signedByShifting_44 ?_
  refine g_callVi (My := mX3_add) [_, _, _] dX9_signedByShifting_45 lkX9_56 mvX3_add rfl (h2.tb.choose_spec) rfl (c_adW h2 l2 (by decide) 5 0 _ (aY_o (by decide) _ _).symm) (by decide) (by decide) (by decide) rfl (Nat.le_of_ble_eq_true rfl) (fun zr45 σ zh45 => ?_)
  obtain ⟨ze45, h3, l3⟩ := zh45
  rw [ze45]
  refine g_istore_n (i := 3) (ls' := [_, _, _, _]) dX9_signedByShifting_48 rfl (by decide) rfl rfl ?_
  refine g_aload_n (i := 0) dX9_signedByShifting_49 rfl rfl ?_
  refine g_getf dX9_signedByShifting_50 flX9_7 (by first | exact h.2.2.2.1.1 | exact h1.2.2.2.1.1 | exact h2.2.2.2.1.1 | exact h3.2.2.2.1.1) rfl ?_
  refine g_iconst (v := 1) dX9_signedByShifting_53 (by decide) ?_
  refine g_iload_n (i := 3) dX9_signedByShifting_54 rfl rfl ?_
  refine g_aload_n (i := 0) dX9_signedByShifting_55 rfl rfl ?_
  refine g_getf dX9_signedByShifting_56 flX9_47 (by first | exact h.2.2.2.1.1 | exact h1.2.2.2.1.1 | exact h2.2.2.2.1.1 | exact h3.2.2.2.1.1) rfl ?_
  refine g_i2l dX9_signedByShifting_59 ?_
  refine g_callVi (My := mX3_add) [_, _, _] dX9_signedByShifting_60 lkX9_56 mvX3_add rfl (h3.tb.choose_spec) rfl (c_adW h3 l3 (by decide) 1 _ _ (aY_o (by decide) _ _).symm) (by decide) (by decide) (by decide) rfl (Nat.le_of_ble_eq_true rfl) (fun zr60 σ zh60 => ?_)
  obtain ⟨ze60, h4, l4⟩ := zh60
  rw [ze60]
  refine g_iret dX9_signedByShifting_63 rfl ?_
  exact ⟨_, rfl, rfl, h4⟩
theorem t87_X9_sbm {σ : gH} (h : CWr σ ow x A ad hk cs ff j w L b wq aq sgb ws dv D tz od) {n : Nat} (hn : L.length = n) (hl : n + 2 ≤ 12) (mq : Option Value) (x3 : Option Value) : G l mX9_signedByMultiplying 4 0 0 (pI fun r σ' => r = nI (sqC w L).length ∧ wCP x A ad hk cs ff j w (sqC w L) b wq aq sgb ws dv D tz od σ') σ 87 [some (.ref wq), mq, some (.int (nI n)), x3] [] := by
  subst hn
  refine g_aload_n (i := 0) dX9_signedByMultiplying_87 rfl rfl ?_
  refine g_getf dX9_signedByMultiplying_88 flX9_7 (by first | exact h.2.2.2.1.1 | exact h1.2.2.2.1.1) rfl ?_
  refine g_iconst (v := 1) dX9_signedByMultiplying_91 (by decide) ?_
  refine g_iconst (v := 0) dX9_signedByMultiplying_92 (by decide) ?_
  refine g_aload_n (i := 0) dX9_signedByMultiplying_93 rfl rfl ?_
  refine g_getf dX9_signedByMultiplying_94 flX9_23 (by first | exact h.2.2.2.1.1 | exact h1.2.2.2.1.1) rfl ?_
  refine g_iconst (v := 1) dX9_signedByMultiplying_97 (by decide) ?_
  refine g_isub dX9_signedByMultiplying_98 ?_
  refine g_i2l dX9_signedByMultiplying_99 ?_
  refine g_callVi (My := mX3_add) [_, _, _] dX9_signedByMultiplying_100 lkX9_56 mvX3_add rfl (h.tb.choose_spec) rfl (c_adW h rfl (by omega) 1 0 _ (aY_o (by decide) _ _).symm) (by decide) (by decide) (by decide) rfl (Nat.le_of_ble_eq_true rfl) (fun zr100 σ zh100 => ?_)
  obtain ⟨ze100, h1, l1⟩ := zh100
  rw [ze100]
  refine g_istore_n (i := 3) (ls' := [_, _, _, _]) dX9_signedByMultiplying_103 rfl (by decide) rfl rfl ?_
  refine g_aload_n (i := 0) dX9_signedByMultiplying_104 rfl rfl ?_
  refine g_getf dX9_signedByMultiplying_105 flX9_7 (by first | exact h.2.2.2.1.1 | exact h1.2.2.2.1.1) rfl ?_
  refine g_bipush (v := 6) dX9_signedByMultiplying_108 (by decide) ?_
  refine g_iload_n (i := 2) dX9_signedByMultiplying_110 rfl rfl ?_
  refine g_iload_n (i := 3) dX9_signedByMultiplying_111 rfl rfl ?_
  refine g_i2l dX9_signedByMultiplying_112 ?_
  refine g_callVi (My := mX3_add) [_, _, _] dX9_signedByMultiplying_113 lkX9_56 mvX3_add rfl (h1.tb.choose_spec) rfl (c_adW h1 l1 (by omega) 6 _ _ (aY_o (by decide) _ _).symm) (by decide) (by decide) (by decide) rfl (Nat.le_of_ble_eq_true rfl) (fun zr113 σ zh113 => ?_)
  obtain ⟨ze113, h2, l2⟩ := zh113
  rw [ze113]
  refine g_iret dX9_signedByMultiplying_116 rfl ?_
  exact ⟨_, rfl, by unfold sqC; rw [List.length_append]; rfl, ow, by unfold sqC; simp only [List.append_assoc] at h2; exact h2⟩
theorem t65_X9_sbm {σ : gH} (h : CWr σ ow x A ad hk cs ff j w L b wq aq sgb ws dv D tz od) {n : Nat} (hn : L.length = n) (hl : n + 3 ≤ 12) {mq : Nat} {mv : Int32} {v1 v2 v3 : Value} (hm : Pt σ ow mq 402 (gO 5 [.int mv, v1, v2, v3])) : G l mX9_signedByMultiplying 4 0 0 (pI fun r σ' => r = nI (sqC w (sqB w mv L)).length ∧ wCP x A ad hk cs ff j w (sqC w (sqB w mv L)) b wq aq sgb ws dv D tz od σ') σ 65 [some (.ref wq), some (.ref mq), some (.int (nI n)), none] [] := by
  subst hn
  by_cases hv : mv ≤ 0
  · have e : sqB w mv L = L := by unfold sqB; rw [if_pos hv, List.append_nil]
    rw [e]
    refine g_aload_n (i := 1) dX9_signedByMultiplying_65 rfl rfl ?_
    refine g_getf dX9_signedByMultiplying_66 flX9_102 (hm.1) rfl ?_
    refine g_if_le (tgt := 87) dX9_signedByMultiplying_69 (by decide) (fun zc69 => ?_) (fun zc69 => ?_)
    · exact t87_X9_sbm h rfl (by omega) _ _
    · exact absurd hv zc69
  · have e : sqB w mv L = L ++ [st1 w 1 (nI L.length) mv.toInt64] := by unfold sqB; rw [if_neg hv]
    rw [e]
    refine g_aload_n (i := 1) dX9_signedByMultiplying_65 rfl rfl ?_
    refine g_getf dX9_signedByMultiplying_66 flX9_102 (by first | exact hm.1 | exact h.2.2.2.1.1) rfl ?_
    refine g_if_le (tgt := 87) dX9_signedByMultiplying_69 (by decide) (fun zc69 => ?_) (fun zc69 => ?_)
    · exact absurd zc69 hv
    · refine g_aload_n (i := 0) dX9_signedByMultiplying_72 rfl rfl ?_
      refine g_getf dX9_signedByMultiplying_73 flX9_7 (by first | exact hm.1 | exact h.2.2.2.1.1) rfl ?_
      refine g_iconst (v := 1) dX9_signedByMultiplying_76 (by decide) ?_
      refine g_iload_n (i := 2) dX9_signedByMultiplying_77 rfl rfl ?_
      refine g_aload_n (i := 1) dX9_signedByMultiplying_78 rfl rfl ?_
      refine g_getf dX9_signedByMultiplying_79 flX9_102 (by first | exact hm.1 | exact h.2.2.2.1.1) rfl ?_
      refine g_i2l dX9_signedByMultiplying_82 ?_
      refine g_callVi (My := mX3_add) [_, _, _] dX9_signedByMultiplying_83 lkX9_56 mvX3_add rfl (h.tb.choose_spec) rfl (c_adW h rfl (by omega) 1 _ _ (aY_o (by decide) _ _).symm) (by decide) (by decide) (by decide) rfl (Nat.le_of_ble_eq_true rfl) (fun zr83 σ zh83 => ?_)
      obtain ⟨ze83, h1, l1⟩ := zh83
      rw [ze83]
      refine g_istore_n (i := 2) (ls' := [_, _, _, _]) dX9_signedByMultiplying_86 rfl (by decide) rfl rfl ?_
      exact t87_X9_sbm h1 l1 (by omega) _ _
theorem c_X9_signedByMultiplying (h : CWr τ ow x A ad hk cs ff j w [] b wq aq sgb ws dv D tz od) (hH : WH N w D tz od) (ho : ¬ od = 1) : Ct l mX9_signedByMultiplying 4 1 4 [.ref wq] τ (pI fun r σ' => r = nI (sqC w (sqB w (fMoved w 1 D) (sqA w (fFactor w 1 D) (fOver w 1 D)))).length ∧ wCP x A ad hk cs ff j w (sqC w (sqB w (fMoved w 1 D) (sqA w (fFactor w 1 D) (fOver w 1 D)))) b wq aq sgb ws dv D tz od σ') := by
  obtain ⟨hN, hwN, hT, hod, hDN, hD⟩ := hH
  have hW : isW w := by rw [hwN]; rcases hN with rfl | rfl | rfl | rfl <;> decide
  have hnd := hT.nd (N := N) (by rw [← hod]; exact ho)
  have hFm : mLow (fFactor w 1 D) w = fFactor w 1 D := mLow_mLow _ hW
  subst hwN
  have hFl : uN (fFactor (nI N) 1 D) < 2 ^ N := mLow_lt _ hN
  have hup := gs_up hN hFl
  refine Ct_of moX9_signedByMultiplying [some (.ref wq), none, none, none] rfl (Nat.le_of_ble_eq_true rfl) ?_
  refine g_new dX9_signedByMultiplying_0 nwX9_91 (by decide) (by decide) (fun zq0 zhq0 => ?_)
  refine g_dup dX9_signedByMultiplying_3 rfl ?_
  refine g_aload_n (i := 0) dX9_signedByMultiplying_4 rfl rfl ?_
  refine g_getf dX9_signedByMultiplying_5 flX9_23 ((su_ne _ _ (h.2.2.2.1.nq zhq0)).trans h.2.2.2.1.1) rfl ?_
  refine g_aload_n (i := 0) dX9_signedByMultiplying_8 rfl rfl ?_
  refine g_getf dX9_signedByMultiplying_9 flX9_38 ((su_ne _ _ (h.2.2.2.1.nq zhq0)).trans h.2.2.2.1.1) rfl ?_
  refine g_iconst (v := 1) dX9_signedByMultiplying_12 (by decide) ?_
  refine g_callIv (My := mX7_init) [_, _, _] dX9_signedByMultiplying_13 lkX9_93 mvX7_init rfl (c_X7_init (su_self _ _ _) hN hD hDN hnd (Or.inr rfl)) (by decide) (by decide) (by decide) rfl (Nat.le_of_ble_eq_true rfl) (fun σ zh13 => ?_)
  obtain ⟨ze13, ov1, jm, jmN, ejm⟩ := zh13
  rw [ze13, su_su]
  have h1 := h.new (Sm.none zhq0 (mgO N 1 D) 402)
  have m1 : Pt (su τ zq0 (mgO N 1 D)) (va_up ow zq0 402) zq0 402 (mgO N 1 D) := ⟨su_self _ _ _, va_up_self _ _ _⟩
  refine g_astore_n (i := 1) (ls' := [_, _, _, _]) dX9_signedByMultiplying_16 rfl (by decide) rfl rfl ?_
  refine g_aload_n (i := 0) dX9_signedByMultiplying_17 rfl rfl ?_
  refine g_getf dX9_signedByMultiplying_18 flX9_7 (by first | exact h1.2.2.2.1.1 | exact h2.2.2.2.1.1 | exact m1.1 | exact m2.1) rfl ?_
  refine g_iconst (v := 3) dX9_signedByMultiplying_21 (by decide) ?_
  refine g_iconst (v := 0) dX9_signedByMultiplying_22 (by decide) ?_
  refine g_aload_n (i := 1) dX9_signedByMultiplying_23 rfl rfl ?_
  refine g_getf dX9_signedByMultiplying_24 flX9_96 (by first | exact h1.2.2.2.1.1 | exact h2.2.2.2.1.1 | exact m1.1 | exact m2.1) rfl ?_
  refine g_callVi (My := mX3_add) [_, _, _] dX9_signedByMultiplying_27 lkX9_56 mvX3_add rfl (h1.tb.choose_spec) rfl (c_adM h1 m1 rfl (by decide) 3 0 (fFactor (nI N) 1 D) ((aY_n (by decide) _ _).trans hFm).symm) (by decide) (by decide) (by decide) rfl (Nat.le_of_ble_eq_true rfl) (fun zr27 σ zh27 => ?_)
  obtain ⟨ze27, h2, m2, l2⟩ := zh27
  rw [ze27]
  refine g_istore_n (i := 2) (ls' := [_, _, _, _]) dX9_signedByMultiplying_30 rfl (by decide) rfl rfl ?_
  refine g_aload_n (i := 1) dX9_signedByMultiplying_31 rfl rfl ?_
  refine g_getf dX9_signedByMultiplying_32 flX9_99 (by first | exact h1.2.2.2.1.1 | exact h2.2.2.2.1.1 | exact m1.1 | exact m2.1) rfl ?_
  refine g_if_ne (tgt := 54) dX9_signedByMultiplying_35 (by decide) (fun zc35 => ?_) (fun zc35 => ?_)
  · refine g_aload_n (i := 0) dX9_signedByMultiplying_54 rfl rfl ?_
    refine g_getf dX9_signedByMultiplying_55 flX9_7 (by first | exact h1.2.2.2.1.1 | exact h2.2.2.2.1.1 | exact m1.1 | exact m2.1) rfl ?_
    refine g_iconst (v := 5) dX9_signedByMultiplying_58 (by decide) ?_
    refine g_iload_n (i := 2) dX9_signedByMultiplying_59 rfl rfl ?_
    refine g_lconst (v := 0) dX9_signedByMultiplying_60 (by decide) ?_
    refine g_callVi (My := mX3_add) [_, _, _] dX9_signedByMultiplying_61 lkX9_56 mvX3_add rfl (h2.tb.choose_spec) rfl (c_adM h2 m2 l2 (by decide) 5 1 0 (aY_o (by decide) _ _).symm) (by decide) (by decide) (by decide) rfl (Nat.le_of_ble_eq_true rfl) (fun zr61 σ zh61 => ?_)
    obtain ⟨ze61, h3, m3, l3⟩ := zh61
    rw [ze61]
    refine g_istore_n (i := 2) (ls' := [_, _, _, _]) dX9_signedByMultiplying_64 rfl (by decide) rfl rfl ?_
    first
    | (have e : sqA (nI N) (fFactor (nI N) 1 D) (fOver (nI N) 1 D) = [st1 (nI N) 3 0 (fFactor (nI N) 1 D), st1 (nI N) 5 1 0] := by
         unfold sqA
         rw [if_pos (Or.inl (by rcases ov1 with q | q; exact absurd q zc35; rw [q]; decide))]
       rw [e]
       exact t65_X9_sbm h3 l3 (by decide) m3)
    | (have e : sqA (nI N) (fFactor (nI N) 1 D) (fOver (nI N) 1 D) = [st1 (nI N) 3 0 (fFactor (nI N) 1 D), st1 (nI N) 5 1 0] := by
         unfold sqA
         rw [if_pos (Or.inr (Classical.byContradiction (fun z => zc51 ((lg_cmp_eq _ _).mpr (hup.mpr z)))))]
       rw [e]
       exact t65_X9_sbm h3 l3 (by decide) m3)
    | (have e : sqA (nI N) (fFactor (nI N) 1 D) (fOver (nI N) 1 D) = [st1 (nI N) 3 0 (fFactor (nI N) 1 D)] := by
         unfold sqA
         rw [if_neg (fun z => z.elim (fun y => by rw [zc35] at y; exact absurd y (by decide)) (hup.mp ((lg_cmp_eq _ _).mp zc51)))]
       rw [e]
       exact t65_X9_sbm h2 l2 (by decide) m2)
  · refine g_aload_n (i := 1) dX9_signedByMultiplying_38 rfl rfl ?_
    refine g_getf dX9_signedByMultiplying_39 flX9_96 (by first | exact h1.2.2.2.1.1 | exact h2.2.2.2.1.1 | exact m1.1 | exact m2.1) rfl ?_
    refine g_aload_n (i := 0) dX9_signedByMultiplying_42 rfl rfl ?_
    refine g_getf dX9_signedByMultiplying_43 flX9_23 (by first | exact h1.2.2.2.1.1 | exact h2.2.2.2.1.1 | exact m1.1 | exact m2.1) rfl ?_
    refine g_iconst (v := 1) dX9_signedByMultiplying_46 (by decide) ?_
    refine g_isub dX9_signedByMultiplying_47 ?_
    refine g_lushr dX9_signedByMultiplying_48 ?_
    refine g_lconst (v := 0) dX9_signedByMultiplying_49 (by decide) ?_
    refine g_lcmp dX9_signedByMultiplying_50 ?_
    refine g_if_eq (tgt := 65) dX9_signedByMultiplying_51 (by decide) (fun zc51 => ?_) (fun zc51 => ?_)
    · first
      | (have e : sqA (nI N) (fFactor (nI N) 1 D) (fOver (nI N) 1 D) = [st1 (nI N) 3 0 (fFactor (nI N) 1 D), st1 (nI N) 5 1 0] := by
           unfold sqA
           rw [if_pos (Or.inl (by rcases ov1 with q | q; exact absurd q zc35; rw [q]; decide))]
         rw [e]
         exact t65_X9_sbm h3 l3 (by decide) m3)
      | (have e : sqA (nI N) (fFactor (nI N) 1 D) (fOver (nI N) 1 D) = [st1 (nI N) 3 0 (fFactor (nI N) 1 D), st1 (nI N) 5 1 0] := by
           unfold sqA
           rw [if_pos (Or.inr (Classical.byContradiction (fun z => zc51 ((lg_cmp_eq _ _).mpr (hup.mpr z)))))]
         rw [e]
         exact t65_X9_sbm h3 l3 (by decide) m3)
      | (have e : sqA (nI N) (fFactor (nI N) 1 D) (fOver (nI N) 1 D) = [st1 (nI N) 3 0 (fFactor (nI N) 1 D)] := by
           unfold sqA
           rw [if_neg (fun z => z.elim (fun y => by rw [zc35] at y; exact absurd y (by decide)) (hup.mp ((lg_cmp_eq _ _).mp zc51)))]
         rw [e]
         exact t65_X9_sbm h2 l2 (by decide) m2)
    · refine g_aload_n (i := 0) dX9_signedByMultiplying_54 rfl rfl ?_
      refine g_getf dX9_signedByMultiplying_55 flX9_7 (by first | exact h1.2.2.2.1.1 | exact h2.2.2.2.1.1 | exact m1.1 | exact m2.1) rfl ?_
      refine g_iconst (v := 5) dX9_signedByMultiplying_58 (by decide) ?_
      refine g_iload_n (i := 2) dX9_signedByMultiplying_59 rfl rfl ?_
      refine g_lconst (v := 0) dX9_signedByMultiplying_60 (by decide) ?_
      refine g_callVi (My := mX3_add) [_, _, _] dX9_signedByMultiplying_61 lkX9_56 mvX3_add rfl (h2.tb.choose_spec) rfl (c_adM h2 m2 l2 (by decide) 5 1 0 (aY_o (by decide) _ _).symm) (by decide) (by decide) (by decide) rfl (Nat.le_of_ble_eq_true rfl) (fun zr61 σ zh61 => ?_)
      obtain ⟨ze61, h3, m3, l3⟩ := zh61
      rw [ze61]
      refine g_istore_n (i := 2) (ls' := [_, _, _, _]) dX9_signedByMultiplying_64 rfl (by decide) rfl rfl ?_
      first
      | (have e : sqA (nI N) (fFactor (nI N) 1 D) (fOver (nI N) 1 D) = [st1 (nI N) 3 0 (fFactor (nI N) 1 D), st1 (nI N) 5 1 0] := by
           unfold sqA
           rw [if_pos (Or.inl (by rcases ov1 with q | q; exact absurd q zc35; rw [q]; decide))]
         rw [e]
         exact t65_X9_sbm h3 l3 (by decide) m3)
      | (have e : sqA (nI N) (fFactor (nI N) 1 D) (fOver (nI N) 1 D) = [st1 (nI N) 3 0 (fFactor (nI N) 1 D), st1 (nI N) 5 1 0] := by
           unfold sqA
           rw [if_pos (Or.inr (Classical.byContradiction (fun z => zc51 ((lg_cmp_eq _ _).mpr (hup.mpr z)))))]
         rw [e]
         exact t65_X9_sbm h3 l3 (by decide) m3)
      | (have e : sqA (nI N) (fFactor (nI N) 1 D) (fOver (nI N) 1 D) = [st1 (nI N) 3 0 (fFactor (nI N) 1 D)] := by
           unfold sqA
           rw [if_neg (fun z => z.elim (fun y => by rw [zc35] at y; exact absurd y (by decide)) (hup.mp ((lg_cmp_eq _ _).mp zc51)))]
         rw [e]
         exact t65_X9_sbm h2 l2 (by decide) m2)
theorem c_X9_signedQuotient (h : CWr τ ow x A ad hk cs ff j w [] b wq aq sgb ws dv D tz od) (hH : WH N w D tz od) {bl : Int32} (hbl : bl = bI (dv < 0)) (h1d : D = 1 → (dv = 1 ↔ ¬ dv < 0)) : Ct l mX9_signedQuotient 5 1 4 [.ref wq] τ (pI fun r σ' => r = nI (sqL w D od tz bl).length ∧ wCP x A ad hk cs ff j w (sqL w D od tz bl) b wq aq sgb ws dv D tz od σ') := by
  have tail : ∀ (σ : gH) (ow' : Nat → Nat) (L : List aSt), L.length < 12 → CWr σ ow' x A ad hk cs ff j w L b wq aq sgb ws dv D tz od → G l mX9_signedQuotient 5 0 0 (pI fun r σ' => r = nI (sqT w bl L).length ∧ wCP x A ad hk cs ff j w (sqT w bl L) b wq aq sgb ws dv D tz od σ') σ 58 [some (.ref wq), some (.int (nI L.length))] [] := by
    intro σ ow' L hl h
    by_cases hn : dv < 0
    · have e : sqT w bl L = L ++ [st1 w 7 (nI L.length) 0] := by unfold sqT; rw [hbl, bI_t hn, if_neg (by decide)]
      rw [e]
      refine g_aload_n (i := 0) dX9_signedQuotient_58 rfl rfl ?_
      refine g_getf dX9_signedQuotient_59 flX9_13 (by first | exact h.2.2.2.1.1 | exact h.2.2.2.2.1) rfl ?_
      refine g_getf dX9_signedQuotient_62 flX9_24 (by first | exact h.2.2.2.1.1 | exact h.2.2.2.2.1) rfl ?_
      refine g_lconst (v := 0) dX9_signedQuotient_65 (by decide) ?_
      refine g_lcmp dX9_signedQuotient_66 ?_
      refine g_if_ge (tgt := 84) dX9_signedQuotient_67 (by decide) (fun zc67 => ?_) (fun zc67 => ?_)
      · exact absurd hn (Int64.not_lt.mpr ((lg_cmp_ge _ _).mp zc67))
      · refine g_aload_n (i := 0) dX9_signedQuotient_70 rfl rfl ?_
        refine g_getf dX9_signedQuotient_71 flX9_7 (by first | exact h.2.2.2.1.1 | exact h.2.2.2.2.1) rfl ?_
        refine g_bipush (v := 7) dX9_signedQuotient_74 (by decide) ?_
        refine g_iload_n (i := 1) dX9_signedQuotient_76 rfl rfl ?_
        refine g_lconst (v := 0) dX9_signedQuotient_77 (by decide) ?_
        refine g_callVi (My := mX3_add) [_, _, _] dX9_signedQuotient_78 lkX9_56 mvX3_add rfl (h.tb.choose_spec) rfl (c_adW h rfl hl 7 _ 0 ((aY_n (by decide) _ _).trans (low0 h)).symm) (by decide) (by decide) (by decide) rfl (Nat.le_of_ble_eq_true rfl) (fun zr78 σ zh78 => ?_)
        obtain ⟨ze78, h1, l1⟩ := zh78
        rw [ze78]
        refine g_goto (tgt := 85) dX9_signedQuotient_81 (by decide) ?_
        refine g_iret dX9_signedQuotient_85 rfl ?_
        exact ⟨_, rfl, by rw [l1], ow', h1⟩
    · have e : sqT w bl L = L := by unfold sqT; rw [hbl, bI_f hn, if_pos rfl, List.append_nil]
      rw [e]
      refine g_aload_n (i := 0) dX9_signedQuotient_58 rfl rfl ?_
      refine g_getf dX9_signedQuotient_59 flX9_13 (by first | exact h.2.2.2.1.1 | exact h.2.2.2.2.1) rfl ?_
      refine g_getf dX9_signedQuotient_62 flX9_24 (by first | exact h.2.2.2.1.1 | exact h.2.2.2.2.1) rfl ?_
      refine g_lconst (v := 0) dX9_signedQuotient_65 (by decide) ?_
      refine g_lcmp dX9_signedQuotient_66 ?_
      refine g_if_ge (tgt := 84) dX9_signedQuotient_67 (by decide) (fun zc67 => ?_) (fun zc67 => ?_)
      · refine g_iload_n (i := 1) dX9_signedQuotient_84 rfl rfl ?_
        refine g_iret dX9_signedQuotient_85 rfl ?_
        exact ⟨_, rfl, rfl, ow', h⟩
      · exact absurd ((lg_cmp_ge _ _).mpr (Int64.not_lt.mp hn)) zc67
  refine Ct_of moX9_signedQuotient [some (.ref wq), none] rfl (Nat.le_of_ble_eq_true rfl) ?_
  by_cases hD1 : D = 1
  · have e : sqL w D od tz bl = [st1 w (if dv = 1 then 0 else 7) 0 0] := by
      unfold sqL
      rw [if_pos hD1]
      by_cases hn : dv < 0
      · rw [hbl, bI_t hn, if_neg (by decide), if_neg (fun z => ((h1d hD1).mp z) hn)]
      · rw [hbl, bI_f hn, if_pos rfl, if_pos ((h1d hD1).mpr hn)]
    rw [e]
    by_cases hv1 : dv = 1
    · rw [if_pos hv1]
      refine g_aload_n (i := 0) dX9_signedQuotient_0 rfl rfl ?_
      refine g_getf dX9_signedQuotient_1 flX9_38 (by first | exact h.2.2.2.1.1 | exact h.2.2.2.2.1) rfl ?_
      refine g_lconst (v := 1) dX9_signedQuotient_4 (by decide) ?_
      refine g_lcmp dX9_signedQuotient_5 ?_
      refine g_if_ne (tgt := 37) dX9_signedQuotient_6 (by decide) (fun zc6 => ?_) (fun zc6 => ?_)
      · exact absurd ((lg_cmp_eq _ _).mpr hD1) zc6
      · refine g_aload_n (i := 0) dX9_signedQuotient_9 rfl rfl ?_
        refine g_getf dX9_signedQuotient_10 flX9_7 (by first | exact h.2.2.2.1.1 | exact h.2.2.2.2.1) rfl ?_
        refine g_aload_n (i := 0) dX9_signedQuotient_13 rfl rfl ?_
        refine g_getf dX9_signedQuotient_14 flX9_13 (by first | exact h.2.2.2.1.1 | exact h.2.2.2.2.1) rfl ?_
        refine g_getf dX9_signedQuotient_17 flX9_24 (by first | exact h.2.2.2.1.1 | exact h.2.2.2.2.1) rfl ?_
        refine g_lconst (v := 1) dX9_signedQuotient_20 (by decide) ?_
        refine g_lcmp dX9_signedQuotient_21 ?_
        refine g_if_ne (tgt := 29) dX9_signedQuotient_22 (by decide) (fun zc22 => ?_) (fun zc22 => ?_)
        · exact absurd ((lg_cmp_eq _ _).mpr hv1) zc22
        · refine g_iconst (v := 0) dX9_signedQuotient_25 (by decide) ?_
          refine g_goto (tgt := 31) dX9_signedQuotient_26 (by decide) ?_
          refine g_iconst (v := 0) dX9_signedQuotient_31 (by decide) ?_
          refine g_lconst (v := 0) dX9_signedQuotient_32 (by decide) ?_
          refine g_callVi (My := mX3_add) [_, _, _] dX9_signedQuotient_33 lkX9_56 mvX3_add rfl (h.tb.choose_spec) rfl (c_adW h rfl (by decide) 0 0 0 (aY_o (by decide) _ _).symm) (by decide) (by decide) (by decide) rfl (Nat.le_of_ble_eq_true rfl) (fun zr33 σ zh33 => ?_)
          obtain ⟨ze33, h1, l1⟩ := zh33
          rw [ze33]
          refine g_iret dX9_signedQuotient_36 rfl ?_
          exact ⟨_, rfl, rfl, ow, h1⟩
    · rw [if_neg hv1]
      refine g_aload_n (i := 0) dX9_signedQuotient_0 rfl rfl ?_
      refine g_getf dX9_signedQuotient_1 flX9_38 (by first | exact h.2.2.2.1.1 | exact h.2.2.2.2.1) rfl ?_
      refine g_lconst (v := 1) dX9_signedQuotient_4 (by decide) ?_
      refine g_lcmp dX9_signedQuotient_5 ?_
      refine g_if_ne (tgt := 37) dX9_signedQuotient_6 (by decide) (fun zc6 => ?_) (fun zc6 => ?_)
      · exact absurd ((lg_cmp_eq _ _).mpr hD1) zc6
      · refine g_aload_n (i := 0) dX9_signedQuotient_9 rfl rfl ?_
        refine g_getf dX9_signedQuotient_10 flX9_7 (by first | exact h.2.2.2.1.1 | exact h.2.2.2.2.1) rfl ?_
        refine g_aload_n (i := 0) dX9_signedQuotient_13 rfl rfl ?_
        refine g_getf dX9_signedQuotient_14 flX9_13 (by first | exact h.2.2.2.1.1 | exact h.2.2.2.2.1) rfl ?_
        refine g_getf dX9_signedQuotient_17 flX9_24 (by first | exact h.2.2.2.1.1 | exact h.2.2.2.2.1) rfl ?_
        refine g_lconst (v := 1) dX9_signedQuotient_20 (by decide) ?_
        refine g_lcmp dX9_signedQuotient_21 ?_
        refine g_if_ne (tgt := 29) dX9_signedQuotient_22 (by decide) (fun zc22 => ?_) (fun zc22 => ?_)
        · refine g_bipush (v := 7) dX9_signedQuotient_29 (by decide) ?_
          refine g_iconst (v := 0) dX9_signedQuotient_31 (by decide) ?_
          refine g_lconst (v := 0) dX9_signedQuotient_32 (by decide) ?_
          refine g_callVi (My := mX3_add) [_, _, _] dX9_signedQuotient_33 lkX9_56 mvX3_add rfl (h.tb.choose_spec) rfl (c_adW h rfl (by decide) 7 0 0 ((aY_n (by decide) _ _).trans (low0 h)).symm) (by decide) (by decide) (by decide) rfl (Nat.le_of_ble_eq_true rfl) (fun zr33 σ zh33 => ?_)
          obtain ⟨ze33, h1, l1⟩ := zh33
          rw [ze33]
          refine g_iret dX9_signedQuotient_36 rfl ?_
          exact ⟨_, rfl, rfl, ow, h1⟩
        · exact absurd ((lg_cmp_eq _ _).mp zc22) hv1
  · by_cases ho : od = 1
    · have e : sqL w D od tz bl = sqT w bl [st1 w 1 0 (w - 1).toInt64, st1 w 0 1 (w - nI tz).toInt64, st1 w 5 0 (nI 2).toInt64, st1 w 1 3 (nI tz).toInt64] := by
        unfold sqL
        rw [if_neg hD1, if_pos ho]
      rw [e]
      refine g_aload_n (i := 0) dX9_signedQuotient_0 rfl rfl ?_
      refine g_getf dX9_signedQuotient_1 flX9_38 (by first | exact h.2.2.2.1.1 | exact h.2.2.2.2.1) rfl ?_
      refine g_lconst (v := 1) dX9_signedQuotient_4 (by decide) ?_
      refine g_lcmp dX9_signedQuotient_5 ?_
      refine g_if_ne (tgt := 37) dX9_signedQuotient_6 (by decide) (fun zc6 => ?_) (fun zc6 => ?_)
      · refine g_aload_n (i := 0) dX9_signedQuotient_37 rfl rfl ?_
        refine g_getf dX9_signedQuotient_38 flX9_50 (by first | exact h.2.2.2.1.1 | exact h.2.2.2.2.1) rfl ?_
        refine g_lconst (v := 1) dX9_signedQuotient_41 (by decide) ?_
        refine g_lcmp dX9_signedQuotient_42 ?_
        refine g_if_ne (tgt := 53) dX9_signedQuotient_43 (by decide) (fun zc43 => ?_) (fun zc43 => ?_)
        · exact absurd ((lg_cmp_eq _ _).mpr ho) zc43
        · refine g_aload_n (i := 0) dX9_signedQuotient_46 rfl rfl ?_
          refine g_callVi (My := mX9_signedByShifting) [] dX9_signedQuotient_47 lkX9_105 mvX9_signedByShifting rfl (by first | exact h.2.2.2.1.1 | exact h.2.2.2.2.1) rfl (c_X9_signedByShifting h) (by decide) (by decide) (by decide) rfl (Nat.le_of_ble_eq_true rfl) (fun zr47 σ zh47 => ?_)
          obtain ⟨ze47, h1⟩ := zh47
          rw [ze47]
          refine g_goto (tgt := 57) dX9_signedQuotient_50 (by decide) ?_
          refine g_istore_n (i := 1) (ls' := [_, _]) dX9_signedQuotient_57 rfl (by decide) rfl rfl ?_
          exact g_bud (Nat.zero_le _) (Nat.zero_le _) (tail _ _ _ (Nat.le_of_ble_eq_true rfl) h1)
      · exact absurd ((lg_cmp_eq _ _).mp zc6) hD1
    · have e : sqL w D od tz bl = sqT w bl (sqC w (sqB w (fMoved w 1 D) (sqA w (fFactor w 1 D) (fOver w 1 D)))) := by
        unfold sqL
        rw [if_neg hD1, if_neg ho]
      rw [e]
      have hlen : (sqC w (sqB w (fMoved w 1 D) (sqA w (fFactor w 1 D) (fOver w 1 D)))).length < 12 := by
        rw [sqC_len]
        have a1 := sqB_len w (fMoved w 1 D) (sqA w (fFactor w 1 D) (fOver w 1 D))
        have a2 := sqA_len w (fFactor w 1 D) (fOver w 1 D)
        omega
      refine g_aload_n (i := 0) dX9_signedQuotient_0 rfl rfl ?_
      refine g_getf dX9_signedQuotient_1 flX9_38 (by first | exact h.2.2.2.1.1 | exact h.2.2.2.2.1) rfl ?_
      refine g_lconst (v := 1) dX9_signedQuotient_4 (by decide) ?_
      refine g_lcmp dX9_signedQuotient_5 ?_
      refine g_if_ne (tgt := 37) dX9_signedQuotient_6 (by decide) (fun zc6 => ?_) (fun zc6 => ?_)
      · refine g_aload_n (i := 0) dX9_signedQuotient_37 rfl rfl ?_
        refine g_getf dX9_signedQuotient_38 flX9_50 (by first | exact h.2.2.2.1.1 | exact h.2.2.2.2.1) rfl ?_
        refine g_lconst (v := 1) dX9_signedQuotient_41 (by decide) ?_
        refine g_lcmp dX9_signedQuotient_42 ?_
        refine g_if_ne (tgt := 53) dX9_signedQuotient_43 (by decide) (fun zc43 => ?_) (fun zc43 => ?_)
        · refine g_aload_n (i := 0) dX9_signedQuotient_53 rfl rfl ?_
          refine g_callVi (My := mX9_signedByMultiplying) [] dX9_signedQuotient_54 lkX9_108 mvX9_signedByMultiplying rfl (by first | exact h.2.2.2.1.1 | exact h.2.2.2.2.1) rfl (c_X9_signedByMultiplying h hH ho) (by decide) (by decide) (by decide) rfl (Nat.le_of_ble_eq_true rfl) (fun zr54 σ zh54 => ?_)
          obtain ⟨ze54, ow', h1⟩ := zh54
          rw [ze54]
          refine g_istore_n (i := 1) (ls' := [_, _]) dX9_signedQuotient_57 rfl (by decide) rfl rfl ?_
          exact g_bud (Nat.zero_le _) (Nat.zero_le _) (tail _ _ _ hlen h1)
        · exact absurd ((lg_cmp_eq _ _).mp zc43) ho
      · exact absurd ((lg_cmp_eq _ _).mp zc6) hD1
theorem c_X9_quotientDownwards (h : CWr τ ow x A ad hk cs ff j w [] b wq aq sgb ws dv D tz od) (hH : WH N w D tz od) : Ct l mX9_quotientDownwards 5 1 4 [.ref wq] τ (pI fun r σ' => r = nI (sdL w D od tz).length ∧ wCP x A ad hk cs ff j w (sdL w D od tz) b wq aq sgb ws dv D tz od σ') := by
  have hq7 := sdQ_len w D od tz
  refine Ct_of moX9_quotientDownwards [some (.ref wq), none, none] rfl (Nat.le_of_ble_eq_true rfl) ?_
  refine g_aload_n (i := 0) dX9_quotientDownwards_0 rfl rfl ?_
  refine g_getf dX9_quotientDownwards_1 flX9_7 (by first | exact h.2.2.2.1.1 | exact h1.2.2.2.1.1 | exact h2.2.2.2.1.1 | exact h3.2.2.2.1.1) rfl ?_
  refine g_iconst (v := 1) dX9_quotientDownwards_4 (by decide) ?_
  refine g_iconst (v := 0) dX9_quotientDownwards_5 (by decide) ?_
  refine g_aload_n (i := 0) dX9_quotientDownwards_6 rfl rfl ?_
  refine g_getf dX9_quotientDownwards_7 flX9_23 (by first | exact h.2.2.2.1.1 | exact h1.2.2.2.1.1 | exact h2.2.2.2.1.1 | exact h3.2.2.2.1.1) rfl ?_
  refine g_iconst (v := 1) dX9_quotientDownwards_10 (by decide) ?_
  refine g_isub dX9_quotientDownwards_11 ?_
  refine g_i2l dX9_quotientDownwards_12 ?_
  refine g_callVi (My := mX3_add) [_, _, _] dX9_quotientDownwards_13 lkX9_56 mvX3_add rfl (h.tb.choose_spec) rfl (c_adW h rfl (by decide) 1 0 _ (aY_o (by decide) _ _).symm) (by decide) (by decide) (by decide) rfl (Nat.le_of_ble_eq_true rfl) (fun zr13 σ zh13 => ?_)
  obtain ⟨ze13, h1, l1⟩ := zh13
  rw [ze13]
  refine g_istore_n (i := 1) (ls' := [_, _, _]) dX9_quotientDownwards_16 rfl (by decide) rfl rfl ?_
  refine g_aload_n (i := 0) dX9_quotientDownwards_17 rfl rfl ?_
  refine g_getf dX9_quotientDownwards_18 flX9_7 (by first | exact h.2.2.2.1.1 | exact h1.2.2.2.1.1 | exact h2.2.2.2.1.1 | exact h3.2.2.2.1.1) rfl ?_
  refine g_bipush (v := 8) dX9_quotientDownwards_21 (by decide) ?_
  refine g_iconst (v := 0) dX9_quotientDownwards_23 (by decide) ?_
  refine g_iload_n (i := 1) dX9_quotientDownwards_24 rfl rfl ?_
  refine g_i2l dX9_quotientDownwards_25 ?_
  refine g_callVi (My := mX3_add) [_, _, _] dX9_quotientDownwards_26 lkX9_56 mvX3_add rfl (h1.tb.choose_spec) rfl (c_adW h1 l1 (by decide) 8 0 _ (aY_o (by decide) _ _).symm) (by decide) (by decide) (by decide) rfl (Nat.le_of_ble_eq_true rfl) (fun zr26 σ zh26 => ?_)
  obtain ⟨ze26, h2, l2⟩ := zh26
  rw [ze26]
  refine g_istore_n (i := 2) (ls' := [_, _, _]) dX9_quotientDownwards_29 rfl (by decide) rfl rfl ?_
  refine g_aload_n (i := 0) dX9_quotientDownwards_30 rfl rfl ?_
  refine g_getf dX9_quotientDownwards_31 flX9_7 (by first | exact h.2.2.2.1.1 | exact h1.2.2.2.1.1 | exact h2.2.2.2.1.1 | exact h3.2.2.2.1.1) rfl ?_
  refine g_bipush (v := 8) dX9_quotientDownwards_34 (by decide) ?_
  refine g_aload_n (i := 0) dX9_quotientDownwards_36 rfl rfl ?_
  refine g_iload_n (i := 2) dX9_quotientDownwards_37 rfl rfl ?_
  refine g_callVi (My := mX9_plainQuotient) [_] dX9_quotientDownwards_38 lkX9_62 mvX9_plainQuotient rfl (by first | exact h.2.2.2.1.1 | exact h1.2.2.2.1.1 | exact h2.2.2.2.1.1 | exact h3.2.2.2.1.1) rfl (c_X9_plainQuotient h2 hH (Nat.le_of_ble_eq_true rfl) 2) (by decide) (by decide) (by decide) rfl (Nat.le_of_ble_eq_true rfl) (fun zr38 σ zh38 => ?_)
  obtain ⟨ze38, ow', h3⟩ := zh38
  rw [ze38]
  have h3 : CWr _ ow' x A ad hk cs ff j w (sdQ w D od tz) b wq aq sgb ws dv D tz od := h3
  refine g_iload_n (i := 1) dX9_quotientDownwards_41 rfl rfl ?_
  refine g_i2l dX9_quotientDownwards_42 ?_
  refine g_callVi (My := mX3_add) [_, _, _] dX9_quotientDownwards_43 lkX9_56 mvX3_add rfl (h3.tb.choose_spec) rfl (c_adW h3 rfl (by omega) 8 _ _ (aY_o (by decide) _ _).symm) (by decide) (by decide) (by decide) rfl (Nat.le_of_ble_eq_true rfl) (fun zr43 σ zh43 => ?_)
  obtain ⟨ze43, h4, l4⟩ := zh43
  rw [ze43]
  refine g_iret dX9_quotientDownwards_46 rfl ?_
  exact ⟨_, rfl, by rw [← l4]; rfl, ow', h4⟩
theorem c_X9_sizeOfNumber (h : CWr τ ow x A ad hk cs ff j w [] b wq aq sgb ws dv D tz od) : Ct l mX9_sizeOfNumber 2 0 0 [.ref wq] τ (pI fun r σ' => r = nI 3 ∧ CWr σ' ow x A ad hk cs ff j w [st1 w 1 0 (w - 1).toInt64, st1 w 8 0 (nI 1).toInt64, st1 w 6 2 (nI 1).toInt64] b wq aq sgb ws dv D tz od) := by
  refine Ct_of moX9_sizeOfNumber [some (.ref wq), none, none] rfl (Nat.le_of_ble_eq_true rfl) ?_
  refine g_aload_n (i := 0) dX9_sizeOfNumber_0 rfl rfl ?_
  refine g_getf dX9_sizeOfNumber_1 flX9_7 (by first | exact h.2.2.2.1.1 | exact h1.2.2.2.1.1 | exact h2.2.2.2.1.1) rfl ?_
  refine g_iconst (v := 1) dX9_sizeOfNumber_4 (by decide) ?_
  refine g_iconst (v := 0) dX9_sizeOfNumber_5 (by decide) ?_
  refine g_aload_n (i := 0) dX9_sizeOfNumber_6 rfl rfl ?_
  refine g_getf dX9_sizeOfNumber_7 flX9_23 (by first | exact h.2.2.2.1.1 | exact h1.2.2.2.1.1 | exact h2.2.2.2.1.1) rfl ?_
  refine g_iconst (v := 1) dX9_sizeOfNumber_10 (by decide) ?_
  refine g_isub dX9_sizeOfNumber_11 ?_
  refine g_i2l dX9_sizeOfNumber_12 ?_
  refine g_callVi (My := mX3_add) [_, _, _] dX9_sizeOfNumber_13 lkX9_56 mvX3_add rfl (h.tb.choose_spec) rfl (c_adW h rfl (by decide) 1 0 _ (aY_o (by decide) _ _).symm) (by decide) (by decide) (by decide) rfl (Nat.le_of_ble_eq_true rfl) (fun zr13 σ zh13 => ?_)
  obtain ⟨ze13, h1, l1⟩ := zh13
  rw [ze13]
  refine g_istore_n (i := 1) (ls' := [_, _, _]) dX9_sizeOfNumber_16 rfl (by decide) rfl rfl ?_
  refine g_aload_n (i := 0) dX9_sizeOfNumber_17 rfl rfl ?_
  refine g_getf dX9_sizeOfNumber_18 flX9_7 (by first | exact h.2.2.2.1.1 | exact h1.2.2.2.1.1 | exact h2.2.2.2.1.1) rfl ?_
  refine g_bipush (v := 8) dX9_sizeOfNumber_21 (by decide) ?_
  refine g_iconst (v := 0) dX9_sizeOfNumber_23 (by decide) ?_
  refine g_iload_n (i := 1) dX9_sizeOfNumber_24 rfl rfl ?_
  refine g_i2l dX9_sizeOfNumber_25 ?_
  refine g_callVi (My := mX3_add) [_, _, _] dX9_sizeOfNumber_26 lkX9_56 mvX3_add rfl (h1.tb.choose_spec) rfl (c_adW h1 l1 (by decide) 8 0 _ (aY_o (by decide) _ _).symm) (by decide) (by decide) (by decide) rfl (Nat.le_of_ble_eq_true rfl) (fun zr26 σ zh26 => ?_)
  obtain ⟨ze26, h2, l2⟩ := zh26
  rw [ze26]
  refine g_istore_n (i := 2) (ls' := [_, _, _]) dX9_sizeOfNumber_29 rfl (by decide) rfl rfl ?_
  refine g_aload_n (i := 0) dX9_sizeOfNumber_30 rfl rfl ?_
  refine g_getf dX9_sizeOfNumber_31 flX9_7 (by first | exact h.2.2.2.1.1 | exact h1.2.2.2.1.1 | exact h2.2.2.2.1.1) rfl ?_
  refine g_bipush (v := 6) dX9_sizeOfNumber_34 (by decide) ?_
  refine g_iload_n (i := 2) dX9_sizeOfNumber_36 rfl rfl ?_
  refine g_iload_n (i := 1) dX9_sizeOfNumber_37 rfl rfl ?_
  refine g_i2l dX9_sizeOfNumber_38 ?_
  refine g_callVi (My := mX3_add) [_, _, _] dX9_sizeOfNumber_39 lkX9_56 mvX3_add rfl (h2.tb.choose_spec) rfl (c_adW h2 l2 (by decide) 6 _ _ (aY_o (by decide) _ _).symm) (by decide) (by decide) (by decide) rfl (Nat.le_of_ble_eq_true rfl) (fun zr39 σ zh39 => ?_)
  obtain ⟨ze39, h3, l3⟩ := zh39
  rw [ze39]
  refine g_iret dX9_sizeOfNumber_42 rfl ?_
  exact ⟨_, rfl, rfl, h3⟩
end CWrite2
