/-! the class's Writer: quotients -/
def CWr (σ : gH) (ow : Nat → Nat) (x : Nat) (A : aA) (ad hk : Nat → Nat) (cs : List cA) (ff : Nat → Option Nat) (j : Nat) (w : Int32) (L : List aSt) (b wq aq : Nat) (sgb ws : Int32) (dv D : Int64) (tz : Nat) (od : Int64) : Prop := RCx σ ow x (A.1.set j (w, L), A.2) ad hk cs ff ∧ j < A.1.length ∧ ff j = some b ∧ Pt σ ow wq 401 (gO 7 [.ref b, .ref aq, .int w, .long D, .int (nI tz), .long od]) ∧ Pt σ ow aq 400 (gO 1 [.int w, .int sgb, .int ws, .long dv])
def WH (N : Nat) (w : Int32) (D : Int64) (tz : Nat) (od : Int64) : Prop := (N = 8 ∨ N = 16 ∨ N = 32 ∨ N = 64) ∧ w = nI N ∧ Tz D tz ∧ od = gUshr D (nI tz) ∧ uN D < 2 ^ N ∧ 0 < uN D
theorem aY_o {k : Int32} (h : isOp k ∨ isCt k) (y : Int64) (w : Int32) : aY k y w = y := by unfold aY; rw [if_pos h]
theorem aY_n {k : Int32} (h : ¬ (isOp k ∨ isCt k)) (y : Int64) (w : Int32) : aY k y w = mLow y w := by unfold aY; rw [if_neg h]
theorem CWr.new {σ σ' : gH} {ow ow' : Nat → Nat} {x : Nat} {A : aA} {ad hk : Nat → Nat} {cs : List cA} {ff : Nat → Option Nat} {j : Nat} {w : Int32} {L : List aSt} {b wq aq : Nat} {sgb ws : Int32} {dv D : Int64} {tz : Nat} {od : Int64} (h : CWr σ ow x A ad hk cs ff j w L b wq aq sgb ws dv D tz od) (hs : Sm (fun _ => False) σ ow σ' ow') : CWr σ' ow' x A ad hk cs ff j w L b wq aq sgb ws dv D tz od := ⟨h.1.new hs, h.2.1, h.2.2.1, h.2.2.2.1.mono hs (fun z => z), h.2.2.2.2.mono hs (fun z => z)⟩
theorem CWr.tb {σ : gH} {ow : Nat → Nat} {x : Nat} {A : aA} {ad hk : Nat → Nat} {cs : List cA} {ff : Nat → Option Nat} {j : Nat} {w : Int32} {L : List aSt} {b wq aq : Nat} {sgb ws : Int32} {dv D : Int64} {tz : Nat} {od : Int64} (h : CWr σ ow x A ad hk cs ff j w L b wq aq sgb ws dv D tz od) : ∃ fs, σ b = some (gO 2 fs) := by
  obtain ⟨b', ka, xa, ya, kf, xf, yf, hb', p1, -⟩ := h.1.form (j := j) (g := (w, L)) (List.getElem?_set_self h.2.1)
  obtain rfl : b = b' := Option.some.inj (h.2.2.1.symm.trans hb')
  exact ⟨_, p1.1⟩
section CWrite
variable {l : Launch} {x : Nat} {A : aA} {ow : Nat → Nat} {ad hk : Nat → Nat} {cs : List cA} {ff : Nat → Option Nat} {j : Nat} {w : Int32} {L : List aSt} {b wq aq : Nat} {sgb ws : Int32} {dv D : Int64} {tz : Nat} {od : Int64} {N : Nat} {τ : gH}
theorem c_addW {σ : gH} (h : CWr σ ow x A ad hk cs ff j w L b wq aq sgb ws dv D tz od) (hl : L.length < 12) (k xx : Int32) (y : Int64) {y' : Int64} (hy : y' = aY k y w) : Ct l mX3_add 1 0 0 [.ref b, .int k, .int xx, .long y'] σ (pI fun r σ' => r = nI (L.length + 1) ∧ CWr σ' ow x A ad hk cs ff j w (L ++ [st1 w k xx y]) b wq aq sgb ws dv D tz od) := by
  obtain ⟨h1, h2, h3, h4, h5⟩ := h
  subst hy
  refine (c_addF h1 (g := (w, L)) (List.getElem?_set_self h2) h3 hl k xx _).mono ?_
  rintro v σ' ⟨r, rfl, rfl, hs, hR⟩
  refine ⟨_, rfl, rfl, ?_, h2, h3, h4.mono hs ?_, h5.mono hs ?_⟩
  · rw [List.set_set] at hR
    exact hR
  · have h60 := h1.2.1.2.1
    rw [List.length_set] at h60
    omega
  · have h60 := h1.2.1.2.1
    rw [List.length_set] at h60
    omega
theorem c_addWm {σ : gH} {mq : Nat} {mc : gC} (h : CWr σ ow x A ad hk cs ff j w L b wq aq sgb ws dv D tz od) (hm : Pt σ ow mq 402 mc) (hl : L.length < 12) (k xx : Int32) (y : Int64) {y' : Int64} (hy : y' = aY k y w) : Ct l mX3_add 1 0 0 [.ref b, .int k, .int xx, .long y'] σ (pI fun r σ' => r = nI (L.length + 1) ∧ CWr σ' ow x A ad hk cs ff j w (L ++ [st1 w k xx y]) b wq aq sgb ws dv D tz od ∧ Pt σ' ow mq 402 mc) := by
  obtain ⟨h1, h2, h3, h4, h5⟩ := h
  subst hy
  refine (c_addF h1 (g := (w, L)) (List.getElem?_set_self h2) h3 hl k xx _).mono ?_
  rintro v σ' ⟨r, rfl, rfl, hs, hR⟩
  have h60 := h1.2.1.2.1
  rw [List.length_set] at h60
  refine ⟨_, rfl, rfl, ⟨?_, h2, h3, h4.mono hs (by omega), h5.mono hs (by omega)⟩, hm.mono hs (by omega)⟩
  rw [List.set_set] at hR
  exact hR
theorem c_adM {σ : gH} {mq : Nat} {mc : gC} {n : Nat} (h : CWr σ ow x A ad hk cs ff j w L b wq aq sgb ws dv D tz od) (hm : Pt σ ow mq 402 mc) (hn : L.length = n) (hl : n < 12) (k xx : Int32) (y : Int64) {y' : Int64} (hy : y' = aY k y w) : Ct l mX3_add 1 0 0 [.ref b, .int k, .int xx, .long y'] σ (pI fun r σ' => r = nI (n + 1) ∧ CWr σ' ow x A ad hk cs ff j w (L ++ [st1 w k xx y]) b wq aq sgb ws dv D tz od ∧ Pt σ' ow mq 402 mc ∧ (L ++ [st1 w k xx y]).length = n + 1) := by
  subst hn
  refine (c_addWm h hm hl k xx y hy).mono ?_
  rintro v σ' ⟨r, rfl, rfl, h1, h2⟩
  exact ⟨_, rfl, rfl, h1, h2, by rw [List.length_append]; rfl⟩
theorem c_adW {σ : gH} {n : Nat} (h : CWr σ ow x A ad hk cs ff j w L b wq aq sgb ws dv D tz od) (hn : L.length = n) (hl : n < 12) (k xx : Int32) (y : Int64) {y' : Int64} (hy : y' = aY k y w) : Ct l mX3_add 1 0 0 [.ref b, .int k, .int xx, .long y'] σ (pI fun r σ' => r = nI (n + 1) ∧ CWr σ' ow x A ad hk cs ff j w (L ++ [st1 w k xx y]) b wq aq sgb ws dv D tz od ∧ (L ++ [st1 w k xx y]).length = n + 1) := by
  subst hn
  refine (c_addW h hl k xx y hy).mono ?_
  rintro v σ' ⟨r, rfl, rfl, h1⟩
  exact ⟨_, rfl, rfl, h1, by rw [List.length_append]; rfl⟩
def wCP (x : Nat) (A : aA) (ad hk : Nat → Nat) (cs : List cA) (ff : Nat → Option Nat) (j : Nat) (w : Int32) (L : List aSt) (b wq aq : Nat) (sgb ws : Int32) (dv D : Int64) (tz : Nat) (od : Int64) : gH → Prop := fun σ' => ∃ ow', CWr σ' ow' x A ad hk cs ff j w L b wq aq sgb ws dv D tz od
theorem c_X9_plainQuotient (h : CWr τ ow x A ad hk cs ff j w L b wq aq sgb ws dv D tz od) (hH : WH N w D tz od) (hl : L.length + 5 ≤ 12) (z : Int32) : Ct l mX9_plainQuotient 4 1 4 [.ref wq, .int z] τ (pI fun r σ' => r = nI (L ++ pqL w D od tz z L.length).length ∧ wCP x A ad hk cs ff j w (L ++ pqL w D od tz z L.length) b wq aq sgb ws dv D tz od σ') := by
  obtain ⟨hN, hwN, hT, hod, hDN, hD⟩ := hH
  have hW : isW w := by rw [hwN]; rcases hN with rfl | rfl | rfl | rfl <;> decide
  refine Ct_of moX9_plainQuotient [some (.ref wq), some (.int z), none, none, none, none, none] rfl (Nat.le_of_ble_eq_true rfl) ?_
  by_cases ho : od = 1
  · have hv : pqL w D od tz z L.length = [st1 w 0 z (nI tz).toInt64] := by unfold pqL; rw [if_pos ho]
    rw [hv]
    refine g_aload_n (i := 0) dX9_plainQuotient_0 rfl rfl ?_
    refine g_getf dX9_plainQuotient_1 flX9_50 (h.2.2.2.1.1) rfl ?_
    refine g_lconst (v := 1) dX9_plainQuotient_4 (by decide) ?_
    refine g_lcmp dX9_plainQuotient_5 ?_
    refine g_if_ne (tgt := 24) dX9_plainQuotient_6 (by decide) (fun zc6 => ?_) (fun zc6 => ?_)
    · exact absurd ((lg_cmp_eq _ _).mpr ho) zc6
    · refine g_aload_n (i := 0) dX9_plainQuotient_9 rfl rfl ?_
      refine g_getf dX9_plainQuotient_10 flX9_7 (h.2.2.2.1.1) rfl ?_
      refine g_iconst (v := 0) dX9_plainQuotient_13 (by decide) ?_
      refine g_iload_n (i := 1) dX9_plainQuotient_14 rfl rfl ?_
      refine g_aload_n (i := 0) dX9_plainQuotient_15 rfl rfl ?_
      refine g_getf dX9_plainQuotient_16 flX9_47 (h.2.2.2.1.1) rfl ?_
      refine g_i2l dX9_plainQuotient_19 ?_
      refine g_callVi (My := mX3_add) [_, _, _] dX9_plainQuotient_20 lkX9_56 mvX3_add rfl (h.tb.choose_spec) rfl (c_addW h (by omega) 0 z _ (aY_o (by decide) _ _).symm) (by decide) (by decide) (by decide) rfl (Nat.le_of_ble_eq_true rfl) (fun zr20 σ zh20 => ?_)
      obtain ⟨ze20, h1⟩ := zh20
      refine g_iret dX9_plainQuotient_23 rfl ?_
      exact ⟨_, rfl, by rw [ze20, List.length_append]; rfl, ow, h1⟩
  · have hnd := hT.nd (N := N) (by rw [← hod]; exact ho)
    have hFm : mLow (fFactor w 0 D) w = fFactor w 0 D := mLow_mLow _ hW
    have hv : ∀ X : List aSt, pqL w D od tz z L.length = X → (pI fun r σ' => r = nI (L ++ pqL w D od tz z L.length).length ∧ wCP x A ad hk cs ff j w (L ++ pqL w D od tz z L.length) b wq aq sgb ws dv D tz od σ') = (pI fun r σ' => r = nI (L ++ X).length ∧ wCP x A ad hk cs ff j w (L ++ X) b wq aq sgb ws dv D tz od σ') := fun X hX => by rw [hX]
    by_cases hov : fOver w 0 D = 0
    · by_cases hmv : fMoved w 0 D ≤ 0
      · rw [hv [st1 w 2 z (fFactor w 0 D)] (by unfold pqL; rw [if_neg ho, if_pos hov, if_pos hmv])]
        subst hwN
        refine g_aload_n (i := 0) dX9_plainQuotient_0 rfl rfl ?_
        refine g_getf dX9_plainQuotient_1 flX9_50 (by first | exact h.2.2.2.1.1 | exact h1.2.2.2.1.1 | exact h2.2.2.2.1.1 | exact m1.1 | exact m2.1) rfl ?_
        refine g_lconst (v := 1) dX9_plainQuotient_4 (by decide) ?_
        refine g_lcmp dX9_plainQuotient_5 ?_
        refine g_if_ne (tgt := 24) dX9_plainQuotient_6 (by decide) (fun zc6 => ?_) (fun zc6 => ?_)
        · refine g_new dX9_plainQuotient_24 nwX9_91 (by decide) (by decide) (fun zq24 zhq24 => ?_)
          refine g_dup dX9_plainQuotient_27 rfl ?_
          refine g_aload_n (i := 0) dX9_plainQuotient_28 rfl rfl ?_
          refine g_getf dX9_plainQuotient_29 flX9_23 ((su_ne _ _ (h.2.2.2.1.nq zhq24)).trans h.2.2.2.1.1) rfl ?_
          refine g_aload_n (i := 0) dX9_plainQuotient_32 rfl rfl ?_
          refine g_getf dX9_plainQuotient_33 flX9_38 ((su_ne _ _ (h.2.2.2.1.nq zhq24)).trans h.2.2.2.1.1) rfl ?_
          refine g_iconst (v := 0) dX9_plainQuotient_36 (by decide) ?_
          refine g_callIv (My := mX7_init) [_, _, _] dX9_plainQuotient_37 lkX9_93 mvX7_init rfl (c_X7_init (su_self _ _ _) hN hD hDN hnd (Or.inl rfl)) (by decide) (by decide) (by decide) rfl (Nat.le_of_ble_eq_true rfl) (fun σ zh37 => ?_)
          obtain ⟨ze37, ov1, jm, jmN, ejm⟩ := zh37
          rw [ze37, su_su]
          have h1 := h.new (Sm.none zhq24 (mgO N 0 D) 402)
          have m1 : Pt (su τ zq24 (mgO N 0 D)) (va_up ow zq24 402) zq24 402 (mgO N 0 D) := ⟨su_self _ _ _, va_up_self _ _ _⟩
          refine g_astore_n (i := 2) (ls' := [_, _, _, _, _, _, _]) dX9_plainQuotient_40 rfl (by decide) rfl rfl ?_
          refine g_aload_n (i := 0) dX9_plainQuotient_41 rfl rfl ?_
          refine g_getf dX9_plainQuotient_42 flX9_7 (by first | exact h.2.2.2.1.1 | exact h1.2.2.2.1.1 | exact h2.2.2.2.1.1 | exact m1.1 | exact m2.1) rfl ?_
          refine g_iconst (v := 2) dX9_plainQuotient_45 (by decide) ?_
          refine g_iload_n (i := 1) dX9_plainQuotient_46 rfl rfl ?_
          refine g_aload_n (i := 2) dX9_plainQuotient_47 rfl rfl ?_
          refine g_getf dX9_plainQuotient_48 flX9_96 (by first | exact h.2.2.2.1.1 | exact h1.2.2.2.1.1 | exact h2.2.2.2.1.1 | exact m1.1 | exact m2.1) rfl ?_
          refine g_callVi (My := mX3_add) [_, _, _] dX9_plainQuotient_51 lkX9_56 mvX3_add rfl (h1.tb.choose_spec) rfl (c_addWm h1 m1 (by omega) 2 z (fFactor (nI N) 0 D) ((aY_n (by decide) _ _).trans hFm).symm) (by decide) (by decide) (by decide) rfl (Nat.le_of_ble_eq_true rfl) (fun zr51 σ zh51 => ?_)
          obtain ⟨ze51, h2, m2⟩ := zh51
          rw [ze51]
          refine g_istore_n (i := 3) (ls' := [_, _, _, _, _, _, _]) dX9_plainQuotient_54 rfl (by decide) rfl rfl ?_
          refine g_aload_n (i := 2) dX9_plainQuotient_55 rfl rfl ?_
          refine g_getf dX9_plainQuotient_56 flX9_99 (by first | exact h.2.2.2.1.1 | exact h1.2.2.2.1.1 | exact h2.2.2.2.1.1 | exact m1.1 | exact m2.1) rfl ?_
          refine g_if_ne (tgt := 88) dX9_plainQuotient_59 (by decide) (fun zc59 => ?_) (fun zc59 => ?_)
          · exact absurd hov zc59
          · refine g_aload_n (i := 2) dX9_plainQuotient_62 rfl rfl ?_
            refine g_getf dX9_plainQuotient_63 flX9_102 (by first | exact h.2.2.2.1.1 | exact h1.2.2.2.1.1 | exact h2.2.2.2.1.1 | exact m1.1 | exact m2.1) rfl ?_
            refine g_if_le (tgt := 86) dX9_plainQuotient_66 (by decide) (fun zc66 => ?_) (fun zc66 => ?_)
            · refine g_iload_n (i := 3) dX9_plainQuotient_86 rfl rfl ?_
              refine g_iret dX9_plainQuotient_87 rfl ?_
              exact ⟨_, rfl, by rw [List.length_append]; rfl, _, h2⟩
            · exact absurd hmv zc66
        · exact absurd ((lg_cmp_eq _ _).mp zc6) ho
      · rw [hv [st1 w 2 z (fFactor w 0 D), st1 w 0 (nI (L.length + 1)) (fMoved w 0 D).toInt64] (by unfold pqL; rw [if_neg ho, if_pos hov, if_neg hmv])]
        subst hwN
        refine g_aload_n (i := 0) dX9_plainQuotient_0 rfl rfl ?_
        refine g_getf dX9_plainQuotient_1 flX9_50 (by first | exact h.2.2.2.1.1 | exact h1.2.2.2.1.1 | exact h2.2.2.2.1.1 | exact m1.1 | exact m2.1) rfl ?_
        refine g_lconst (v := 1) dX9_plainQuotient_4 (by decide) ?_
        refine g_lcmp dX9_plainQuotient_5 ?_
        refine g_if_ne (tgt := 24) dX9_plainQuotient_6 (by decide) (fun zc6 => ?_) (fun zc6 => ?_)
        · refine g_new dX9_plainQuotient_24 nwX9_91 (by decide) (by decide) (fun zq24 zhq24 => ?_)
          refine g_dup dX9_plainQuotient_27 rfl ?_
          refine g_aload_n (i := 0) dX9_plainQuotient_28 rfl rfl ?_
          refine g_getf dX9_plainQuotient_29 flX9_23 ((su_ne _ _ (h.2.2.2.1.nq zhq24)).trans h.2.2.2.1.1) rfl ?_
          refine g_aload_n (i := 0) dX9_plainQuotient_32 rfl rfl ?_
          refine g_getf dX9_plainQuotient_33 flX9_38 ((su_ne _ _ (h.2.2.2.1.nq zhq24)).trans h.2.2.2.1.1) rfl ?_
          refine g_iconst (v := 0) dX9_plainQuotient_36 (by decide) ?_
          refine g_callIv (My := mX7_init) [_, _, _] dX9_plainQuotient_37 lkX9_93 mvX7_init rfl (c_X7_init (su_self _ _ _) hN hD hDN hnd (Or.inl rfl)) (by decide) (by decide) (by decide) rfl (Nat.le_of_ble_eq_true rfl) (fun σ zh37 => ?_)
          obtain ⟨ze37, ov1, jm, jmN, ejm⟩ := zh37
          rw [ze37, su_su]
          have h1 := h.new (Sm.none zhq24 (mgO N 0 D) 402)
          have m1 : Pt (su τ zq24 (mgO N 0 D)) (va_up ow zq24 402) zq24 402 (mgO N 0 D) := ⟨su_self _ _ _, va_up_self _ _ _⟩
          refine g_astore_n (i := 2) (ls' := [_, _, _, _, _, _, _]) dX9_plainQuotient_40 rfl (by decide) rfl rfl ?_
          refine g_aload_n (i := 0) dX9_plainQuotient_41 rfl rfl ?_
          refine g_getf dX9_plainQuotient_42 flX9_7 (by first | exact h.2.2.2.1.1 | exact h1.2.2.2.1.1 | exact h2.2.2.2.1.1 | exact m1.1 | exact m2.1) rfl ?_
          refine g_iconst (v := 2) dX9_plainQuotient_45 (by decide) ?_
          refine g_iload_n (i := 1) dX9_plainQuotient_46 rfl rfl ?_
          refine g_aload_n (i := 2) dX9_plainQuotient_47 rfl rfl ?_
          refine g_getf dX9_plainQuotient_48 flX9_96 (by first | exact h.2.2.2.1.1 | exact h1.2.2.2.1.1 | exact h2.2.2.2.1.1 | exact m1.1 | exact m2.1) rfl ?_
          refine g_callVi (My := mX3_add) [_, _, _] dX9_plainQuotient_51 lkX9_56 mvX3_add rfl (h1.tb.choose_spec) rfl (c_addWm h1 m1 (by omega) 2 z (fFactor (nI N) 0 D) ((aY_n (by decide) _ _).trans hFm).symm) (by decide) (by decide) (by decide) rfl (Nat.le_of_ble_eq_true rfl) (fun zr51 σ zh51 => ?_)
          obtain ⟨ze51, h2, m2⟩ := zh51
          rw [ze51]
          refine g_istore_n (i := 3) (ls' := [_, _, _, _, _, _, _]) dX9_plainQuotient_54 rfl (by decide) rfl rfl ?_
          refine g_aload_n (i := 2) dX9_plainQuotient_55 rfl rfl ?_
          refine g_getf dX9_plainQuotient_56 flX9_99 (by first | exact h.2.2.2.1.1 | exact h1.2.2.2.1.1 | exact h2.2.2.2.1.1 | exact m1.1 | exact m2.1) rfl ?_
          refine g_if_ne (tgt := 88) dX9_plainQuotient_59 (by decide) (fun zc59 => ?_) (fun zc59 => ?_)
          · exact absurd hov zc59
          · refine g_aload_n (i := 2) dX9_plainQuotient_62 rfl rfl ?_
            refine g_getf dX9_plainQuotient_63 flX9_102 (by first | exact h.2.2.2.1.1 | exact h1.2.2.2.1.1 | exact h2.2.2.2.1.1 | exact m1.1 | exact m2.1) rfl ?_
            refine g_if_le (tgt := 86) dX9_plainQuotient_66 (by decide) (fun zc66 => ?_) (fun zc66 => ?_)
            · exact absurd zc66 hmv
            · refine g_aload_n (i := 0) dX9_plainQuotient_69 rfl rfl ?_
              refine g_getf dX9_plainQuotient_70 flX9_7 (by first | exact h.2.2.2.1.1 | exact h1.2.2.2.1.1 | exact h2.2.2.2.1.1 | exact m1.1 | exact m2.1) rfl ?_
              refine g_iconst (v := 0) dX9_plainQuotient_73 (by decide) ?_
              refine g_iload_n (i := 3) dX9_plainQuotient_74 rfl rfl ?_
              refine g_aload_n (i := 2) dX9_plainQuotient_75 rfl rfl ?_
              refine g_getf dX9_plainQuotient_76 flX9_102 (by first | exact h.2.2.2.1.1 | exact h1.2.2.2.1.1 | exact h2.2.2.2.1.1 | exact m1.1 | exact m2.1) rfl ?_
              refine g_i2l dX9_plainQuotient_79 ?_
              refine g_callVi (My := mX3_add) [_, _, _] dX9_plainQuotient_80 lkX9_56 mvX3_add rfl (h2.tb.choose_spec) rfl (c_addWm h2 m2 (by rw [List.length_append]; show L.length + 1 < 12; omega) 0 (nI (L.length + 1)) _ (aY_o (by decide) _ _).symm) (by decide) (by decide) (by decide) rfl (Nat.le_of_ble_eq_true rfl) (fun zr80 σ zh80 => ?_)
              obtain ⟨ze80, h3, m3⟩ := zh80
              rw [ze80]
              refine g_goto (tgt := 87) dX9_plainQuotient_83 (by decide) ?_
              refine g_iret dX9_plainQuotient_87 rfl ?_
              exact ⟨_, rfl, by simp [List.length_append], _, by rw [List.append_assoc] at h3; exact h3⟩
        · exact absurd ((lg_cmp_eq _ _).mp zc6) ho
    · by_cases hmv : fMoved w 0 D ≤ 1
      · rw [hv [st1 w 2 z (fFactor w 0 D), st1 w 6 z (nI (L.length + 1)).toInt64, st1 w 0 (nI (L.length + 2)) 1, st1 w 5 (nI (L.length + 3)) (nI (L.length + 1)).toInt64] (by unfold pqL; rw [if_neg ho, if_neg hov, if_pos hmv])]
        subst hwN
        refine g_aload_n (i := 0) dX9_plainQuotient_0 rfl rfl ?_
        refine g_getf dX9_plainQuotient_1 flX9_50 (by first | exact h.2.2.2.1.1 | exact h1.2.2.2.1.1 | exact h2.2.2.2.1.1 | exact h3.2.2.2.1.1 | exact h4.2.2.2.1.1 | exact h5.2.2.2.1.1 | exact m1.1 | exact m2.1 | exact m3.1 | exact m4.1 | exact m5.1) rfl ?_
        refine g_lconst (v := 1) dX9_plainQuotient_4 (by decide) ?_
        refine g_lcmp dX9_plainQuotient_5 ?_
        refine g_if_ne (tgt := 24) dX9_plainQuotient_6 (by decide) (fun zc6 => ?_) (fun zc6 => ?_)
        · refine g_new dX9_plainQuotient_24 nwX9_91 (by decide) (by decide) (fun zq24 zhq24 => ?_)
          refine g_dup dX9_plainQuotient_27 rfl ?_
          refine g_aload_n (i := 0) dX9_plainQuotient_28 rfl rfl ?_
          refine g_getf dX9_plainQuotient_29 flX9_23 ((su_ne _ _ (h.2.2.2.1.nq zhq24)).trans h.2.2.2.1.1) rfl ?_
          refine g_aload_n (i := 0) dX9_plainQuotient_32 rfl rfl ?_
          refine g_getf dX9_plainQuotient_33 flX9_38 ((su_ne _ _ (h.2.2.2.1.nq zhq24)).trans h.2.2.2.1.1) rfl ?_
          refine g_iconst (v := 0) dX9_plainQuotient_36 (by decide) ?_
          refine g_callIv (My := mX7_init) [_, _, _] dX9_plainQuotient_37 lkX9_93 mvX7_init rfl (c_X7_init (su_self _ _ _) hN hD hDN hnd (Or.inl rfl)) (by decide) (by decide) (by decide) rfl (Nat.le_of_ble_eq_true rfl) (fun σ zh37 => ?_)
          obtain ⟨ze37, ov1, jm, jmN, ejm⟩ := zh37
          rw [ze37, su_su]
          have h1 := h.new (Sm.none zhq24 (mgO N 0 D) 402)
          have m1 : Pt (su τ zq24 (mgO N 0 D)) (va_up ow zq24 402) zq24 402 (mgO N 0 D) := ⟨su_self _ _ _, va_up_self _ _ _⟩
          refine g_astore_n (i := 2) (ls' := [_, _, _, _, _, _, _]) dX9_plainQuotient_40 rfl (by decide) rfl rfl ?_
          refine g_aload_n (i := 0) dX9_plainQuotient_41 rfl rfl ?_
          refine g_getf dX9_plainQuotient_42 flX9_7 (by first | exact h.2.2.2.1.1 | exact h1.2.2.2.1.1 | exact h2.2.2.2.1.1 | exact h3.2.2.2.1.1 | exact h4.2.2.2.1.1 | exact h5.2.2.2.1.1 | exact m1.1 | exact m2.1 | exact m3.1 | exact m4.1 | exact m5.1) rfl ?_
          refine g_iconst (v := 2) dX9_plainQuotient_45 (by decide) ?_
          refine g_iload_n (i := 1) dX9_plainQuotient_46 rfl rfl ?_
          refine g_aload_n (i := 2) dX9_plainQuotient_47 rfl rfl ?_
          refine g_getf dX9_plainQuotient_48 flX9_96 (by first | exact h.2.2.2.1.1 | exact h1.2.2.2.1.1 | exact h2.2.2.2.1.1 | exact h3.2.2.2.1.1 | exact h4.2.2.2.1.1 | exact h5.2.2.2.1.1 | exact m1.1 | exact m2.1 | exact m3.1 | exact m4.1 | exact m5.1) rfl ?_
          refine g_callVi (My := mX3_add) [_, _, _] dX9_plainQuotient_51 lkX9_56 mvX3_add rfl (h1.tb.choose_spec) rfl (c_adM h1 m1 rfl (by omega) 2 z (fFactor (nI N) 0 D) ((aY_n (by decide) _ _).trans hFm).symm) (by decide) (by decide) (by decide) rfl (Nat.le_of_ble_eq_true rfl) (fun zr51 σ zh51 => ?_)
          obtain ⟨ze51, h2, m2, l2⟩ := zh51
          rw [ze51]
          refine g_istore_n (i := 3) (ls' := [_, _, _, _, _, _, _]) dX9_plainQuotient_54 rfl (by decide) rfl rfl ?_
          refine g_aload_n (i := 2) dX9_plainQuotient_55 rfl rfl ?_
          refine g_getf dX9_plainQuotient_56 flX9_99 (by first | exact h.2.2.2.1.1 | exact h1.2.2.2.1.1 | exact h2.2.2.2.1.1 | exact h3.2.2.2.1.1 | exact h4.2.2.2.1.1 | exact h5.2.2.2.1.1 | exact m1.1 | exact m2.1 | exact m3.1 | exact m4.1 | exact m5.1) rfl ?_
          refine g_if_ne (tgt := 88) dX9_plainQuotient_59 (by decide) (fun zc59 => ?_) (fun zc59 => ?_)
          · refine g_aload_n (i := 0) dX9_plainQuotient_88 rfl rfl ?_
            refine g_getf dX9_plainQuotient_89 flX9_7 (by first | exact h.2.2.2.1.1 | exact h1.2.2.2.1.1 | exact h2.2.2.2.1.1 | exact h3.2.2.2.1.1 | exact h4.2.2.2.1.1 | exact h5.2.2.2.1.1 | exact m1.1 | exact m2.1 | exact m3.1 | exact m4.1 | exact m5.1) rfl ?_
            refine g_bipush (v := 6) dX9_plainQuotient_92 (by decide) ?_
            refine g_iload_n (i := 1) dX9_plainQuotient_94 rfl rfl ?_
            refine g_iload_n (i := 3) dX9_plainQuotient_95 rfl rfl ?_
            refine g_i2l dX9_plainQuotient_96 ?_
            refine g_callVi (My := mX3_add) [_, _, _] dX9_plainQuotient_97 lkX9_56 mvX3_add rfl (h2.tb.choose_spec) rfl (c_adM h2 m2 l2 (by omega) 6 z _ (aY_o (by decide) _ _).symm) (by decide) (by decide) (by decide) rfl (Nat.le_of_ble_eq_true rfl) (fun zr97 σ zh97 => ?_)
            obtain ⟨ze97, h3, m3, l3⟩ := zh97
            rw [ze97]
            refine g_istore (ls' := [_, _, _, _, _, _, _]) dX9_plainQuotient_100 (by decide) rfl rfl ?_
            refine g_aload_n (i := 0) dX9_plainQuotient_102 rfl rfl ?_
            refine g_getf dX9_plainQuotient_103 flX9_7 (by first | exact h.2.2.2.1.1 | exact h1.2.2.2.1.1 | exact h2.2.2.2.1.1 | exact h3.2.2.2.1.1 | exact h4.2.2.2.1.1 | exact h5.2.2.2.1.1 | exact m1.1 | exact m2.1 | exact m3.1 | exact m4.1 | exact m5.1) rfl ?_
            refine g_iconst (v := 0) dX9_plainQuotient_106 (by decide) ?_
            refine g_iload dX9_plainQuotient_107 rfl ?_
            refine g_lconst (v := 1) dX9_plainQuotient_109 (by decide) ?_
            refine g_callVi (My := mX3_add) [_, _, _] dX9_plainQuotient_110 lkX9_56 mvX3_add rfl (h3.tb.choose_spec) rfl (c_adM h3 m3 l3 (by omega) 0 (nI (L.length + 2)) 1 (aY_o (by decide) _ _).symm) (by decide) (by decide) (by decide) rfl (Nat.le_of_ble_eq_true rfl) (fun zr110 σ zh110 => ?_)
            obtain ⟨ze110, h4, m4, l4⟩ := zh110
            rw [ze110]
            refine g_istore (ls' := [_, _, _, _, _, _, _]) dX9_plainQuotient_113 (by decide) rfl rfl ?_
            refine g_aload_n (i := 0) dX9_plainQuotient_115 rfl rfl ?_
            refine g_getf dX9_plainQuotient_116 flX9_7 (by first | exact h.2.2.2.1.1 | exact h1.2.2.2.1.1 | exact h2.2.2.2.1.1 | exact h3.2.2.2.1.1 | exact h4.2.2.2.1.1 | exact h5.2.2.2.1.1 | exact m1.1 | exact m2.1 | exact m3.1 | exact m4.1 | exact m5.1) rfl ?_
            refine g_iconst (v := 5) dX9_plainQuotient_119 (by decide) ?_
            refine g_iload dX9_plainQuotient_120 rfl ?_
            refine g_iload_n (i := 3) dX9_plainQuotient_122 rfl rfl ?_
            refine g_i2l dX9_plainQuotient_123 ?_
            refine g_callVi (My := mX3_add) [_, _, _] dX9_plainQuotient_124 lkX9_56 mvX3_add rfl (h4.tb.choose_spec) rfl (c_adM h4 m4 l4 (by omega) 5 (nI (L.length + 3)) _ (aY_o (by decide) _ _).symm) (by decide) (by decide) (by decide) rfl (Nat.le_of_ble_eq_true rfl) (fun zr124 σ zh124 => ?_)
            obtain ⟨ze124, h5, m5, l5⟩ := zh124
            rw [ze124]
            refine g_istore (ls' := [_, _, _, _, _, _, _]) dX9_plainQuotient_127 (by decide) rfl rfl ?_
            refine g_aload_n (i := 2) dX9_plainQuotient_129 rfl rfl ?_
            refine g_getf dX9_plainQuotient_130 flX9_102 (by first | exact h.2.2.2.1.1 | exact h1.2.2.2.1.1 | exact h2.2.2.2.1.1 | exact h3.2.2.2.1.1 | exact h4.2.2.2.1.1 | exact h5.2.2.2.1.1 | exact m1.1 | exact m2.1 | exact m3.1 | exact m4.1 | exact m5.1) rfl ?_
            refine g_iconst (v := 1) dX9_plainQuotient_133 (by decide) ?_
            refine g_icmp_le (tgt := 157) dX9_plainQuotient_134 (by decide) (fun zc134 => ?_) (fun zc134 => ?_)
            · refine g_iload dX9_plainQuotient_157 rfl ?_
              refine g_iret dX9_plainQuotient_159 rfl ?_
              exact ⟨_, rfl, by rw [List.length_append]; rfl, _, by simp only [List.append_assoc] at h5; exact h5⟩
            · exact absurd hmv zc134
          · exact absurd zc59 hov
        · exact absurd ((lg_cmp_eq _ _).mp zc6) ho
      · rw [hv [st1 w 2 z (fFactor w 0 D), st1 w 6 z (nI (L.length + 1)).toInt64, st1 w 0 (nI (L.length + 2)) 1, st1 w 5 (nI (L.length + 3)) (nI (L.length + 1)).toInt64, st1 w 0 (nI (L.length + 4)) (fMoved w 0 D - 1).toInt64] (by unfold pqL; rw [if_neg ho, if_neg hov, if_neg hmv])]
        subst hwN
        refine g_aload_n (i := 0) dX9_plainQuotient_0 rfl rfl ?_
        refine g_getf dX9_plainQuotient_1 flX9_50 (by first | exact h.2.2.2.1.1 | exact h1.2.2.2.1.1 | exact h2.2.2.2.1.1 | exact h3.2.2.2.1.1 | exact h4.2.2.2.1.1 | exact h5.2.2.2.1.1 | exact m1.1 | exact m2.1 | exact m3.1 | exact m4.1 | exact m5.1) rfl ?_
        refine g_lconst (v := 1) dX9_plainQuotient_4 (by decide) ?_
        refine g_lcmp dX9_plainQuotient_5 ?_
        refine g_if_ne (tgt := 24) dX9_plainQuotient_6 (by decide) (fun zc6 => ?_) (fun zc6 => ?_)
        · refine g_new dX9_plainQuotient_24 nwX9_91 (by decide) (by decide) (fun zq24 zhq24 => ?_)
          refine g_dup dX9_plainQuotient_27 rfl ?_
          refine g_aload_n (i := 0) dX9_plainQuotient_28 rfl rfl ?_
          refine g_getf dX9_plainQuotient_29 flX9_23 ((su_ne _ _ (h.2.2.2.1.nq zhq24)).trans h.2.2.2.1.1) rfl ?_
          refine g_aload_n (i := 0) dX9_plainQuotient_32 rfl rfl ?_
          refine g_getf dX9_plainQuotient_33 flX9_38 ((su_ne _ _ (h.2.2.2.1.nq zhq24)).trans h.2.2.2.1.1) rfl ?_
          refine g_iconst (v := 0) dX9_plainQuotient_36 (by decide) ?_
          refine g_callIv (My := mX7_init) [_, _, _] dX9_plainQuotient_37 lkX9_93 mvX7_init rfl (c_X7_init (su_self _ _ _) hN hD hDN hnd (Or.inl rfl)) (by decide) (by decide) (by decide) rfl (Nat.le_of_ble_eq_true rfl) (fun σ zh37 => ?_)
          obtain ⟨ze37, ov1, jm, jmN, ejm⟩ := zh37
          rw [ze37, su_su]
          have h1 := h.new (Sm.none zhq24 (mgO N 0 D) 402)
          have m1 : Pt (su τ zq24 (mgO N 0 D)) (va_up ow zq24 402) zq24 402 (mgO N 0 D) := ⟨su_self _ _ _, va_up_self _ _ _⟩
          refine g_astore_n (i := 2) (ls' := [_, _, _, _, _, _, _]) dX9_plainQuotient_40 rfl (by decide) rfl rfl ?_
          refine g_aload_n (i := 0) dX9_plainQuotient_41 rfl rfl ?_
          refine g_getf dX9_plainQuotient_42 flX9_7 (by first | exact h.2.2.2.1.1 | exact h1.2.2.2.1.1 | exact h2.2.2.2.1.1 | exact h3.2.2.2.1.1 | exact h4.2.2.2.1.1 | exact h5.2.2.2.1.1 | exact m1.1 | exact m2.1 | exact m3.1 | exact m4.1 | exact m5.1) rfl ?_
          refine g_iconst (v := 2) dX9_plainQuotient_45 (by decide) ?_
          refine g_iload_n (i := 1) dX9_plainQuotient_46 rfl rfl ?_
          refine g_aload_n (i := 2) dX9_plainQuotient_47 rfl rfl ?_
          refine g_getf dX9_plainQuotient_48 flX9_96 (by first | exact h.2.2.2.1.1 | exact h1.2.2.2.1.1 | exact h2.2.2.2.1.1 | exact h3.2.2.2.1.1 | exact h4.2.2.2.1.1 | exact h5.2.2.2.1.1 | exact m1.1 | exact m2.1 | exact m3.1 | exact m4.1 | exact m5.1) rfl ?_
          refine g_callVi (My := mX3_add) [_, _, _] dX9_plainQuotient_51 lkX9_56 mvX3_add rfl (h1.tb.choose_spec) rfl (c_adM h1 m1 rfl (by omega) 2 z (fFactor (nI N) 0 D) ((aY_n (by decide) _ _).trans hFm).symm) (by decide) (by decide) (by decide) rfl (Nat.le_of_ble_eq_true rfl) (fun zr51 σ zh51 => ?_)
          obtain ⟨ze51, h2, m2, l2⟩ := zh51
          rw [ze51]
          refine g_istore_n (i := 3) (ls' := [_, _, _, _, _, _, _]) dX9_plainQuotient_54 rfl (by decide) rfl rfl ?_
          refine g_aload_n (i := 2) dX9_plainQuotient_55 rfl rfl ?_
          refine g_getf dX9_plainQuotient_56 flX9_99 (by first | exact h.2.2.2.1.1 | exact h1.2.2.2.1.1 | exact h2.2.2.2.1.1 | exact h3.2.2.2.1.1 | exact h4.2.2.2.1.1 | exact h5.2.2.2.1.1 | exact m1.1 | exact m2.1 | exact m3.1 | exact m4.1 | exact m5.1) rfl ?_
          refine g_if_ne (tgt := 88) dX9_plainQuotient_59 (by decide) (fun zc59 => ?_) (fun zc59 => ?_)
          · refine g_aload_n (i := 0) dX9_plainQuotient_88 rfl rfl ?_
            refine g_getf dX9_plainQuotient_89 flX9_7 (by first | exact h.2.2.2.1.1 | exact h1.2.2.2.1.1 | exact h2.2.2.2.1.1 | exact h3.2.2.2.1.1 | exact h4.2.2.2.1.1 | exact h5.2.2.2.1.1 | exact m1.1 | exact m2.1 | exact m3.1 | exact m4.1 | exact m5.1) rfl ?_
            refine g_bipush (v := 6) dX9_plainQuotient_92 (by decide) ?_
            refine g_iload_n (i := 1) dX9_plainQuotient_94 rfl rfl ?_
            refine g_iload_n (i := 3) dX9_plainQuotient_95 rfl rfl ?_
            refine g_i2l dX9_plainQuotient_96 ?_
            refine g_callVi (My := mX3_add) [_, _, _] dX9_plainQuotient_97 lkX9_56 mvX3_add rfl (h2.tb.choose_spec) rfl (c_adM h2 m2 l2 (by omega) 6 z _ (aY_o (by decide) _ _).symm) (by decide) (by decide) (by decide) rfl (Nat.le_of_ble_eq_true rfl) (fun zr97 σ zh97 => ?_)
            obtain ⟨ze97, h3, m3, l3⟩ := zh97
            rw [ze97]
            refine g_istore (ls' := [_, _, _, _, _, _, _]) dX9_plainQuotient_100 (by decide) rfl rfl ?_
            refine g_aload_n (i := 0) dX9_plainQuotient_102 rfl rfl ?_
            refine g_getf dX9_plainQuotient_103 flX9_7 (by first | exact h.2.2.2.1.1 | exact h1.2.2.2.1.1 | exact h2.2.2.2.1.1 | exact h3.2.2.2.1.1 | exact h4.2.2.2.1.1 | exact h5.2.2.2.1.1 | exact m1.1 | exact m2.1 | exact m3.1 | exact m4.1 | exact m5.1) rfl ?_
            refine g_iconst (v := 0) dX9_plainQuotient_106 (by decide) ?_
            refine g_iload dX9_plainQuotient_107 rfl ?_
            refine g_lconst (v := 1) dX9_plainQuotient_109 (by decide) ?_
            refine g_callVi (My := mX3_add) [_, _, _] dX9_plainQuotient_110 lkX9_56 mvX3_add rfl (h3.tb.choose_spec) rfl (c_adM h3 m3 l3 (by omega) 0 (nI (L.length + 2)) 1 (aY_o (by decide) _ _).symm) (by decide) (by decide) (by decide) rfl (Nat.le_of_ble_eq_true rfl) (fun zr110 σ zh110 => ?_)
            obtain ⟨ze110, h4, m4, l4⟩ := zh110
            rw [ze110]
            refine g_istore (ls' := [_, _, _, _, _, _, _]) dX9_plainQuotient_113 (by decide) rfl rfl ?_
            refine g_aload_n (i := 0) dX9_plainQuotient_115 rfl rfl ?_
            refine g_getf dX9_plainQuotient_116 flX9_7 (by first | exact h.2.2.2.1.1 | exact h1.2.2.2.1.1 | exact h2.2.2.2.1.1 | exact h3.2.2.2.1.1 | exact h4.2.2.2.1.1 | exact h5.2.2.2.1.1 | exact m1.1 | exact m2.1 | exact m3.1 | exact m4.1 | exact m5.1) rfl ?_
            refine g_iconst (v := 5) dX9_plainQuotient_119 (by decide) ?_
            refine g_iload dX9_plainQuotient_120 rfl ?_
            refine g_iload_n (i := 3) dX9_plainQuotient_122 rfl rfl ?_
            refine g_i2l dX9_plainQuotient_123 ?_
            refine g_callVi (My := mX3_add) [_, _, _] dX9_plainQuotient_124 lkX9_56 mvX3_add rfl (h4.tb.choose_spec) rfl (c_adM h4 m4 l4 (by omega) 5 (nI (L.length + 3)) _ (aY_o (by decide) _ _).symm) (by decide) (by decide) (by decide) rfl (Nat.le_of_ble_eq_true rfl) (fun zr124 σ zh124 => ?_)
            obtain ⟨ze124, h5, m5, l5⟩ := zh124
            rw [ze124]
            refine g_istore (ls' := [_, _, _, _, _, _, _]) dX9_plainQuotient_127 (by decide) rfl rfl ?_
            refine g_aload_n (i := 2) dX9_plainQuotient_129 rfl rfl ?_
            refine g_getf dX9_plainQuotient_130 flX9_102 (by first | exact h.2.2.2.1.1 | exact h1.2.2.2.1.1 | exact h2.2.2.2.1.1 | exact h3.2.2.2.1.1 | exact h4.2.2.2.1.1 | exact h5.2.2.2.1.1 | exact m1.1 | exact m2.1 | exact m3.1 | exact m4.1 | exact m5.1) rfl ?_
            refine g_iconst (v := 1) dX9_plainQuotient_133 (by decide) ?_
            refine g_icmp_le (tgt := 157) dX9_plainQuotient_134 (by decide) (fun zc134 => ?_) (fun zc134 => ?_)
            · exact absurd zc134 hmv
            · refine g_aload_n (i := 0) dX9_plainQuotient_137 rfl rfl ?_
              refine g_getf dX9_plainQuotient_138 flX9_7 (by first | exact h.2.2.2.1.1 | exact h1.2.2.2.1.1 | exact h2.2.2.2.1.1 | exact h3.2.2.2.1.1 | exact h4.2.2.2.1.1 | exact h5.2.2.2.1.1 | exact m1.1 | exact m2.1 | exact m3.1 | exact m4.1 | exact m5.1) rfl ?_
              refine g_iconst (v := 0) dX9_plainQuotient_141 (by decide) ?_
              refine g_iload dX9_plainQuotient_142 rfl ?_
              refine g_aload_n (i := 2) dX9_plainQuotient_144 rfl rfl ?_
              refine g_getf dX9_plainQuotient_145 flX9_102 (by first | exact h.2.2.2.1.1 | exact h1.2.2.2.1.1 | exact h2.2.2.2.1.1 | exact h3.2.2.2.1.1 | exact h4.2.2.2.1.1 | exact h5.2.2.2.1.1 | exact m1.1 | exact m2.1 | exact m3.1 | exact m4.1 | exact m5.1) rfl ?_
              refine g_iconst (v := 1) dX9_plainQuotient_148 (by decide) ?_
              refine g_isub dX9_plainQuotient_149 ?_
              refine g_i2l dX9_plainQuotient_150 ?_
              refine g_callVi (My := mX3_add) [_, _, _] dX9_plainQuotient_151 lkX9_56 mvX3_add rfl (h5.tb.choose_spec) rfl (c_adM h5 m5 l5 (by omega) 0 (nI (L.length + 4)) _ (aY_o (by decide) _ _).symm) (by decide) (by decide) (by decide) rfl (Nat.le_of_ble_eq_true rfl) (fun zr151 σ zh151 => ?_)
              obtain ⟨ze151, h6, m6, l6⟩ := zh151
              rw [ze151]
              refine g_goto (tgt := 159) dX9_plainQuotient_154 (by decide) ?_
              refine g_iret dX9_plainQuotient_159 rfl ?_
              exact ⟨_, rfl, by rw [List.length_append]; rfl, _, by simp only [List.append_assoc] at h6; exact h6⟩
          · exact absurd zc59 hov
        · exact absurd ((lg_cmp_eq _ _).mp zc6) ho
theorem c_X9_restAfter (h : CWr τ ow x A ad hk cs ff j w L b wq aq sgb ws dv D tz od) (hW : isW w) {n : Nat} (hn : L.length = n) (hl : n + 2 ≤ 12) (q : Int32) {d : Int64} (hd : mLow dv w = mLow d w) : Ct l mX9_restAfter 2 0 0 [.ref wq, .int q] τ (pV (wCP x A ad hk cs ff j w (L ++ roL w q d n) b wq aq sgb ws dv D tz od)) := by
  refine Ct_of moX9_restAfter [some (.ref wq), some (.int q), none] rfl (Nat.le_of_ble_eq_true rfl) ?_
  refine g_aload_n (i := 0) dX9_restAfter_0 rfl rfl ?_
  refine g_getf dX9_restAfter_1 flX9_7 (by first | exact h.2.2.2.1.1 | exact h.2.2.2.2.1 | exact h1.2.2.2.1.1) rfl ?_
  refine g_iconst (v := 4) dX9_restAfter_4 (by decide) ?_
  refine g_iload_n (i := 1) dX9_restAfter_5 rfl rfl ?_
  refine g_aload_n (i := 0) dX9_restAfter_6 rfl rfl ?_
  refine g_getf dX9_restAfter_7 flX9_13 (by first | exact h.2.2.2.1.1 | exact h.2.2.2.2.1 | exact h1.2.2.2.1.1) rfl ?_
  refine g_getf dX9_restAfter_10 flX9_24 (by first | exact h.2.2.2.1.1 | exact h.2.2.2.2.1 | exact h1.2.2.2.1.1) rfl ?_
  refine g_aload_n (i := 0) dX9_restAfter_13 rfl rfl ?_
  refine g_getf dX9_restAfter_14 flX9_23 (by first | exact h.2.2.2.1.1 | exact h.2.2.2.2.1 | exact h1.2.2.2.1.1) rfl ?_
  refine g_callSl (My := mX2_mask) [_] dX9_restAfter_17 lkX9_32 mvX2_mask rfl (c_X2_mask _) (by decide) (by decide) (by decide) rfl (Nat.le_of_ble_eq_true rfl) (fun zr17 σ zh17 => ?_)
  obtain ⟨ze17, zf17⟩ := zh17
  rw [ze17, zf17]
  refine g_land dX9_restAfter_20 ?_
  rw [low_eq _ hW]
  refine g_callVi (My := mX3_add) [_, _, _] dX9_restAfter_21 lkX9_56 mvX3_add rfl (h.tb.choose_spec) rfl (c_adW h hn (by omega) 4 q d (by rw [aY_n (by decide), hd])) (by decide) (by decide) (by decide) rfl (Nat.le_of_ble_eq_true rfl) (fun zr21 σ zh21 => ?_)
  obtain ⟨ze21, h1, l1⟩ := zh21
  rw [ze21]
  refine g_istore_n (i := 2) (ls' := [_, _, _]) dX9_restAfter_24 rfl (by decide) rfl rfl ?_
  refine g_aload_n (i := 0) dX9_restAfter_25 rfl rfl ?_
  refine g_getf dX9_restAfter_26 flX9_7 (by first | exact h.2.2.2.1.1 | exact h.2.2.2.2.1 | exact h1.2.2.2.1.1) rfl ?_
  refine g_bipush (v := 6) dX9_restAfter_29 (by decide) ?_
  refine g_iconst (v := 0) dX9_restAfter_31 (by decide) ?_
  refine g_iload_n (i := 2) dX9_restAfter_32 rfl rfl ?_
  refine g_i2l dX9_restAfter_33 ?_
  refine g_callVi (My := mX3_add) [_, _, _] dX9_restAfter_34 lkX9_56 mvX3_add rfl (h1.tb.choose_spec) rfl (c_adW h1 l1 (by omega) 6 0 _ (aY_o (by decide) _ _).symm) (by decide) (by decide) (by decide) rfl (Nat.le_of_ble_eq_true rfl) (fun zr34 σ zh34 => ?_)
  obtain ⟨ze34, h2, l2⟩ := zh34
  rw [ze34]
  refine g_pop dX9_restAfter_37 rfl ?_
  refine g_vret dX9_restAfter_38 rfl ?_
  exact ⟨rfl, ow, by simp only [List.append_assoc] at h2; exact h2⟩
theorem c_X9_noRest (h : CWr τ ow x A ad hk cs ff j w L b wq aq sgb ws dv D tz od) (hH : WH N w D tz od) {n : Nat} (hn : L.length = n) (hl : n + 3 ≤ 12) (z : Int32) : Ct l mX9_noRest 3 0 0 [.ref wq, .int z] τ (pV (wCP x A ad hk cs ff j w (L ++ pwL w D od tz z n) b wq aq sgb ws dv D tz od)) := by
  obtain ⟨hN, hwN, hT, hod, hDN, hD⟩ := hH
  have hW : isW w := by rw [hwN]; rcases hN with rfl | rfl | rfl | rfl <;> decide
  have hoo : uN od % 2 = 1 := by rw [hod, hT.od]; exact hT.2.1
  have hq : bQuo (bMask w) D = aY 11 (mQuo (mLow (-1) w) D) w := by
    rw [aY_n (by decide)]
    have e : bMask w = mLow (-1) w := by rw [hwN]; rcases hN with rfl | rfl | rfl | rfl <;> decide
    rw [e, bQuo_eq (ne0_N.mpr hD)]
    rw [hwN]
    refine (mLow_id hN ?_).symm
    rw [mQuo_N _ _ hD]
    exact Nat.lt_of_le_of_lt (Nat.div_le_self _ _) (mLow_lt _ hN)
  refine Ct_of moX9_noRest [some (.ref wq), some (.int z), none] rfl (Nat.le_of_ble_eq_true rfl) ?_
  by_cases ht : nI tz ≤ 0
  · have hv : pwL w D od tz z n = [st1 w 4 z (mInv od), st1 w 11 (nI (n + 1)) (mQuo (mLow (-1) w) D)] := by unfold pwL; rw [if_pos ht]
    rw [hv]
    refine g_aload_n (i := 0) dX9_noRest_0 rfl rfl ?_
    refine g_getf dX9_noRest_1 flX9_7 (by first | exact h.2.2.2.1.1 | exact h1.2.2.2.1.1) rfl ?_
    refine g_iconst (v := 4) dX9_noRest_4 (by decide) ?_
    refine g_iload_n (i := 1) dX9_noRest_5 rfl rfl ?_
    refine g_aload_n (i := 0) dX9_noRest_6 rfl rfl ?_
    refine g_getf dX9_noRest_7 flX9_23 (by first | exact h.2.2.2.1.1 | exact h1.2.2.2.1.1) rfl ?_
    refine g_aload_n (i := 0) dX9_noRest_10 rfl rfl ?_
    refine g_getf dX9_noRest_11 flX9_50 (by first | exact h.2.2.2.1.1 | exact h1.2.2.2.1.1) rfl ?_
    refine g_callSl (My := mX2_inverseOf) [_, _] dX9_noRest_14 lkX9_73 mvX2_inverseOf rfl (c_X2_inverseOf _ hW _) (by decide) (by decide) (by decide) rfl (Nat.le_of_ble_eq_true rfl) (fun zr14 σ zh14 => ?_)
    obtain ⟨ze14, zf14⟩ := zh14
    rw [ze14, zf14]
    refine g_callVi (My := mX3_add) [_, _, _] dX9_noRest_17 lkX9_56 mvX3_add rfl (h.tb.choose_spec) rfl (c_adW h hn (by omega) 4 z (mInv od) (by rw [aY_n (by decide), bInv_eq hW hoo])) (by decide) (by decide) (by decide) rfl (Nat.le_of_ble_eq_true rfl) (fun zr17 σ1 zh17 => ?_)
    obtain ⟨ze17, h1, l1⟩ := zh17
    rw [ze17]
    refine g_istore_n (i := 2) (ls' := [_, _, _]) dX9_noRest_20 rfl (by decide) rfl rfl ?_
    refine g_aload_n (i := 0) dX9_noRest_21 rfl rfl ?_
    refine g_getf dX9_noRest_22 flX9_47 (by first | exact h.2.2.2.1.1 | exact h1.2.2.2.1.1) rfl ?_
    refine g_if_le (tgt := 44) dX9_noRest_25 (by decide) (fun zc25 => ?_) (fun zc25 => ?_)
    · refine g_aload_n (i := 0) dX9_noRest_44 rfl rfl ?_
      refine g_getf dX9_noRest_45 flX9_7 (by first | exact h.2.2.2.1.1 | exact h1.2.2.2.1.1) rfl ?_
      refine g_bipush (v := 11) dX9_noRest_48 (by decide) ?_
      refine g_iload_n (i := 2) dX9_noRest_50 rfl rfl ?_
      refine g_aload_n (i := 0) dX9_noRest_51 rfl rfl ?_
      refine g_getf dX9_noRest_52 flX9_23 (by first | exact h.2.2.2.1.1 | exact h1.2.2.2.1.1) rfl ?_
      refine g_callSl (My := mX2_mask) [_] dX9_noRest_55 lkX9_32 mvX2_mask rfl (c_X2_mask _) (by decide) (by decide) (by decide) rfl (Nat.le_of_ble_eq_true rfl) (fun zr55 σ zh55 => ?_)
      obtain ⟨ze55, zf55⟩ := zh55
      rw [ze55, zf55]
      refine g_aload_n (i := 0) dX9_noRest_58 rfl rfl ?_
      refine g_getf dX9_noRest_59 flX9_38 (by first | exact h.2.2.2.1.1 | exact h1.2.2.2.1.1) rfl ?_
      refine g_callSl (My := mX2_quotient) [_, _] dX9_noRest_62 lkX9_111 mvX2_quotient rfl (c_X2_quotient _ _) (by decide) (by decide) (by decide) rfl (Nat.le_of_ble_eq_true rfl) (fun zr62 σ zh62 => ?_)
      obtain ⟨ze62, zf62⟩ := zh62
      rw [ze62, zf62]
      refine g_callVi (My := mX3_add) [_, _, _] dX9_noRest_65 lkX9_56 mvX3_add rfl (h1.tb.choose_spec) rfl (c_adW h1 l1 (by omega) 11 (nI (n + 1)) _ hq) (by decide) (by decide) (by decide) rfl (Nat.le_of_ble_eq_true rfl) (fun zr65 σ zh65 => ?_)
      obtain ⟨ze65, h2, l2⟩ := zh65
      rw [ze65]
      refine g_pop dX9_noRest_68 rfl ?_
      refine g_vret dX9_noRest_69 rfl ?_
      exact ⟨rfl, ow, by simp only [List.append_assoc] at h2; exact h2⟩
    · exact absurd ht zc25
  · have hv : pwL w D od tz z n = [st1 w 4 z (mInv od), st1 w 10 (nI (n + 1)) (nI tz).toInt64, st1 w 11 (nI (n + 2)) (mQuo (mLow (-1) w) D)] := by unfold pwL; rw [if_neg ht]
    rw [hv]
    refine g_aload_n (i := 0) dX9_noRest_0 rfl rfl ?_
    refine g_getf dX9_noRest_1 flX9_7 (by first | exact h.2.2.2.1.1 | exact h1.2.2.2.1.1 | exact h2.2.2.2.1.1) rfl ?_
    refine g_iconst (v := 4) dX9_noRest_4 (by decide) ?_
    refine g_iload_n (i := 1) dX9_noRest_5 rfl rfl ?_
    refine g_aload_n (i := 0) dX9_noRest_6 rfl rfl ?_
    refine g_getf dX9_noRest_7 flX9_23 (by first | exact h.2.2.2.1.1 | exact h1.2.2.2.1.1 | exact h2.2.2.2.1.1) rfl ?_
    refine g_aload_n (i := 0) dX9_noRest_10 rfl rfl ?_
    refine g_getf dX9_noRest_11 flX9_50 (by first | exact h.2.2.2.1.1 | exact h1.2.2.2.1.1 | exact h2.2.2.2.1.1) rfl ?_
    refine g_callSl (My := mX2_inverseOf) [_, _] dX9_noRest_14 lkX9_73 mvX2_inverseOf rfl (c_X2_inverseOf _ hW _) (by decide) (by decide) (by decide) rfl (Nat.le_of_ble_eq_true rfl) (fun zr14 σ zh14 => ?_)
    obtain ⟨ze14, zf14⟩ := zh14
    rw [ze14, zf14]
    refine g_callVi (My := mX3_add) [_, _, _] dX9_noRest_17 lkX9_56 mvX3_add rfl (h.tb.choose_spec) rfl (c_adW h hn (by omega) 4 z (mInv od) (by rw [aY_n (by decide), bInv_eq hW hoo])) (by decide) (by decide) (by decide) rfl (Nat.le_of_ble_eq_true rfl) (fun zr17 σ zh17 => ?_)
    obtain ⟨ze17, h1, l1⟩ := zh17
    rw [ze17]
    refine g_istore_n (i := 2) (ls' := [_, _, _]) dX9_noRest_20 rfl (by decide) rfl rfl ?_
    refine g_aload_n (i := 0) dX9_noRest_21 rfl rfl ?_
    refine g_getf dX9_noRest_22 flX9_47 (by first | exact h.2.2.2.1.1 | exact h1.2.2.2.1.1 | exact h2.2.2.2.1.1) rfl ?_
    refine g_if_le (tgt := 44) dX9_noRest_25 (by decide) (fun zc25 => ?_) (fun zc25 => ?_)
    · exact absurd zc25 ht
    · refine g_aload_n (i := 0) dX9_noRest_28 rfl rfl ?_
      refine g_getf dX9_noRest_29 flX9_7 (by first | exact h.2.2.2.1.1 | exact h1.2.2.2.1.1 | exact h2.2.2.2.1.1) rfl ?_
      refine g_bipush (v := 10) dX9_noRest_32 (by decide) ?_
      refine g_iload_n (i := 2) dX9_noRest_34 rfl rfl ?_
      refine g_aload_n (i := 0) dX9_noRest_35 rfl rfl ?_
      refine g_getf dX9_noRest_36 flX9_47 (by first | exact h.2.2.2.1.1 | exact h1.2.2.2.1.1 | exact h2.2.2.2.1.1) rfl ?_
      refine g_i2l dX9_noRest_39 ?_
      refine g_callVi (My := mX3_add) [_, _, _] dX9_noRest_40 lkX9_56 mvX3_add rfl (h1.tb.choose_spec) rfl (c_adW h1 l1 (by omega) 10 (nI (n + 1)) _ (aY_o (by decide) _ _).symm) (by decide) (by decide) (by decide) rfl (Nat.le_of_ble_eq_true rfl) (fun zr40 σ zh40 => ?_)
      obtain ⟨ze40, h2, l2⟩ := zh40
      rw [ze40]
      refine g_istore_n (i := 2) (ls' := [_, _, _]) dX9_noRest_43 rfl (by decide) rfl rfl ?_
      refine g_aload_n (i := 0) dX9_noRest_44 rfl rfl ?_
      refine g_getf dX9_noRest_45 flX9_7 (by first | exact h.2.2.2.1.1 | exact h1.2.2.2.1.1 | exact h2.2.2.2.1.1) rfl ?_
      refine g_bipush (v := 11) dX9_noRest_48 (by decide) ?_
      refine g_iload_n (i := 2) dX9_noRest_50 rfl rfl ?_
      refine g_aload_n (i := 0) dX9_noRest_51 rfl rfl ?_
      refine g_getf dX9_noRest_52 flX9_23 (by first | exact h.2.2.2.1.1 | exact h1.2.2.2.1.1 | exact h2.2.2.2.1.1) rfl ?_
      refine g_callSl (My := mX2_mask) [_] dX9_noRest_55 lkX9_32 mvX2_mask rfl (c_X2_mask _) (by decide) (by decide) (by decide) rfl (Nat.le_of_ble_eq_true rfl) (fun zr55 σ zh55 => ?_)
      obtain ⟨ze55, zf55⟩ := zh55
      rw [ze55, zf55]
      refine g_aload_n (i := 0) dX9_noRest_58 rfl rfl ?_
      refine g_getf dX9_noRest_59 flX9_38 (by first | exact h.2.2.2.1.1 | exact h1.2.2.2.1.1 | exact h2.2.2.2.1.1) rfl ?_
      refine g_callSl (My := mX2_quotient) [_, _] dX9_noRest_62 lkX9_111 mvX2_quotient rfl (c_X2_quotient _ _) (by decide) (by decide) (by decide) rfl (Nat.le_of_ble_eq_true rfl) (fun zr62 σ zh62 => ?_)
      obtain ⟨ze62, zf62⟩ := zh62
      rw [ze62, zf62]
      refine g_callVi (My := mX3_add) [_, _, _] dX9_noRest_65 lkX9_56 mvX3_add rfl (h2.tb.choose_spec) rfl (c_adW h2 l2 (by omega) 11 (nI (n + 2)) _ hq) (by decide) (by decide) (by decide) rfl (Nat.le_of_ble_eq_true rfl) (fun zr65 σ zh65 => ?_)
      obtain ⟨ze65, h3, l3⟩ := zh65
      rw [ze65]
      refine g_pop dX9_noRest_68 rfl ?_
      refine g_vret dX9_noRest_69 rfl ?_
      exact ⟨rfl, ow, by simp only [List.append_assoc] at h3; exact h3⟩
/-- exact(): a shift, then the inverse -/
theorem c_X9_exact (h : CWr τ ow x A ad hk cs ff j w [] b wq aq sgb ws dv D tz od) (htz : tz < 64) {sk : Int32} (hsk : isCt sk) {p : Prop} {iv y : Int64} (hiv : iv = mLow y w) : Ct l mX9_exact 2 0 0 [.ref wq, .int sk, .int (bI p), .long iv] τ (pV fun σ' => ∃ L', wCP x A ad hk cs ff j w L' b wq aq sgb ws dv D tz od σ' ∧ (p → L' = [st1 w sk 0 (nI tz).toInt64]) ∧ (¬ p → 0 < nI tz → L' = [st1 w sk 0 (nI tz).toInt64, st1 w 4 1 y]) ∧ (¬ p → ¬ 0 < nI tz → L' = [st1 w 4 0 y])) := by
  obtain ⟨bp, hbp⟩ : ∃ q, q = bI p := ⟨_, rfl⟩
  rw [← hbp]
  refine Ct_of moX9_exact [some (.ref wq), some (.int sk), some (.int bp), some (.long iv), none, none] rfl (Nat.le_of_ble_eq_true rfl) ?_
  by_cases hp' : p
  · have hb1 : bp = 1 := hbp.trans (bI_t hp')
    subst hb1
    refine g_iconst (v := 0) dX9_exact_0 (by decide) ?_
    refine g_istore (ls' := [_, _, _, _, _, _]) dX9_exact_1 (by decide) rfl rfl ?_
    refine g_aload_n (i := 0) dX9_exact_3 rfl rfl ?_
    refine g_getf dX9_exact_4 flX9_47 (by first | exact h.2.2.2.1.1 | exact h1.2.2.2.1.1) rfl ?_
    refine g_if_gt (tgt := 14) dX9_exact_7 (by decide) (fun zc7 => ?_) (fun zc7 => ?_)
    · refine g_aload_n (i := 0) dX9_exact_14 rfl rfl ?_
      refine g_getf dX9_exact_15 flX9_7 (by first | exact h.2.2.2.1.1 | exact h1.2.2.2.1.1) rfl ?_
      refine g_iload_n (i := 1) dX9_exact_18 rfl rfl ?_
      refine g_iconst (v := 0) dX9_exact_19 (by decide) ?_
      refine g_aload_n (i := 0) dX9_exact_20 rfl rfl ?_
      refine g_getf dX9_exact_21 flX9_47 (by first | exact h.2.2.2.1.1 | exact h1.2.2.2.1.1) rfl ?_
      refine g_i2l dX9_exact_24 ?_
      refine g_callVi (My := mX3_add) [_, _, _] dX9_exact_25 lkX9_56 mvX3_add rfl (h.tb.choose_spec) rfl (c_adW h rfl (by decide) sk 0 _ (aY_o (Or.inr hsk) _ _).symm) (by decide) (by decide) (by decide) rfl (Nat.le_of_ble_eq_true rfl) (fun zr25 σ zh25 => ?_)
      obtain ⟨ze25, h1, l1⟩ := zh25
      rw [ze25]
      refine g_istore (ls' := [_, _, _, _, _, _]) dX9_exact_28 (by decide) rfl rfl ?_
      refine g_iload_n (i := 2) dX9_exact_30 rfl rfl ?_
      refine g_if_ne (tgt := 46) dX9_exact_31 (by decide) (fun zc31 => ?_) (fun zc31 => ?_)
      · refine g_vret dX9_exact_46 rfl ?_
        exact ⟨rfl, _, ⟨ow, h1⟩, fun _ => rfl, fun z => absurd hp' z, fun z => absurd hp' z⟩
      · exact absurd zc31 (by decide)
    · refine g_iload_n (i := 2) dX9_exact_10 rfl rfl ?_
      refine g_if_eq (tgt := 30) dX9_exact_11 (by decide) (fun zc11 => ?_) (fun zc11 => ?_)
      · exact absurd zc11 (by decide)
      · refine g_aload_n (i := 0) dX9_exact_14 rfl rfl ?_
        refine g_getf dX9_exact_15 flX9_7 (by first | exact h.2.2.2.1.1 | exact h1.2.2.2.1.1) rfl ?_
        refine g_iload_n (i := 1) dX9_exact_18 rfl rfl ?_
        refine g_iconst (v := 0) dX9_exact_19 (by decide) ?_
        refine g_aload_n (i := 0) dX9_exact_20 rfl rfl ?_
        refine g_getf dX9_exact_21 flX9_47 (by first | exact h.2.2.2.1.1 | exact h1.2.2.2.1.1) rfl ?_
        refine g_i2l dX9_exact_24 ?_
        refine g_callVi (My := mX3_add) [_, _, _] dX9_exact_25 lkX9_56 mvX3_add rfl (h.tb.choose_spec) rfl (c_adW h rfl (by decide) sk 0 _ (aY_o (Or.inr hsk) _ _).symm) (by decide) (by decide) (by decide) rfl (Nat.le_of_ble_eq_true rfl) (fun zr25 σ zh25 => ?_)
        obtain ⟨ze25, h1, l1⟩ := zh25
        rw [ze25]
        refine g_istore (ls' := [_, _, _, _, _, _]) dX9_exact_28 (by decide) rfl rfl ?_
        refine g_iload_n (i := 2) dX9_exact_30 rfl rfl ?_
        refine g_if_ne (tgt := 46) dX9_exact_31 (by decide) (fun zc31 => ?_) (fun zc31 => ?_)
        · refine g_vret dX9_exact_46 rfl ?_
          exact ⟨rfl, _, ⟨ow, h1⟩, fun _ => rfl, fun z => absurd hp' z, fun z => absurd hp' z⟩
        · exact absurd zc31 (by decide)
  · have hb0 : bp = 0 := hbp.trans (bI_f hp')
    subst hb0
    refine g_iconst (v := 0) dX9_exact_0 (by decide) ?_
    refine g_istore (ls' := [_, _, _, _, _, _]) dX9_exact_1 (by decide) rfl rfl ?_
    refine g_aload_n (i := 0) dX9_exact_3 rfl rfl ?_
    refine g_getf dX9_exact_4 flX9_47 (by first | exact h.2.2.2.1.1 | exact h1.2.2.2.1.1) rfl ?_
    refine g_if_gt (tgt := 14) dX9_exact_7 (by decide) (fun zc7 => ?_) (fun zc7 => ?_)
    · refine g_aload_n (i := 0) dX9_exact_14 rfl rfl ?_
      refine g_getf dX9_exact_15 flX9_7 (by first | exact h.2.2.2.1.1 | exact h1.2.2.2.1.1) rfl ?_
      refine g_iload_n (i := 1) dX9_exact_18 rfl rfl ?_
      refine g_iconst (v := 0) dX9_exact_19 (by decide) ?_
      refine g_aload_n (i := 0) dX9_exact_20 rfl rfl ?_
      refine g_getf dX9_exact_21 flX9_47 (by first | exact h.2.2.2.1.1 | exact h1.2.2.2.1.1) rfl ?_
      refine g_i2l dX9_exact_24 ?_
      refine g_callVi (My := mX3_add) [_, _, _] dX9_exact_25 lkX9_56 mvX3_add rfl (h.tb.choose_spec) rfl (c_adW h rfl (by decide) sk 0 _ (aY_o (Or.inr hsk) _ _).symm) (by decide) (by decide) (by decide) rfl (Nat.le_of_ble_eq_true rfl) (fun zr25 σ zh25 => ?_)
      obtain ⟨ze25, h1, l1⟩ := zh25
      rw [ze25]
      refine g_istore (ls' := [_, _, _, _, _, _]) dX9_exact_28 (by decide) rfl rfl ?_
      refine g_iload_n (i := 2) dX9_exact_30 rfl rfl ?_
      refine g_if_ne (tgt := 46) dX9_exact_31 (by decide) (fun zc31 => ?_) (fun zc31 => ?_)
      · exact absurd rfl zc31
      · refine g_aload_n (i := 0) dX9_exact_34 rfl rfl ?_
        refine g_getf dX9_exact_35 flX9_7 (by first | exact h.2.2.2.1.1 | exact h1.2.2.2.1.1) rfl ?_
        refine g_iconst (v := 4) dX9_exact_38 (by decide) ?_
        refine g_iload dX9_exact_39 rfl ?_
        refine g_lload_n (i := 3) dX9_exact_41 rfl rfl ?_
        refine g_callVi (My := mX3_add) [_, _, _] dX9_exact_42 lkX9_56 mvX3_add rfl (by first | exact h1.tb.choose_spec | exact h.tb.choose_spec) rfl (by first | exact c_adW h1 l1 (by decide) 4 1 y (by rw [aY_n (by decide)]; exact hiv) | exact c_adW h rfl (by decide) 4 0 y (by rw [aY_n (by decide)]; exact hiv)) (by decide) (by decide) (by decide) rfl (Nat.le_of_ble_eq_true rfl) (fun zr42 σ zh42 => ?_)
        obtain ⟨ze42, h2, l2⟩ := zh42
        rw [ze42]
        refine g_pop dX9_exact_45 rfl ?_
        refine g_vret dX9_exact_46 rfl ?_
        first
        | exact ⟨rfl, _, ⟨ow, h2⟩, fun z => absurd z hp', fun _ _ => rfl, fun _ z => absurd zc7 z⟩
        | exact ⟨rfl, _, ⟨ow, h2⟩, fun z => absurd z hp', fun _ z => absurd z zc7, fun _ _ => rfl⟩
    · refine g_iload_n (i := 2) dX9_exact_10 rfl rfl ?_
      refine g_if_eq (tgt := 30) dX9_exact_11 (by decide) (fun zc11 => ?_) (fun zc11 => ?_)
      · refine g_iload_n (i := 2) dX9_exact_30 rfl rfl ?_
        refine g_if_ne (tgt := 46) dX9_exact_31 (by decide) (fun zc31 => ?_) (fun zc31 => ?_)
        · exact absurd rfl zc31
        · refine g_aload_n (i := 0) dX9_exact_34 rfl rfl ?_
          refine g_getf dX9_exact_35 flX9_7 (by first | exact h.2.2.2.1.1 | exact h1.2.2.2.1.1) rfl ?_
          refine g_iconst (v := 4) dX9_exact_38 (by decide) ?_
          refine g_iload dX9_exact_39 rfl ?_
          refine g_lload_n (i := 3) dX9_exact_41 rfl rfl ?_
          refine g_callVi (My := mX3_add) [_, _, _] dX9_exact_42 lkX9_56 mvX3_add rfl (by first | exact h1.tb.choose_spec | exact h.tb.choose_spec) rfl (by first | exact c_adW h1 l1 (by decide) 4 1 y (by rw [aY_n (by decide)]; exact hiv) | exact c_adW h rfl (by decide) 4 0 y (by rw [aY_n (by decide)]; exact hiv)) (by decide) (by decide) (by decide) rfl (Nat.le_of_ble_eq_true rfl) (fun zr42 σ zh42 => ?_)
          obtain ⟨ze42, h2, l2⟩ := zh42
          rw [ze42]
          refine g_pop dX9_exact_45 rfl ?_
          refine g_vret dX9_exact_46 rfl ?_
          first
          | exact ⟨rfl, _, ⟨ow, h2⟩, fun z => absurd z hp', fun _ _ => rfl, fun _ z => absurd zc7 z⟩
          | exact ⟨rfl, _, ⟨ow, h2⟩, fun z => absurd z hp', fun _ z => absurd z zc7, fun _ _ => rfl⟩
      · exact absurd rfl zc11
end CWrite
