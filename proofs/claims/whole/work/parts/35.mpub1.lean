/-! the reference's public methods, the simple ones, against the specification -/
def mP (o : Nat) (ad : Nat → Nat) (R : Int32 × aA) : Int32 → gH → Prop := fun r σ' => r = R.1 ∧ ∃ S', Mm σ' o ad S' ∧ RepM S' R.2
def mPl (o : Nat) (ad : Nat → Nat) (R : Int64 × aA) : Int64 → gH → Prop := fun r σ' => r = R.1 ∧ ∃ S', Mm σ' o ad S' ∧ RepM S' R.2
theorem RepM.nz {S : mS} {A : aA} {k w p : Nat} {was : Int64} {k0 : Int32} (h : RepM S (aNote A (k, w, p, was, (k0, [])))) (hk : k ≠ 5) : RepM S (aNote A (k, w, p, was, (0, []))) := by
  obtain ⟨a, b, c, d, ⟨e1, e2, e3⟩, f⟩ := h
  refine ⟨a, b, c, d, ⟨?_, ?_, fun j a ha => ?_⟩, f⟩
  · rw [e1]
    simp [aNote, aSetHs]
  · simpa [aNote, aSetHs] using e2
  · simp only [aNote, aSetHs] at ha e3
    by_cases hj : j < (if 50 ≤ A.2.2.2.2.1.length then A.2.2.2.2.1.drop 1 else A.2.2.2.2.1).length
    · rw [List.getElem?_append_left hj] at ha
      exact e3 j a (by rw [List.getElem?_append_left hj]; exact ha)
    · have hjl := (List.getElem?_eq_some_iff.mp ha).1
      rw [List.length_append] at hjl
      simp only [List.length_cons, List.length_nil] at hjl
      have hje : j = (if 50 ≤ A.2.2.2.2.1.length then A.2.2.2.2.1.drop 1 else A.2.2.2.2.1).length := by omega
      rw [hje, List.getElem?_append_right (Nat.le_refl _), Nat.sub_self] at ha
      cases ha
      obtain ⟨r1, r2, r3, r4, h', r5, r6⟩ := e3 j (k, w, p, was, (k0, [])) (by rw [hje, List.getElem?_append_right (Nat.le_refl _), Nat.sub_self]; rfl)
      exact ⟨r1, r2, r3, r4, h', r5, fun z => absurd z hk⟩
noncomputable def sForm (A : aA) (w : Int32) : Int32 × aA := by
  classical
  exact if isW w then (if A.1.length = 60 then (-2, A) else (nI A.1.length, aNote (A.1 ++ [(w, [])], A.2) (1, A.1.length, 0, 0, (0, [])))) else (-1, A)
def okStep (g : aF) (k x : Int32) (y : Int64) : Prop := (¬ k < 0 ∧ ¬ 12 < k) ∧ (¬ x < 0 ∧ x ≤ nI g.2.length) ∧ (isOp k → ¬ y < 0 ∧ ¬ (nI g.2.length).toInt64 < y) ∧ (isCt k → ¬ y < 0 ∧ y < g.1.toInt64)
noncomputable def sStep (A : aA) (f k x : Int32) (y : Int64) : Int32 × aA := by
  classical
  exact match aForm A f with
  | none => (-1, A)
  | some g => if okStep g k x y then (if g.2.length = 12 then (-2, A) else (nI g.2.length, aNote (A.1.set f.toNatClampNeg (g.1, g.2 ++ [(k, x, aY k y g.1)]), A.2) (2, f.toNatClampNeg, 0, 0, (0, [])))) else (-1, A)
def sCount (A : aA) (w : Int32) : Int32 := if w = 0 then nI A.1.length else if w = 1 then nI A.2.2.2.2.1.length else if w = 2 then nI A.2.2.2.2.2 else -1
def sHeld (A : aA) (h : Int32) : Int32 := if ¬ h < 0 ∧ h < 8 then (A.2.2.2.1 h.toNatClampNeg).1 else -1
def aTold (g : aF) (k : Nat) (what : Int32) : Int64 := match g.2[k]? with
  | some s => if what = 0 then s.1.toInt64 else if what = 1 then s.2.1.toInt64 else if what = 2 then s.2.2 else -1
  | none => -1
def sTold (A : aA) (f k what : Int32) : Int64 := match aForm A f with
  | some g => if k < 0 then -1 else aTold g k.toNatClampNeg what
  | none => -1
def aCost (pr : Nat → Int32) : List aSt → Int32
  | [] => 0
  | s :: t => pr s.1.toNatClampNeg + aCost pr t
theorem i012 {x : Int32} (h : ¬ x < 0) (h' : x ≤ 2) : x = 0 ∨ x = 1 ∨ x = 2 := by
  rcases ix3 x 3 (by decide) with q | q | ⟨j, hj, rfl⟩
  · exact absurd q h
  · exfalso
    have q2 := q.2
    simp only [Int32.le_iff_toInt_le] at q2 h'
    have e1 : (nI 3).toInt = 3 := by decide
    have e2 : (2 : Int32).toInt = 2 := by decide
    omega
  · rcases (show j = 0 ∨ j = 1 ∨ j = 2 by omega) with rfl | rfl | rfl
    · exact Or.inl rfl
    · exact Or.inr (Or.inl rfl)
    · exact Or.inr (Or.inr rfl)
section CMpub1
variable {l : Launch} {o : Nat} {ad : Nat → Nat} {S : mS} {A : aA} {σ : gH}
theorem c_X11_form (hM : Mm σ o ad S) (hR : RepM S A) (w : Int32) : Ct l mX11_form 4 0 0 [.ref o, .int w] σ (pI (mP o ad (sForm A w))) := by
  have h60 := hR.1.2.1
  have e2 := hR.1.1
  refine Ct_of moX11_form [some (.ref o), some (.int w), none] rfl (Nat.le_of_ble_eq_true rfl) ?_
  refine g_iload_n (i := 1) dX11_form_0 rfl rfl ?_
  refine g_callSi (My := mX11_isWidth) [_] dX11_form_1 lkX11_153 mvX11_isWidth rfl (c_X11_isWidth _) (by decide) (by decide) (by decide) rfl (Nat.le_of_ble_eq_true rfl) (fun zr1 σ zh1 => ?_)
  obtain ⟨rfl, rfl⟩ := zh1
  refine g_if_ne (tgt := 9) dX11_form_4 (by decide) (fun zc4 => ?_) (fun zc4 => ?_)
  · refine g_aload_n (i := 0) dX11_form_9 rfl rfl ?_
    refine gm_get hM (k := 2) dX11_form_10 flX11_118 rfl ?_
    refine g_toi (nI A.1.length) e2 ?_
    refine g_bipush (v := 60) dX11_form_13 (by decide) ?_
    refine g_icmp_ne (tgt := 21) dX11_form_15 (by decide) (fun zc15 => ?_) (fun zc15 => ?_)
    · have hl : ¬ A.1.length = 60 := fun q => zc15 ((nI_eq (b := 60) (by omega) (by decide)).mpr q)
      refine g_aload_n (i := 0) dX11_form_21 rfl rfl ?_
      refine g_iload_n (i := 1) dX11_form_22 rfl rfl ?_
      refine g_callVi (My := mX11_add) [_] dX11_form_23 lkX11_156 mvX11_add rfl hM.1 rfl (c_X11_add hM hR (by omega) _) (by decide) (by decide) (by decide) rfl (Nat.le_of_ble_eq_true rfl) (fun zr23 σ zh23 => ?_)
      obtain ⟨rfl, S1, hM, hR, -, -⟩ := zh23
      refine g_istore_n (i := 2) (ls' := [_, _, _]) dX11_form_26 rfl (by decide) rfl rfl ?_
      refine g_aload_n (i := 0) dX11_form_27 rfl rfl ?_
      refine g_iconst (v := 1) dX11_form_28 (by decide) ?_
      refine g_iload_n (i := 2) dX11_form_29 rfl rfl ?_
      refine g_iconst (v := 0) dX11_form_30 (by decide) ?_
      refine g_lconst (v := 0) dX11_form_31 (by decide) ?_
      refine g_callVv (My := mX11_note) [_, _, _, _] dX11_form_32 lkX11_160 mvX11_note rfl hM.1 rfl (c_X11_note hM hR 1 A.1.length 0 0) (by decide) (by decide) (by decide) rfl (Nat.le_of_ble_eq_true rfl) (fun σ zh32 => ?_)
      obtain ⟨S2, k0, hM, hR, -, -⟩ := zh32
      refine g_iload_n (i := 2) dX11_form_35 rfl rfl ?_
      refine g_iret dX11_form_36 rfl ?_
      exact ⟨_, rfl, by unfold sForm; rw [if_pos (bI_ne0.mp zc4), if_neg hl], S2, hM, by unfold sForm; rw [if_pos (bI_ne0.mp zc4), if_neg hl]; exact hR.nz (by decide)⟩
    · refine g_bipush (v := (-2)) dX11_form_18 (by decide) ?_
      refine g_iret dX11_form_20 rfl ?_
      have hl : A.1.length = 60 := (nI_eq (b := 60) (by omega) (by decide)).mp zc15
      exact ⟨_, rfl, by unfold sForm; rw [if_pos (bI_ne0.mp zc4), if_pos hl], S, hM, by unfold sForm; rw [if_pos (bI_ne0.mp zc4), if_pos hl]; exact hR⟩
  · refine g_iconst (v := (-1)) dX11_form_7 (by decide) ?_
    refine g_iret dX11_form_8 rfl ?_
    exact ⟨_, rfl, by unfold sForm; rw [if_neg (bI_eq0.mp zc4)], S, hM, by unfold sForm; rw [if_neg (bI_eq0.mp zc4)]; exact hR⟩
theorem c_X11_count (hM : Mm σ o ad S) (hR : RepM S A) (w : Int32) : Ct l mX11_count 1 0 0 [.ref o, .int w] σ (pI (mP o ad (sCount A w, A))) := by
  refine Ct_of moX11_count [some (.ref o), some (.int w)] rfl (Nat.le_of_ble_eq_true rfl) ?_
  refine g_iload_n (i := 1) dX11_count_0 rfl rfl ?_
  refine g_if_ne (tgt := 11) dX11_count_1 (by decide) (fun zc1 => ?_) (fun zc1 => ?_)
  · refine g_iload_n (i := 1) dX11_count_11 rfl rfl ?_
    refine g_iconst (v := 1) dX11_count_12 (by decide) ?_
    refine g_icmp_ne (tgt := 23) dX11_count_13 (by decide) (fun zc13 => ?_) (fun zc13 => ?_)
    · refine g_iload_n (i := 1) dX11_count_23 rfl rfl ?_
      refine g_iconst (v := 2) dX11_count_24 (by decide) ?_
      refine g_icmp_ne (tgt := 35) dX11_count_25 (by decide) (fun zc25 => ?_) (fun zc25 => ?_)
      · refine g_iconst (v := (-1)) dX11_count_35 (by decide) ?_
        refine g_iret dX11_count_36 rfl ?_
        refine ⟨_, rfl, ?_, S, hM, hR⟩
        unfold sCount
        simp only [*, if_true, if_false]
        all_goals first | rfl | exact hR.1.1 | exact hR.2.2.2.2.1.1 | exact hR.2.2.2.2.2.1
      · refine g_aload_n (i := 0) dX11_count_28 rfl rfl ?_
        refine gm_get hM (k := 28) dX11_count_29 flX11_292 rfl ?_
        refine g_goto (tgt := 36) dX11_count_32 (by decide) ?_
        refine g_iret dX11_count_36 rfl ?_
        refine ⟨_, rfl, ?_, S, hM, hR⟩
        unfold sCount
        simp only [*, if_true, if_false]
        all_goals first | rfl | exact hR.1.1 | exact hR.2.2.2.2.1.1 | exact hR.2.2.2.2.2.1
    · refine g_aload_n (i := 0) dX11_count_16 rfl rfl ?_
      refine gm_get hM (k := 10) dX11_count_17 flX11_147 rfl ?_
      refine g_goto (tgt := 36) dX11_count_20 (by decide) ?_
      refine g_iret dX11_count_36 rfl ?_
      refine ⟨_, rfl, ?_, S, hM, hR⟩
      unfold sCount
      simp only [*, if_true, if_false]
      all_goals first | rfl | exact hR.1.1 | exact hR.2.2.2.2.1.1 | exact hR.2.2.2.2.2.1
  · refine g_aload_n (i := 0) dX11_count_4 rfl rfl ?_
    refine gm_get hM (k := 2) dX11_count_5 flX11_118 rfl ?_
    refine g_goto (tgt := 36) dX11_count_8 (by decide) ?_
    refine g_iret dX11_count_36 rfl ?_
    refine ⟨_, rfl, ?_, S, hM, hR⟩
    unfold sCount
    simp only [*, if_true, if_false]
    all_goals first | rfl | exact hR.1.1 | exact hR.2.2.2.2.1.1 | exact hR.2.2.2.2.2.1
theorem c_X11_isHook (h : Int32) : Ct l mX11_isHook 1 0 0 [.int h] σ (pI fun r σ' => r = bI (¬ h < 0 ∧ h < 8) ∧ σ' = σ) := by
  refine Ct_of moX11_isHook [some (.int h)] rfl (Nat.le_of_ble_eq_true rfl) ?_
  refine g_iload_n (i := 0) dX11_isHook_0 rfl rfl ?_
  refine g_if_lt (tgt := 14) dX11_isHook_1 (by decide) (fun zc1 => ?_) (fun zc1 => ?_)
  · refine g_iconst (v := 0) dX11_isHook_14 (by decide) ?_
    refine g_zret dX11_isHook_15 rfl (rfl) ?_
    first
    | exact ⟨_, rfl, Eq.symm (bI_t ⟨zc1, Int32.not_le.mp zc7⟩), rfl⟩
    | exact ⟨_, rfl, Eq.symm (bI_f (fun z => absurd zc7 (Int32.not_le.mpr z.2))), rfl⟩
    | exact ⟨_, rfl, Eq.symm (bI_f (fun z => z.1 zc1)), rfl⟩
  · refine g_iload_n (i := 0) dX11_isHook_4 rfl rfl ?_
    refine g_bipush (v := 8) dX11_isHook_5 (by decide) ?_
    refine g_icmp_ge (tgt := 14) dX11_isHook_7 (by decide) (fun zc7 => ?_) (fun zc7 => ?_)
    · refine g_iconst (v := 0) dX11_isHook_14 (by decide) ?_
      refine g_zret dX11_isHook_15 rfl (rfl) ?_
      first
      | exact ⟨_, rfl, Eq.symm (bI_t ⟨zc1, Int32.not_le.mp zc7⟩), rfl⟩
      | exact ⟨_, rfl, Eq.symm (bI_f (fun z => absurd zc7 (Int32.not_le.mpr z.2))), rfl⟩
      | exact ⟨_, rfl, Eq.symm (bI_f (fun z => z.1 zc1)), rfl⟩
    · refine g_iconst (v := 1) dX11_isHook_10 (by decide) ?_
      refine g_goto (tgt := 15) dX11_isHook_11 (by decide) ?_
      refine g_zret dX11_isHook_15 rfl (rfl) ?_
      first
      | exact ⟨_, rfl, Eq.symm (bI_t ⟨zc1, Int32.not_le.mp zc7⟩), rfl⟩
      | exact ⟨_, rfl, Eq.symm (bI_f (fun z => absurd zc7 (Int32.not_le.mpr z.2))), rfl⟩
      | exact ⟨_, rfl, Eq.symm (bI_f (fun z => z.1 zc1)), rfl⟩
theorem ix8 {h : Int32} (hh : ¬ h < 0 ∧ h < 8) : ∃ j : Nat, j < 8 ∧ h = nI j := by
  rcases ix3 h 8 (by decide) with q | q | q
  · exact absurd q hh.1
  · exact absurd hh.2 (Int32.not_lt.mpr q.2)
  · exact q
theorem c_X11_held (hM : Mm σ o ad S) (hR : RepM S A) (h : Int32) : Ct l mX11_held 2 0 0 [.ref o, .int h] σ (pI (mP o ad (sHeld A h, A))) := by
  refine Ct_of moX11_held [some (.ref o), some (.int h)] rfl (Nat.le_of_ble_eq_true rfl) ?_
  by_cases hh : ¬ h < 0 ∧ h < 8
  · have hv : sHeld A h = (A.2.2.2.1 h.toNatClampNeg).1 := if_pos hh
    obtain ⟨j, hj, rfl⟩ := ix8 hh
    have hcj : (nI j).toNatClampNeg = j := nI_clamp (by omega)
    refine g_iload_n (i := 1) dX11_held_0 rfl rfl ?_
    refine g_callSi (My := mX11_isHook) [_] dX11_held_1 lkX11_295 mvX11_isHook rfl (c_X11_isHook _) (by decide) (by decide) (by decide) rfl (Nat.le_of_ble_eq_true rfl) (fun zr1 σ zh1 => ?_)
    obtain ⟨rfl, rfl⟩ := zh1
    refine g_if_eq (tgt := 16) dX11_held_4 (by decide) (fun zc4 => ?_) (fun zc4 => ?_)
    · exact absurd hh (bI_eq0.mp zc4)
    · refine g_aload_n (i := 0) dX11_held_7 rfl rfl ?_
      refine gm_get hM (k := 15) dX11_held_8 flX11_44 rfl ?_
      refine g_iload_n (i := 1) dX11_held_11 rfl rfl ?_
      refine gm_iald hM dX11_held_12 rfl ((vp_in_nI (show j < 58 by omega) (by decide) : vp_in (nI j) 58)) ?_
      refine g_goto (tgt := 17) dX11_held_13 (by decide) ?_
      refine g_iret dX11_held_17 rfl ?_
      exact ⟨_, rfl, by rw [hv, hcj]; exact (hR.2.2.2.1 j hj).1, S, hM, hR⟩
  · have hv : sHeld A h = -1 := if_neg hh
    refine g_iload_n (i := 1) dX11_held_0 rfl rfl ?_
    refine g_callSi (My := mX11_isHook) [_] dX11_held_1 lkX11_295 mvX11_isHook rfl (c_X11_isHook _) (by decide) (by decide) (by decide) rfl (Nat.le_of_ble_eq_true rfl) (fun zr1 σ zh1 => ?_)
    obtain ⟨rfl, rfl⟩ := zh1
    refine g_if_eq (tgt := 16) dX11_held_4 (by decide) (fun zc4 => ?_) (fun zc4 => ?_)
    · refine g_iconst (v := (-1)) dX11_held_16 (by decide) ?_
      refine g_iret dX11_held_17 rfl ?_
      exact ⟨_, rfl, hv.symm, S, hM, hR⟩
    · exact absurd (bI_ne0.mp zc4) hh
theorem c_X11_told (hM : Mm σ o ad S) (hR : RepM S A) (f k what : Int32) : Ct l mX11_told 2 0 0 [.ref o, .int f, .int k, .int what] σ (pL (mPl o ad (sTold A f k what, A))) := by
  have h60 := hR.1.2.1
  refine Ct_of moX11_told [some (.ref o), some (.int f), some (.int k), some (.int what), none] rfl (Nat.le_of_ble_eq_true rfl) ?_
  rcases aForm_cases A hR.1.2.1 f with ⟨hh, hn⟩ | ⟨j, g, hj, rfl, hg, ha⟩
  · have hv : sTold A f k what = -1 := by simp only [sTold, hn]
    refine g_aload_n (i := 0) dX11_told_0 rfl rfl ?_
    refine g_iload_n (i := 1) dX11_told_1 rfl rfl ?_
    refine g_callVi (My := mX11_isForm) [_] dX11_told_2 lkX11_164 mvX11_isForm rfl hM.1 rfl (c_X11_isForm hM hR _) (by decide) (by decide) (by decide) rfl (Nat.le_of_ble_eq_true rfl) (fun zr2 σ zh2 => ?_)
    obtain ⟨rfl, rfl⟩ := zh2
    refine g_if_eq (tgt := 31) dX11_told_5 (by decide) (fun zc5 => ?_) (fun zc5 => ?_)
    · refine g_ldc2 (v := (-1)) dX11_told_31 klX11_202 ?_
      refine g_lret dX11_told_34 rfl ?_
      exact ⟨_, rfl, hv.symm, S, hM, hR⟩
    · exact absurd (bI_ne0.mp zc5) (isF_no hn)
  · have hf := hR.1.2.2 j g hg
    have h12 := hf.2.2.1
    have hcj : (nI j).toNatClampNeg = j := nI_clamp (by omega)
    rcases ix3 k g.2.length (by omega) with q | ⟨q0, q⟩ | ⟨kk, hk, rfl⟩
    · have hv : sTold A (nI j) k what = -1 := by simp only [sTold, ha, if_pos q]
      refine g_aload_n (i := 0) dX11_told_0 rfl rfl ?_
      refine g_iload_n (i := 1) dX11_told_1 rfl rfl ?_
      refine g_callVi (My := mX11_isForm) [_] dX11_told_2 lkX11_164 mvX11_isForm rfl hM.1 rfl (c_X11_isForm hM hR _) (by decide) (by decide) (by decide) rfl (Nat.le_of_ble_eq_true rfl) (fun zr2 σ zh2 => ?_)
      obtain ⟨rfl, rfl⟩ := zh2
      refine g_if_eq (tgt := 31) dX11_told_5 (by decide) (fun zc5 => ?_) (fun zc5 => ?_)
      · refine g_ldc2 (v := (-1)) dX11_told_31 klX11_202 ?_
        refine g_lret dX11_told_34 rfl ?_
        exact ⟨_, rfl, hv.symm, S, hM, hR⟩
      · refine g_iload_n (i := 2) dX11_told_8 rfl rfl ?_
        refine g_if_lt (tgt := 31) dX11_told_9 (by decide) (fun zc9 => ?_) (fun zc9 => ?_)
        · refine g_ldc2 (v := (-1)) dX11_told_31 klX11_202 ?_
          refine g_lret dX11_told_34 rfl ?_
          exact ⟨_, rfl, hv.symm, S, hM, hR⟩
        · exact absurd q zc9
    · have hv : sTold A (nI j) k what = -1 := by
        simp only [sTold, ha, if_neg q0]
        unfold aTold
        obtain ⟨kk, hk, rfl⟩ := nI_of q0
        rw [nI_leI (by omega) hk] at q
        rw [nI_clamp hk, List.getElem?_eq_none q]
      refine g_aload_n (i := 0) dX11_told_0 rfl rfl ?_
      refine g_iload_n (i := 1) dX11_told_1 rfl rfl ?_
      refine g_callVi (My := mX11_isForm) [_] dX11_told_2 lkX11_164 mvX11_isForm rfl hM.1 rfl (c_X11_isForm hM hR _) (by decide) (by decide) (by decide) rfl (Nat.le_of_ble_eq_true rfl) (fun zr2 σ zh2 => ?_)
      obtain ⟨rfl, rfl⟩ := zh2
      refine g_if_eq (tgt := 31) dX11_told_5 (by decide) (fun zc5 => ?_) (fun zc5 => ?_)
      · refine g_ldc2 (v := (-1)) dX11_told_31 klX11_202 ?_
        refine g_lret dX11_told_34 rfl ?_
        exact ⟨_, rfl, hv.symm, S, hM, hR⟩
      · refine g_iload_n (i := 2) dX11_told_8 rfl rfl ?_
        refine g_if_lt (tgt := 31) dX11_told_9 (by decide) (fun zc9 => ?_) (fun zc9 => ?_)
        · refine g_ldc2 (v := (-1)) dX11_told_31 klX11_202 ?_
          refine g_lret dX11_told_34 rfl ?_
          exact ⟨_, rfl, hv.symm, S, hM, hR⟩
        · refine g_iload_n (i := 2) dX11_told_12 rfl rfl ?_
          refine g_aload_n (i := 0) dX11_told_13 rfl rfl ?_
          refine gm_get hM (k := 4) dX11_told_14 flX11_13 rfl ?_
          refine g_iload_n (i := 1) dX11_told_17 rfl rfl ?_
          refine gm_iald hM dX11_told_18 rfl ((vp_in_nI (show j < 60 by omega) (by decide) : vp_in (nI j) 60)) ?_
          refine g_toi (nI g.2.length) (by rw [hcj]; exact hf.2.1) ?_
          refine g_icmp_ge (tgt := 31) dX11_told_19 (by decide) (fun zc19 => ?_) (fun zc19 => ?_)
          · refine g_ldc2 (v := (-1)) dX11_told_31 klX11_202 ?_
            refine g_lret dX11_told_34 rfl ?_
            exact ⟨_, rfl, hv.symm, S, hM, hR⟩
          · exact absurd q zc19
    · obtain ⟨s, hs⟩ : ∃ s, g.2[kk]? = some s := ⟨_, List.getElem?_eq_getElem hk⟩
      obtain ⟨t5, t6, t7⟩ := hf.2.2.2 kk s hs
      have hcl : (nI (12 * j + kk)).toNatClampNeg = 12 * j + kk := nI_clamp (by omega)
      have hI : vp_in (nI (12 * j + kk)) 720 := vp_in_nI (by omega) (by decide)
      have hv : sTold A (nI j) (nI kk) what = (if what = 0 then s.1.toInt64 else if what = 1 then s.2.1.toInt64 else if what = 2 then s.2.2 else -1) := by
        simp only [sTold, ha, if_neg (nI_pos (show kk < 2 ^ 31 by omega)), aTold, nI_clamp (show kk < 2 ^ 31 by omega), hs]
      refine g_aload_n (i := 0) dX11_told_0 rfl rfl ?_
      refine g_iload_n (i := 1) dX11_told_1 rfl rfl ?_
      refine g_callVi (My := mX11_isForm) [_] dX11_told_2 lkX11_164 mvX11_isForm rfl hM.1 rfl (c_X11_isForm hM hR _) (by decide) (by decide) (by decide) rfl (Nat.le_of_ble_eq_true rfl) (fun zr2 σ zh2 => ?_)
      obtain ⟨rfl, rfl⟩ := zh2
      refine g_if_eq (tgt := 31) dX11_told_5 (by decide) (fun zc5 => ?_) (fun zc5 => ?_)
      · exact absurd ⟨g, ha⟩ (bI_eq0.mp zc5)
      · refine g_iload_n (i := 2) dX11_told_8 rfl rfl ?_
        refine g_if_lt (tgt := 31) dX11_told_9 (by decide) (fun zc9 => ?_) (fun zc9 => ?_)
        · exact absurd zc9 (nI_pos (by omega))
        · refine g_iload_n (i := 2) dX11_told_12 rfl rfl ?_
          refine g_aload_n (i := 0) dX11_told_13 rfl rfl ?_
          refine gm_get hM (k := 4) dX11_told_14 flX11_13 rfl ?_
          refine g_iload_n (i := 1) dX11_told_17 rfl rfl ?_
          refine gm_iald hM dX11_told_18 rfl ((vp_in_nI (show j < 60 by omega) (by decide) : vp_in (nI j) 60)) ?_
          refine g_toi (nI g.2.length) (by rw [hcj]; exact hf.2.1) ?_
          refine g_icmp_ge (tgt := 31) dX11_told_19 (by decide) (fun zc19 => ?_) (fun zc19 => ?_)
          · exact absurd zc19 (nI_ge hk (by omega))
          · refine g_iload_n (i := 3) dX11_told_22 rfl rfl ?_
            refine g_if_lt (tgt := 31) dX11_told_23 (by decide) (fun zc23 => ?_) (fun zc23 => ?_)
            · refine g_ldc2 (v := (-1)) dX11_told_31 klX11_202 ?_
              refine g_lret dX11_told_34 rfl ?_
              refine ⟨_, rfl, ?_, S, hM, hR⟩
              rw [hv]
              show (-1 : Int64) = _
              have n0 : ¬ what = 0 := fun z => by (subst z; first | exact absurd zc23 (by decide) | exact absurd (by decide) zc28)
              have n1 : ¬ what = 1 := fun z => by (subst z; first | exact absurd zc23 (by decide) | exact absurd (by decide) zc28)
              have n2 : ¬ what = 2 := fun z => by (subst z; first | exact absurd zc23 (by decide) | exact absurd (by decide) zc28)
              rw [if_neg n0, if_neg n1, if_neg n2]
            · refine g_iload_n (i := 3) dX11_told_26 rfl rfl ?_
              refine g_iconst (v := 2) dX11_told_27 (by decide) ?_
              refine g_icmp_le (tgt := 35) dX11_told_28 (by decide) (fun zc28 => ?_) (fun zc28 => ?_)
              · refine g_bipush (v := 12) dX11_told_35 (by decide) ?_
                refine g_iload_n (i := 1) dX11_told_37 rfl rfl ?_
                refine g_imul dX11_told_38 ?_
                refine g_iload_n (i := 2) dX11_told_39 rfl rfl ?_
                refine g_iadd dX11_told_40 ?_
                rw [ix12]
                refine g_istore (ls' := [_, _, _, _, _]) dX11_told_41 (by decide) rfl rfl ?_
                refine g_iload_n (i := 3) dX11_told_43 rfl rfl ?_
                refine g_if_ne (tgt := 58) dX11_told_44 (by decide) (fun zc44 => ?_) (fun zc44 => ?_)
                · refine g_iload_n (i := 3) dX11_told_58 rfl rfl ?_
                  refine g_iconst (v := 1) dX11_told_59 (by decide) ?_
                  refine g_icmp_ne (tgt := 74) dX11_told_60 (by decide) (fun zc60 => ?_) (fun zc60 => ?_)
                  · refine g_aload_n (i := 0) dX11_told_74 rfl rfl ?_
                    refine gm_get hM (k := 7) dX11_told_75 flX11_22 rfl ?_
                    refine g_iload dX11_told_78 rfl ?_
                    refine gm_lald hM dX11_told_80 rfl (hI) ?_
                    refine g_tol s.2.2 (by rw [hcl]; exact t7) ?_
                    refine g_lret dX11_told_81 rfl ?_
                    refine ⟨_, rfl, ?_, S, hM, hR⟩
                    show _ = sTold A (nI j) (nI kk) what
                    rw [hv]
                    first
                    | rw [if_pos zc44]
                    | rw [if_neg zc44, if_pos zc60]
                    | (have n2 : what = 2 := by
                         rcases i012 zc23 zc28 with q | q | q
                         · exact absurd q zc44
                         · exact absurd q zc60
                         · exact q
                       rw [if_neg zc44, if_neg zc60, if_pos n2])
                  · refine g_aload_n (i := 0) dX11_told_63 rfl rfl ?_
                    refine gm_get hM (k := 6) dX11_told_64 flX11_19 rfl ?_
                    refine g_iload dX11_told_67 rfl ?_
                    refine gm_iald hM dX11_told_69 rfl (hI) ?_
                    refine g_toi s.2.1 (by rw [hcl]; exact t6) ?_
                    refine g_i2l dX11_told_70 ?_
                    refine g_goto (tgt := 81) dX11_told_71 (by decide) ?_
                    refine g_lret dX11_told_81 rfl ?_
                    refine ⟨_, rfl, ?_, S, hM, hR⟩
                    show _ = sTold A (nI j) (nI kk) what
                    rw [hv]
                    first
                    | rw [if_pos zc44]
                    | rw [if_neg zc44, if_pos zc60]
                    | (have n2 : what = 2 := by
                         rcases i012 zc23 zc28 with q | q | q
                         · exact absurd q zc44
                         · exact absurd q zc60
                         · exact q
                       rw [if_neg zc44, if_neg zc60, if_pos n2])
                · refine g_aload_n (i := 0) dX11_told_47 rfl rfl ?_
                  refine gm_get hM (k := 5) dX11_told_48 flX11_16 rfl ?_
                  refine g_iload dX11_told_51 rfl ?_
                  refine gm_iald hM dX11_told_53 rfl (hI) ?_
                  refine g_toi s.1 (by rw [hcl]; exact t5) ?_
                  refine g_i2l dX11_told_54 ?_
                  refine g_goto (tgt := 81) dX11_told_55 (by decide) ?_
                  refine g_lret dX11_told_81 rfl ?_
                  refine ⟨_, rfl, ?_, S, hM, hR⟩
                  show _ = sTold A (nI j) (nI kk) what
                  rw [hv]
                  first
                  | rw [if_pos zc44]
                  | rw [if_neg zc44, if_pos zc60]
                  | (have n2 : what = 2 := by
                       rcases i012 zc23 zc28 with q | q | q
                       · exact absurd q zc44
                       · exact absurd q zc60
                       · exact q
                     rw [if_neg zc44, if_neg zc60, if_pos n2])
              · refine g_ldc2 (v := (-1)) dX11_told_31 klX11_202 ?_
                refine g_lret dX11_told_34 rfl ?_
                refine ⟨_, rfl, ?_, S, hM, hR⟩
                rw [hv]
                show (-1 : Int64) = _
                have n0 : ¬ what = 0 := fun z => by (subst z; first | exact absurd zc23 (by decide) | exact absurd (by decide) zc28)
                have n1 : ¬ what = 1 := fun z => by (subst z; first | exact absurd zc23 (by decide) | exact absurd (by decide) zc28)
                have n2 : ¬ what = 2 := fun z => by (subst z; first | exact absurd zc23 (by decide) | exact absurd (by decide) zc28)
                rw [if_neg n0, if_neg n1, if_neg n2]
end CMpub1
