/-! the reference: a new form, one more step -/
theorem RepM.forms {S S' : mS} {A : aA} (q : RepM S A) (L : List aF) (h1 : ∀ k ∈ [10, 28], S'.1 k = S.1 k) (h2 : ∀ k ∈ [8, 11, 12, 13, 15, 16], S'.2.2.1 k = S.2.2.1 k) (h3 : ∀ k ∈ [14, 17, 27], S'.2.2.2 k = S.2.2.2 k) (hn : S'.1 2 = nI L.length) (hl : L.length ≤ 60) (hf : ∀ (f : Nat) (g : aF), L[f]? = some g → fR S' f g) : RepM S' (L, A.2) := by
  obtain ⟨-, b, c, d, ⟨e1, e2, e3⟩, f1, f2⟩ := q
  refine ⟨⟨hn, hl, hf⟩, fun k hk => by rw [h2 8 (by decide)]; exact b k hk, fun k hk => by rw [h3 27 (by decide)]; exact c k hk, fun h hh => (d h hh).of (h2 15 (by decide)) (h2 16 (by decide)) (h3 17 (by decide)), ⟨by rw [h1 10 (by decide)]; exact e1, e2, fun j a ha => (e3 j a ha).of (fun k hk => h2 k ?_) (h3 14 (by decide)) (h3 17 (by decide))⟩, by rw [h1 28 (by decide)]; exact f1, f2⟩
  simp only [List.mem_cons, List.not_mem_nil, or_false] at hk ⊢
  omega
noncomputable def aY (k : Int32) (y : Int64) (w : Int32) : Int64 := by
  classical
  exact if isOp k ∨ isCt k then y else mLow y w
section CMform
variable {l : Launch} {o : Nat} {ad : Nat → Nat} {S : mS} {A : aA}
theorem c_X11_add {σ : gH} (hM : Mm σ o ad S) (hR : RepM S A) (hl : A.1.length < 60) (w : Int32) : Ct l mX11_add 1 0 0 [.ref o, .int w] σ (pI fun r σ' => r = nI A.1.length ∧ ∃ S', Mm σ' o ad S' ∧ RepM S' (A.1 ++ [(w, [])], A.2) ∧ S'.2.1 = S.2.1 ∧ ∀ j, j ≠ 2 → S'.1 j = S.1 j) := by
  have e2 := hR.1.1
  have hcn : (nI A.1.length).toNatClampNeg = A.1.length := nI_clamp (by omega)
  have hI : vp_in (nI A.1.length) 60 := vp_in_nI hl (by decide)
  refine Ct_of moX11_add [some (.ref o), some (.int w)] rfl (Nat.le_of_ble_eq_true rfl) ?_
  refine g_aload_n (i := 0) dX11_add_0 rfl rfl ?_
  refine gm_get hM (k := 3) dX11_add_1 flX11_7 rfl ?_
  refine g_aload_n (i := 0) dX11_add_4 rfl rfl ?_
  refine gm_get hM (k := 2) dX11_add_5 flX11_118 rfl ?_
  refine g_toi (nI A.1.length) e2 ?_
  refine g_iload_n (i := 1) dX11_add_8 rfl rfl ?_
  refine gm_iast hM dX11_add_9 rfl (hI) (fun σ hM => ?_)
  refine g_aload_n (i := 0) dX11_add_10 rfl rfl ?_
  refine gm_get hM (k := 4) dX11_add_11 flX11_13 rfl ?_
  refine g_aload_n (i := 0) dX11_add_14 rfl rfl ?_
  refine gm_get hM (k := 2) dX11_add_15 flX11_118 rfl ?_
  refine g_toi (nI A.1.length) e2 ?_
  refine g_iconst (v := 0) dX11_add_18 (by decide) ?_
  refine gm_iast hM dX11_add_19 rfl (hI) (fun σ hM => ?_)
  refine g_aload_n (i := 0) dX11_add_20 rfl rfl ?_
  refine g_dup dX11_add_21 rfl ?_
  refine gm_get hM (k := 2) dX11_add_22 flX11_118 rfl ?_
  refine g_toi (nI A.1.length) e2 ?_
  refine g_iconst (v := 1) dX11_add_25 (by decide) ?_
  refine g_iadd dX11_add_26 ?_
  rw [nI_1]
  refine gm_puti hM (k := 2) dX11_add_27 flX11_118 fp9_2 (by decide) (fun σ hM => ?_)
  refine g_aload_n (i := 0) dX11_add_30 rfl rfl ?_
  refine gm_get hM (k := 2) dX11_add_31 flX11_118 rfl ?_
  refine g_toi (nI (A.1.length + 1)) rfl ?_
  refine g_iconst (v := 1) dX11_add_34 (by decide) ?_
  refine g_isub dX11_add_35 ?_
  rw [nI_pred]
  refine g_iret dX11_add_36 rfl ?_
  rw [hcn] at hM
  refine ⟨_, rfl, rfl, _, hM, ?_, rfl, fun j hj => va_up_ne _ _ hj⟩
  refine hR.forms _ (fun k hk => ?_) (fun k hk => ?_) (fun k hk => rfl) ?_ ?_ (fun f g hg => ?_)
  · simp only [List.mem_cons, List.not_mem_nil, or_false] at hk
    rcases hk with rfl | rfl <;> rfl
  · simp only [List.mem_cons, List.not_mem_nil, or_false] at hk
    rcases hk with rfl | rfl | rfl | rfl | rfl | rfl <;> rfl
  · rw [List.length_append]; rfl
  · rw [List.length_append]; exact hl
  · by_cases hj : f < A.1.length
    · rw [List.getElem?_append_left hj] at hg
      obtain ⟨r1, r2, r3, r4⟩ := hR.1.2.2 f g hg
      refine ⟨?_, ?_, r3, r4⟩
      · show upd _ A.1.length _ f = _; rw [pk_un (by omega)]; exact r1
      · show upd _ A.1.length _ f = _; rw [pk_un (by omega)]; exact r2
    · have hfe : f = A.1.length := by
        have := (List.getElem?_eq_some_iff.mp hg).1
        rw [List.length_append] at this
        simp only [List.length_cons, List.length_nil] at this
        omega
      subst hfe
      rw [List.getElem?_append_right (Nat.le_refl _), Nat.sub_self] at hg
      cases hg
      refine ⟨?_, ?_, Nat.zero_le _, fun k s hs => by simp at hs⟩
      · show upd _ A.1.length _ A.1.length = _; rw [pk_us]
      · show upd _ A.1.length _ A.1.length = _; rw [pk_us]; rfl
theorem c_X11_put {σ : gH} (hM : Mm σ o ad S) (hR : RepM S A) {j : Nat} {g : aF} (hg : A.1[j]? = some g) (hl : g.2.length < 12) (k x : Int32) (y : Int64) : Ct l mX11_put 2 0 0 [.ref o, .int (nI j), .int k, .int x, .long y] σ (pI fun r σ' => r = nI (g.2.length + 1) ∧ ∃ S', Mm σ' o ad S' ∧ RepM S' (A.1.set j (g.1, g.2 ++ [(k, x, aY k y g.1)]), A.2) ∧ S'.2.1 = S.2.1 ∧ S'.1 = S.1) := by
  have h60 := hR.1.2.1
  have hj := (List.getElem?_eq_some_iff.mp hg).1
  obtain ⟨e3, e4, -, e5⟩ := hR.1.2.2 j g hg
  have hcj : (nI j).toNatClampNeg = j := nI_clamp (by omega)
  have hcn : (nI (12 * j + g.2.length)).toNatClampNeg = 12 * j + g.2.length := nI_clamp (by omega)
  have hIj : vp_in (nI j) 60 := vp_in_nI (by omega) (by decide)
  have hI : vp_in (nI (12 * j + g.2.length)) 720 := vp_in_nI (by omega) (by decide)
  have fin : ∀ (σ' : gH), Mm σ' o ad (uI (uJ (uI (uI S 5 (upd (S.2.2.1 5) (12 * j + g.2.length) k)) 6 (upd (S.2.2.1 6) (12 * j + g.2.length) x)) 7 (vp_updL (S.2.2.2 7) (12 * j + g.2.length) (aY k y g.1))) 4 (upd (S.2.2.1 4) j (nI (g.2.length + 1)))) → ∃ S', Mm σ' o ad S' ∧ RepM S' (A.1.set j (g.1, g.2 ++ [(k, x, aY k y g.1)]), A.2) ∧ S'.2.1 = S.2.1 ∧ S'.1 = S.1 := by
    intro σ' hM'
    refine ⟨_, hM', ?_, rfl, rfl⟩
    refine hR.forms _ (fun k hk => rfl) (fun k hk => ?_) (fun k hk => ?_) ?_ ?_ (fun f g' hg' => ?_)
    · simp only [List.mem_cons, List.not_mem_nil, or_false] at hk
      rcases hk with rfl | rfl | rfl | rfl | rfl | rfl <;> rfl
    · simp only [List.mem_cons, List.not_mem_nil, or_false] at hk
      rcases hk with rfl | rfl | rfl <;> rfl
    · rw [List.length_set]; exact hR.1.1
    · rw [List.length_set]; exact h60
    · by_cases hf : f = j
      · subst hf
        rw [List.getElem?_set] at hg'
        simp only [if_true, hj] at hg'
        cases hg'
        refine ⟨e3, ?_, ?_, fun q s hs => ?_⟩
        · show upd _ f _ f = _; rw [pk_us, List.length_append]; rfl
        · rw [List.length_append]; exact hl
        · by_cases hq : q < g.2.length
          · rw [List.getElem?_append_left hq] at hs
            obtain ⟨t1, t2, t3⟩ := e5 q s hs
            refine ⟨?_, ?_, ?_⟩
            · show upd _ _ _ _ = _; rw [pk_un (by omega)]; exact t1
            · show upd _ _ _ _ = _; rw [pk_un (by omega)]; exact t2
            · show vp_updL _ _ _ _ = _; rw [pk_uLn (by omega)]; exact t3
          · have hqe : q = g.2.length := by
              have := (List.getElem?_eq_some_iff.mp hs).1
              rw [List.length_append] at this
              simp only [List.length_cons, List.length_nil] at this
              omega
            subst hqe
            rw [List.getElem?_append_right (Nat.le_refl _), Nat.sub_self] at hs
            cases hs
            refine ⟨?_, ?_, ?_⟩
            · show upd _ _ _ _ = _; rw [pk_us]
            · show upd _ _ _ _ = _; rw [pk_us]
            · show vp_updL _ _ _ _ = _; rw [pk_uLs]
      · rw [List.getElem?_set_ne (Ne.symm hf)] at hg'
        obtain ⟨r1, r2, r3, r4⟩ := hR.1.2.2 f g' hg'
        refine ⟨r1, ?_, r3, fun q s hs => ?_⟩
        · show upd _ j _ f = _; rw [pk_un hf]; exact r2
        · have hq := (List.getElem?_eq_some_iff.mp hs).1
          obtain ⟨t1, t2, t3⟩ := r4 q s hs
          refine ⟨?_, ?_, ?_⟩
          · show upd _ _ _ _ = _; rw [pk_un (by omega)]; exact t1
          · show upd _ _ _ _ = _; rw [pk_un (by omega)]; exact t2
          · show vp_updL _ _ _ _ = _; rw [pk_uLn (by omega)]; exact t3
  refine Ct_of moX11_put [some (.ref o), some (.int (nI j)), some (.int k), some (.int x), some (.long y), none, none] rfl (Nat.le_of_ble_eq_true rfl) ?_
  refine g_bipush (v := 12) dX11_put_0 (by decide) ?_
  refine g_iload_n (i := 1) dX11_put_2 rfl rfl ?_
  refine g_imul dX11_put_3 ?_
  refine g_aload_n (i := 0) dX11_put_4 rfl rfl ?_
  refine gm_get hM (k := 4) dX11_put_5 flX11_13 rfl ?_
  refine g_iload_n (i := 1) dX11_put_8 rfl rfl ?_
  refine gm_iald hM dX11_put_9 rfl (hIj) ?_
  refine g_toi (nI g.2.length) (by rw [hcj]; exact e4) ?_
  refine g_iadd dX11_put_10 ?_
  rw [ix12]
  refine g_istore (ls' := [_, _, _, _, _, _, _]) dX11_put_11 (by decide) rfl rfl ?_
  refine g_aload_n (i := 0) dX11_put_13 rfl rfl ?_
  refine gm_get hM (k := 5) dX11_put_14 flX11_16 rfl ?_
  refine g_iload dX11_put_17 rfl ?_
  refine g_iload_n (i := 2) dX11_put_19 rfl rfl ?_
  refine gm_iast hM dX11_put_20 rfl (hI) (fun σ hM => ?_)
  refine g_aload_n (i := 0) dX11_put_21 rfl rfl ?_
  refine gm_get hM (k := 6) dX11_put_22 flX11_19 rfl ?_
  refine g_iload dX11_put_25 rfl ?_
  refine g_iload_n (i := 3) dX11_put_27 rfl rfl ?_
  refine gm_iast hM dX11_put_28 rfl (hI) (fun σ hM => ?_)
  refine g_aload_n (i := 0) dX11_put_29 rfl rfl ?_
  refine gm_get hM (k := 7) dX11_put_30 flX11_22 rfl ?_
  refine g_iload dX11_put_33 rfl ?_
  refine g_iload_n (i := 2) dX11_put_35 rfl rfl ?_
  refine g_callSi (My := mX11_takesOperand) [_] dX11_put_36 lkX11_132 mvX11_takesOperand rfl (c_X11_takesOperand _) (by decide) (by decide) (by decide) rfl (Nat.le_of_ble_eq_true rfl) (fun zr36 σ zh36 => ?_)
  obtain ⟨rfl, rfl⟩ := zh36
  refine g_if_ne (tgt := 49) dX11_put_39 (by decide) (fun zc39 => ?_) (fun zc39 => ?_)
  · refine g_lload dX11_put_49 rfl ?_
    refine g_goto (tgt := 65) dX11_put_51 (by decide) ?_
    first
    | refine g_tol (aY k y g.1) (by unfold aY; rw [if_pos (Or.inl (bI_ne0.mp zc39))]) ?_
    | refine g_tol (aY k y g.1) (by unfold aY; rw [if_pos (Or.inr (bI_ne0.mp zc46))]) ?_
    | refine g_tol (aY k y g.1) (by unfold aY; rw [if_neg (fun z => z.elim (bI_eq0.mp zc39) (bI_eq0.mp zc46))]) ?_
    refine gm_last hM dX11_put_65 rfl (hI) (fun σ hM => ?_)
    refine g_aload_n (i := 0) dX11_put_66 rfl rfl ?_
    refine gm_get hM (k := 4) dX11_put_67 flX11_13 rfl ?_
    refine g_iload_n (i := 1) dX11_put_70 rfl rfl ?_
    refine g_dup2 dX11_put_71 rfl rfl ?_
    refine gm_iald hM dX11_put_72 rfl (hIj) ?_
    refine g_toi (nI g.2.length) (by rw [hcj]; exact e4) ?_
    refine g_iconst (v := 1) dX11_put_73 (by decide) ?_
    refine g_iadd dX11_put_74 ?_
    rw [nI_1]
    refine gm_iast hM dX11_put_75 rfl (hIj) (fun σ hM => ?_)
    refine g_aload_n (i := 0) dX11_put_76 rfl rfl ?_
    refine gm_get hM (k := 4) dX11_put_77 flX11_13 rfl ?_
    refine g_iload_n (i := 1) dX11_put_80 rfl rfl ?_
    refine gm_iald hM dX11_put_81 rfl (hIj) ?_
    refine g_toi (nI (g.2.length + 1)) (by rw [hcj]; show upd _ j _ j = _; rw [pk_us]) ?_
    refine g_iret dX11_put_82 rfl ?_
    rw [hcj, hcn] at hM
    exact ⟨_, rfl, rfl, fin _ hM⟩
  · refine g_iload_n (i := 2) dX11_put_42 rfl rfl ?_
    refine g_callSi (My := mX11_takesCount) [_] dX11_put_43 lkX11_140 mvX11_takesCount rfl (c_X11_takesCount _) (by decide) (by decide) (by decide) rfl (Nat.le_of_ble_eq_true rfl) (fun zr43 σ zh43 => ?_)
    obtain ⟨rfl, rfl⟩ := zh43
    refine g_if_eq (tgt := 54) dX11_put_46 (by decide) (fun zc46 => ?_) (fun zc46 => ?_)
    · refine g_lload dX11_put_54 rfl ?_
      refine g_aload_n (i := 0) dX11_put_56 rfl rfl ?_
      refine gm_get hM (k := 3) dX11_put_57 flX11_7 rfl ?_
      refine g_iload_n (i := 1) dX11_put_60 rfl rfl ?_
      refine gm_iald hM dX11_put_61 rfl (hIj) ?_
      refine g_toi g.1 (by rw [hcj]; exact e3) ?_
      refine g_callSl (My := mX11_low) [_, _] dX11_put_62 lkX11_105 mvX11_low rfl (c_X11_low _ _) (by decide) (by decide) (by decide) rfl (Nat.le_of_ble_eq_true rfl) (fun zr62 σ zh62 => ?_)
      obtain ⟨rfl, rfl⟩ := zh62
      first
      | refine g_tol (aY k y g.1) (by unfold aY; rw [if_pos (Or.inl (bI_ne0.mp zc39))]) ?_
      | refine g_tol (aY k y g.1) (by unfold aY; rw [if_pos (Or.inr (bI_ne0.mp zc46))]) ?_
      | refine g_tol (aY k y g.1) (by unfold aY; rw [if_neg (fun z => z.elim (bI_eq0.mp zc39) (bI_eq0.mp zc46))]) ?_
      refine gm_last hM dX11_put_65 rfl (hI) (fun σ hM => ?_)
      refine g_aload_n (i := 0) dX11_put_66 rfl rfl ?_
      refine gm_get hM (k := 4) dX11_put_67 flX11_13 rfl ?_
      refine g_iload_n (i := 1) dX11_put_70 rfl rfl ?_
      refine g_dup2 dX11_put_71 rfl rfl ?_
      refine gm_iald hM dX11_put_72 rfl (hIj) ?_
      refine g_toi (nI g.2.length) (by rw [hcj]; exact e4) ?_
      refine g_iconst (v := 1) dX11_put_73 (by decide) ?_
      refine g_iadd dX11_put_74 ?_
      rw [nI_1]
      refine gm_iast hM dX11_put_75 rfl (hIj) (fun σ hM => ?_)
      refine g_aload_n (i := 0) dX11_put_76 rfl rfl ?_
      refine gm_get hM (k := 4) dX11_put_77 flX11_13 rfl ?_
      refine g_iload_n (i := 1) dX11_put_80 rfl rfl ?_
      refine gm_iald hM dX11_put_81 rfl (hIj) ?_
      refine g_toi (nI (g.2.length + 1)) (by rw [hcj]; show upd _ j _ j = _; rw [pk_us]) ?_
      refine g_iret dX11_put_82 rfl ?_
      rw [hcj, hcn] at hM
      exact ⟨_, rfl, rfl, fin _ hM⟩
    · refine g_lload dX11_put_49 rfl ?_
      refine g_goto (tgt := 65) dX11_put_51 (by decide) ?_
      first
      | refine g_tol (aY k y g.1) (by unfold aY; rw [if_pos (Or.inl (bI_ne0.mp zc39))]) ?_
      | refine g_tol (aY k y g.1) (by unfold aY; rw [if_pos (Or.inr (bI_ne0.mp zc46))]) ?_
      | refine g_tol (aY k y g.1) (by unfold aY; rw [if_neg (fun z => z.elim (bI_eq0.mp zc39) (bI_eq0.mp zc46))]) ?_
      refine gm_last hM dX11_put_65 rfl (hI) (fun σ hM => ?_)
      refine g_aload_n (i := 0) dX11_put_66 rfl rfl ?_
      refine gm_get hM (k := 4) dX11_put_67 flX11_13 rfl ?_
      refine g_iload_n (i := 1) dX11_put_70 rfl rfl ?_
      refine g_dup2 dX11_put_71 rfl rfl ?_
      refine gm_iald hM dX11_put_72 rfl (hIj) ?_
      refine g_toi (nI g.2.length) (by rw [hcj]; exact e4) ?_
      refine g_iconst (v := 1) dX11_put_73 (by decide) ?_
      refine g_iadd dX11_put_74 ?_
      rw [nI_1]
      refine gm_iast hM dX11_put_75 rfl (hIj) (fun σ hM => ?_)
      refine g_aload_n (i := 0) dX11_put_76 rfl rfl ?_
      refine gm_get hM (k := 4) dX11_put_77 flX11_13 rfl ?_
      refine g_iload_n (i := 1) dX11_put_80 rfl rfl ?_
      refine gm_iald hM dX11_put_81 rfl (hIj) ?_
      refine g_toi (nI (g.2.length + 1)) (by rw [hcj]; show upd _ j _ j = _; rw [pk_us]) ?_
      refine g_iret dX11_put_82 rfl ?_
      rw [hcj, hcn] at hM
      exact ⟨_, rfl, rfl, fin _ hM⟩
end CMform
