/-! the reference: forms and what they make -/
abbrev isOp (k : Int32) : Prop := k = 5 ∨ k = 6 ∨ k = 8 ∨ k = 12
abbrev isCt (k : Int32) : Prop := k = 0 ∨ k = 1 ∨ k = 10
def wfS (w : Int32) (k : Nat) (s : aSt) : Prop := (∃ c : Nat, c ≤ 12 ∧ s.1 = nI c) ∧ (∃ x : Nat, x ≤ k ∧ s.2.1 = nI x) ∧ (isOp s.1 → ∃ y : Nat, y ≤ k ∧ s.2.2 = lN y) ∧ (isCt s.1 → ∃ y : Nat, nI y < w ∧ y < 64 ∧ s.2.2 = lN y) ∧ (¬ isOp s.1 → ¬ isCt s.1 → mLow s.2.2 w = s.2.2)
def wfF (g : aF) : Prop := isW g.1 ∧ g.2.length ≤ 12 ∧ ∀ (k : Nat) (s : aSt), g.2[k]? = some s → wfS g.1 k s
def opA (w : Int32) (st : List aSt) (v : Int64) : Nat → Nat → Int64
  | 0 => fun _ => mLow v w
  | k + 1 => fun i => if i = k + 1 then (match st[k]? with
    | some s => mAp s.1 (opA w st v k s.2.1.toNatClampNeg) (if isOp s.1 then opA w st v k s.2.2.toInt32.toNatClampNeg else s.2.2) w
    | none => 0) else opA w st v k i
theorem opA_s {w : Int32} {st : List aSt} {v : Int64} {k : Nat} {s : aSt} (h : st[k]? = some s) : opA w st v (k + 1) (k + 1) = mAp s.1 (opA w st v k s.2.1.toNatClampNeg) (if isOp s.1 then opA w st v k s.2.2.toInt32.toNatClampNeg else s.2.2) w := by
  simp only [opA, if_true, h]
theorem opA_lo {w : Int32} {st : List aSt} {v : Int64} {k i : Nat} (h : i ≤ k) : opA w st v (k + 1) i = opA w st v k i := by
  show (if i = k + 1 then _ else _) = _
  rw [if_neg (by omega)]
theorem ix12 (j k : Nat) : (12 : Int32) * nI j + nI k = nI (12 * j + k) := by
  rw [show (12 : Int32) = nI 12 from rfl, pk_mul, nI_add]
theorem ix100 (j k : Nat) : (100 : Int32) * nI j + nI k = nI (100 * j + k) := by
  rw [show (100 : Int32) = nI 100 from rfl, pk_mul, nI_add]
theorem isF_no {A : aA} {f : Int32} (h : aForm A f = none) : ¬ ∃ g, aForm A f = some g := by
  rintro ⟨g, hg⟩
  rw [h] at hg
  cases hg
section CMops
variable {l : Launch} {σ : gH} {o : Nat} {ad : Nat → Nat} {S : mS} {A : aA}
theorem c_X11_isForm (hM : Mm σ o ad S) (hR : RepM S A) (f : Int32) : Ct l mX11_isForm 1 0 0 [.ref o, .int f] σ (pI fun r σ' => r = bI (∃ g, aForm A f = some g) ∧ σ' = σ) := by
  refine Ct_of moX11_isForm [some (.ref o), some (.int f)] rfl (Nat.le_of_ble_eq_true rfl) ?_
  rcases aForm_cases A hR.1.2.1 f with ⟨hh, hn⟩ | ⟨j, g, hj, rfl, hg, ha⟩
  · refine g_iload_n (i := 1) dX11_isForm_0 rfl rfl ?_
    refine g_if_lt (tgt := 16) dX11_isForm_1 (by decide) (fun zc1 => ?_) (fun zc1 => ?_)
    · refine g_iconst (v := 0) dX11_isForm_16 (by decide) ?_
      refine g_zret dX11_isForm_17 rfl (rfl) ?_
      exact ⟨_, rfl, Eq.symm (bI_f (isF_no hn)), rfl⟩
    · refine g_iload_n (i := 1) dX11_isForm_4 rfl rfl ?_
      refine g_aload_n (i := 0) dX11_isForm_5 rfl rfl ?_
      refine gm_get hM (k := 2) dX11_isForm_6 flX11_118 rfl ?_
      refine g_icmp_ge (tgt := 16) dX11_isForm_9 (by decide) (fun zc9 => ?_) (fun zc9 => ?_)
      · refine g_iconst (v := 0) dX11_isForm_16 (by decide) ?_
        refine g_zret dX11_isForm_17 rfl (rfl) ?_
        exact ⟨_, rfl, Eq.symm (bI_f (isF_no hn)), rfl⟩
      · exact absurd (hh.elim (fun q => absurd q zc1) (fun q => by rw [← hR.1.1] at q; exact q)) zc9
  · refine g_iload_n (i := 1) dX11_isForm_0 rfl rfl ?_
    refine g_if_lt (tgt := 16) dX11_isForm_1 (by decide) (fun zc1 => ?_) (fun zc1 => ?_)
    · exact absurd zc1 (nI_pos (by have := hR.1.2.1; omega))
    · refine g_iload_n (i := 1) dX11_isForm_4 rfl rfl ?_
      refine g_aload_n (i := 0) dX11_isForm_5 rfl rfl ?_
      refine gm_get hM (k := 2) dX11_isForm_6 flX11_118 rfl ?_
      refine g_icmp_ge (tgt := 16) dX11_isForm_9 (by decide) (fun zc9 => ?_) (fun zc9 => ?_)
      · exact absurd (by rw [hR.1.1] at zc9; exact zc9) (nI_ge hj (by have := hR.1.2.1; omega))
      · refine g_iconst (v := 1) dX11_isForm_12 (by decide) ?_
        refine g_goto (tgt := 17) dX11_isForm_13 (by decide) ?_
        refine g_zret dX11_isForm_17 rfl (rfl) ?_
        exact ⟨_, rfl, Eq.symm (bI_t ⟨g, ha⟩), rfl⟩
def aSteps (A : aA) (f : Int32) : Int32 := match aForm A f with
  | some g => nI g.2.length
  | none => -1
theorem c_X11_steps (hM : Mm σ o ad S) (hR : RepM S A) (f : Int32) : Ct l mX11_steps 2 0 0 [.ref o, .int f] σ (pI fun r σ' => r = aSteps A f ∧ σ' = σ) := by
  refine Ct_of moX11_steps [some (.ref o), some (.int f)] rfl (Nat.le_of_ble_eq_true rfl) ?_
  have h60 := hR.1.2.1
  rcases aForm_cases A hR.1.2.1 f with ⟨hh, hn⟩ | ⟨j, g, hj, rfl, hg, ha⟩
  · refine g_aload_n (i := 0) dX11_steps_0 rfl rfl ?_
    refine g_iload_n (i := 1) dX11_steps_1 rfl rfl ?_
    refine g_callVi (My := mX11_isForm) [_] dX11_steps_2 lkX11_164 mvX11_isForm rfl hM.1 rfl (c_X11_isForm hM hR _) (by decide) (by decide) (by decide) rfl (Nat.le_of_ble_eq_true rfl) (fun zr2 σ zh2 => ?_)
    obtain ⟨rfl, rfl⟩ := zh2
    refine g_if_eq (tgt := 17) dX11_steps_5 (by decide) (fun zc5 => ?_) (fun zc5 => ?_)
    · refine g_iconst (v := (-1)) dX11_steps_17 (by decide) ?_
      refine g_iret dX11_steps_18 rfl ?_
      exact ⟨_, rfl, by simp only [aSteps, hn], rfl⟩
    · exact absurd (bI_ne0.mp zc5) (isF_no hn)
  · refine g_aload_n (i := 0) dX11_steps_0 rfl rfl ?_
    refine g_iload_n (i := 1) dX11_steps_1 rfl rfl ?_
    refine g_callVi (My := mX11_isForm) [_] dX11_steps_2 lkX11_164 mvX11_isForm rfl hM.1 rfl (c_X11_isForm hM hR _) (by decide) (by decide) (by decide) rfl (Nat.le_of_ble_eq_true rfl) (fun zr2 σ zh2 => ?_)
    obtain ⟨rfl, rfl⟩ := zh2
    refine g_if_eq (tgt := 17) dX11_steps_5 (by decide) (fun zc5 => ?_) (fun zc5 => ?_)
    · exact absurd ⟨g, ha⟩ (bI_eq0.mp zc5)
    · refine g_aload_n (i := 0) dX11_steps_8 rfl rfl ?_
      refine gm_get hM (k := 4) dX11_steps_9 flX11_13 rfl ?_
      refine g_iload_n (i := 1) dX11_steps_12 rfl rfl ?_
      refine gm_iald hM dX11_steps_13 rfl ((vp_in_nI (show j < 60 by omega) (by decide) : vp_in (nI j) 60)) ?_
      refine g_goto (tgt := 18) dX11_steps_14 (by decide) ?_
      refine g_iret dX11_steps_18 rfl ?_
      exact ⟨_, rfl, by simp only [aSteps, ha]; rw [nI_clamp (by omega)]; exact (hR.1.2.2 j g hg).2.1, rfl⟩
def aWidth (A : aA) (f : Int32) : Int32 := match aForm A f with
  | some g => g.1
  | none => -1
theorem c_X11_width (hM : Mm σ o ad S) (hR : RepM S A) (f : Int32) : Ct l mX11_width 2 0 0 [.ref o, .int f] σ (pI fun r σ' => r = aWidth A f ∧ σ' = σ) := by
  refine Ct_of moX11_width [some (.ref o), some (.int f)] rfl (Nat.le_of_ble_eq_true rfl) ?_
  have h60 := hR.1.2.1
  rcases aForm_cases A hR.1.2.1 f with ⟨hh, hn⟩ | ⟨j, g, hj, rfl, hg, ha⟩
  · refine g_aload_n (i := 0) dX11_width_0 rfl rfl ?_
    refine g_iload_n (i := 1) dX11_width_1 rfl rfl ?_
    refine g_callVi (My := mX11_isForm) [_] dX11_width_2 lkX11_164 mvX11_isForm rfl hM.1 rfl (c_X11_isForm hM hR _) (by decide) (by decide) (by decide) rfl (Nat.le_of_ble_eq_true rfl) (fun zr2 σ zh2 => ?_)
    obtain ⟨rfl, rfl⟩ := zh2
    refine g_if_eq (tgt := 17) dX11_width_5 (by decide) (fun zc5 => ?_) (fun zc5 => ?_)
    · refine g_iconst (v := (-1)) dX11_width_17 (by decide) ?_
      refine g_iret dX11_width_18 rfl ?_
      exact ⟨_, rfl, by simp only [aWidth, hn], rfl⟩
    · exact absurd (bI_ne0.mp zc5) (isF_no hn)
  · refine g_aload_n (i := 0) dX11_width_0 rfl rfl ?_
    refine g_iload_n (i := 1) dX11_width_1 rfl rfl ?_
    refine g_callVi (My := mX11_isForm) [_] dX11_width_2 lkX11_164 mvX11_isForm rfl hM.1 rfl (c_X11_isForm hM hR _) (by decide) (by decide) (by decide) rfl (Nat.le_of_ble_eq_true rfl) (fun zr2 σ zh2 => ?_)
    obtain ⟨rfl, rfl⟩ := zh2
    refine g_if_eq (tgt := 17) dX11_width_5 (by decide) (fun zc5 => ?_) (fun zc5 => ?_)
    · exact absurd ⟨g, ha⟩ (bI_eq0.mp zc5)
    · refine g_aload_n (i := 0) dX11_width_8 rfl rfl ?_
      refine gm_get hM (k := 3) dX11_width_9 flX11_7 rfl ?_
      refine g_iload_n (i := 1) dX11_width_12 rfl rfl ?_
      refine gm_iald hM dX11_width_13 rfl ((vp_in_nI (show j < 60 by omega) (by decide) : vp_in (nI j) 60)) ?_
      refine g_goto (tgt := 18) dX11_width_14 (by decide) ?_
      refine g_iret dX11_width_18 rfl ?_
      exact ⟨_, rfl, by simp only [aWidth, ha]; rw [nI_clamp (by omega)]; exact (hR.1.2.2 j g hg).1, rfl⟩
theorem lp_X11_work (hR : RepM S A) {j : Nat} {g : aF} (hj : j < A.1.length) (hg : A.1[j]? = some g) (hw : wfF g) (v : Int64) {m : Nat} (hm : m ≤ g.2.length) {post : Option Value → gH → Prop} (hp : ∀ (σ' : gH) (mk : Nat → Int64), Mm σ' o ad (uJ S 9 mk) → (∀ i, i ≤ m → mk i = opA g.1 g.2 v m i) → post none σ') :
    ∀ (n k : Nat) (mk : Nat → Int64) (σ : gH) (x7 x8 : Option Value), k + n = m → Mm σ o ad (uJ S 9 mk) → (∀ i, i ≤ k → mk i = opA g.1 g.2 v k i) → G l mX11_work 4 0 0 post σ 23 [some (.ref o), some (.int (nI j)), some (.long v), none, some (.int (nI m)), some (.int g.1), some (.int (nI k)), x7, x8, none] [] := by
  have h60 := hR.1.2.1
  have h12 := hw.2.1
  have hf := hR.1.2.2 j g hg
  intro n
  induction n with
  | zero =>
    intro k mk σ x7 x8 hk hM hmk
    obtain rfl : k = m := by omega
    refine g_iload dX11_work_23 rfl ?_
    refine g_iload dX11_work_25 rfl ?_
    refine g_icmp_ge (tgt := 118) dX11_work_27 (by decide) (fun zc27 => ?_) (fun zc27 => ?_)
    · refine g_vret dX11_work_118 rfl ?_
      exact hp _ mk hM hmk
    · exact absurd (nI_le (Nat.le_refl _) (by omega)) zc27
  | succ n ih =>
    intro k mk σ x7 x8 hk hM hmk
    have hkl : k < g.2.length := by omega
    obtain ⟨s, hs⟩ : ∃ s, g.2[k]? = some s := ⟨_, List.getElem?_eq_getElem hkl⟩
    obtain ⟨e5, e6, e7⟩ := hf.2.2.2 k s hs
    obtain ⟨⟨cc, hcc, ec⟩, ⟨xx, hxx, ex⟩, hop, -, -⟩ := hw.2.2 k s hs
    have hI : vp_in (nI (12 * j + k)) 720 := vp_in_nI (by omega) (by decide)
    have hcl : (nI (12 * j + k)).toNatClampNeg = 12 * j + k := nI_clamp (by omega)
    refine g_iload dX11_work_23 rfl ?_
    refine g_iload dX11_work_25 rfl ?_
    refine g_icmp_ge (tgt := 118) dX11_work_27 (by decide) (fun zc27 => ?_) (fun zc27 => ?_)
    · exact absurd zc27 (nI_ge (by omega) (by omega))
    · refine g_bipush (v := 12) dX11_work_30 (by decide) ?_
      refine g_iload_n (i := 1) dX11_work_32 rfl rfl ?_
      refine g_imul dX11_work_33 ?_
      refine g_iload dX11_work_34 rfl ?_
      refine g_iadd dX11_work_36 ?_
      rw [ix12]
      refine g_istore (ls' := [_, _, _, _, _, _, _, _, _, _]) dX11_work_37 (by decide) rfl rfl ?_
      refine g_aload_n (i := 0) dX11_work_39 rfl rfl ?_
      refine gm_get hM (k := 5) dX11_work_40 flX11_16 rfl ?_
      refine g_iload dX11_work_43 rfl ?_
      refine gm_iald hM dX11_work_45 rfl (hI) ?_
      refine g_toi s.1 (by rw [hcl]; exact e5) ?_
      refine g_callSi (My := mX11_takesOperand) [_] dX11_work_46 lkX11_132 mvX11_takesOperand rfl (c_X11_takesOperand _) (by decide) (by decide) (by decide) rfl (Nat.le_of_ble_eq_true rfl) (fun zr46 σ zh46 => ?_)
      obtain ⟨rfl, rfl⟩ := zh46
      refine g_if_eq (tgt := 68) dX11_work_49 (by decide) (fun zc49 => ?_) (fun zc49 => ?_)
      · refine g_aload_n (i := 0) dX11_work_68 rfl rfl ?_
        refine gm_get hM (k := 7) dX11_work_69 flX11_22 rfl ?_
        refine g_iload dX11_work_72 rfl ?_
        refine gm_lald hM dX11_work_74 rfl (hI) ?_
        refine g_tol s.2.2 (by rw [hcl]; exact e7) ?_
        refine g_lstore (ls' := [_, _, _, _, _, _, _, _, _, _]) dX11_work_75 (by decide) rfl rfl ?_
        refine g_aload_n (i := 0) dX11_work_77 rfl rfl ?_
        refine gm_get hM (k := 9) dX11_work_78 flX11_29 rfl ?_
        refine g_iload dX11_work_81 rfl ?_
        refine g_iconst (v := 1) dX11_work_83 (by decide) ?_
        refine g_iadd dX11_work_84 ?_
        rw [nI_1]
        refine g_aload_n (i := 0) dX11_work_85 rfl rfl ?_
        refine gm_get hM (k := 5) dX11_work_86 flX11_16 rfl ?_
        refine g_iload dX11_work_89 rfl ?_
        refine gm_iald hM dX11_work_91 rfl (hI) ?_
        refine g_toi s.1 (by rw [hcl]; exact e5) ?_
        refine g_aload_n (i := 0) dX11_work_92 rfl rfl ?_
        refine gm_get hM (k := 9) dX11_work_93 flX11_29 rfl ?_
        refine g_aload_n (i := 0) dX11_work_96 rfl rfl ?_
        refine gm_get hM (k := 6) dX11_work_97 flX11_19 rfl ?_
        refine g_iload dX11_work_100 rfl ?_
        refine gm_iald hM dX11_work_102 rfl (hI) ?_
        refine g_toi (nI xx) (by rw [hcl, ← ex]; exact e6) ?_
        refine gm_lald hM dX11_work_103 rfl ((vp_in_nI (show xx < 13 by omega) (by decide) : vp_in (nI xx) 13)) ?_
        refine g_lload dX11_work_104 rfl ?_
        refine g_iload dX11_work_106 rfl ?_
        refine g_callSl (My := mX11_worked) [_, _, _, _] dX11_work_108 lkX11_136 mvX11_worked rfl (c_X11_worked _ _ _ _) (by decide) (by decide) (by decide) rfl (Nat.le_of_ble_eq_true rfl) (fun zr108 σ zh108 => ?_)
        obtain ⟨rfl, rfl⟩ := zh108
        refine gm_last hM dX11_work_111 rfl ((vp_in_nI (show k + 1 < 13 by omega) (by decide) : vp_in (nI (k + 1)) 13)) (fun σ hM => ?_)
        refine g_iinc (v := _ + 1) (ls' := [_, _, _, _, _, _, _, _, _, _]) dX11_work_112 rfl rfl (by decide) rfl rfl ?_
        refine g_goto (tgt := 23) dX11_work_115 (by decide) ?_
        rw [uJ_uJ] at hM
        refine g_cl (by rw [nI_1]) (ih (k + 1) _ σ _ _ (by omega) hM (fun i hi => ?_))
        have hk1 : (nI (k + 1)).toNatClampNeg = k + 1 := nI_clamp (by omega)
        by_cases hik : i = k + 1
        · subst hik
          rw [opA_s hs]
          rw [hk1]
          show vp_updL _ _ _ _ = _
          rw [pk_uLs]
          have hx1 : (nI xx).toNatClampNeg = xx := nI_clamp (by omega)
          have e1 : mk (nI xx).toNatClampNeg = opA g.1 g.2 v k s.2.1.toNatClampNeg := by rw [ex, hx1]; exact hmk xx hxx
          first
          | (rw [if_pos (bI_ne0.mp zc49)]
             have hy1 : (nI yy).toNatClampNeg = yy := nI_clamp (by omega)
             have e2 : mk (nI yy).toNatClampNeg = opA g.1 g.2 v k s.2.2.toInt32.toNatClampNeg := by (rw [ey, lN_i, hy1]; exact hmk yy hyy)
             rw [← e1, ← e2]; rfl)
          | (rw [if_neg (bI_eq0.mp zc49), ← e1]; rfl)
        · rw [opA_lo (by omega), ← hmk i (by omega), hk1]
          show vp_updL _ _ _ _ = _
          rw [pk_uLn hik]
          rfl
      · refine g_aload_n (i := 0) dX11_work_52 rfl rfl ?_
        refine gm_get hM (k := 9) dX11_work_53 flX11_29 rfl ?_
        refine g_aload_n (i := 0) dX11_work_56 rfl rfl ?_
        refine gm_get hM (k := 7) dX11_work_57 flX11_22 rfl ?_
        refine g_iload dX11_work_60 rfl ?_
        refine gm_lald hM dX11_work_62 rfl (hI) ?_
        obtain ⟨yy, hyy, ey⟩ := hop (bI_ne0.mp zc49)
        refine g_tol (lN yy) (by rw [hcl, ← ey]; exact e7) ?_
        refine g_l2i dX11_work_63 ?_
        refine g_toi (nI yy) (lN_i yy) ?_
        refine gm_lald hM dX11_work_64 rfl ((vp_in_nI (show yy < 13 by omega) (by decide) : vp_in (nI yy) 13)) ?_
        refine g_goto (tgt := 75) dX11_work_65 (by decide) ?_
        refine g_lstore (ls' := [_, _, _, _, _, _, _, _, _, _]) dX11_work_75 (by decide) rfl rfl ?_
        refine g_aload_n (i := 0) dX11_work_77 rfl rfl ?_
        refine gm_get hM (k := 9) dX11_work_78 flX11_29 rfl ?_
        refine g_iload dX11_work_81 rfl ?_
        refine g_iconst (v := 1) dX11_work_83 (by decide) ?_
        refine g_iadd dX11_work_84 ?_
        rw [nI_1]
        refine g_aload_n (i := 0) dX11_work_85 rfl rfl ?_
        refine gm_get hM (k := 5) dX11_work_86 flX11_16 rfl ?_
        refine g_iload dX11_work_89 rfl ?_
        refine gm_iald hM dX11_work_91 rfl (hI) ?_
        refine g_toi s.1 (by rw [hcl]; exact e5) ?_
        refine g_aload_n (i := 0) dX11_work_92 rfl rfl ?_
        refine gm_get hM (k := 9) dX11_work_93 flX11_29 rfl ?_
        refine g_aload_n (i := 0) dX11_work_96 rfl rfl ?_
        refine gm_get hM (k := 6) dX11_work_97 flX11_19 rfl ?_
        refine g_iload dX11_work_100 rfl ?_
        refine gm_iald hM dX11_work_102 rfl (hI) ?_
        refine g_toi (nI xx) (by rw [hcl, ← ex]; exact e6) ?_
        refine gm_lald hM dX11_work_103 rfl ((vp_in_nI (show xx < 13 by omega) (by decide) : vp_in (nI xx) 13)) ?_
        refine g_lload dX11_work_104 rfl ?_
        refine g_iload dX11_work_106 rfl ?_
        refine g_callSl (My := mX11_worked) [_, _, _, _] dX11_work_108 lkX11_136 mvX11_worked rfl (c_X11_worked _ _ _ _) (by decide) (by decide) (by decide) rfl (Nat.le_of_ble_eq_true rfl) (fun zr108 σ zh108 => ?_)
        obtain ⟨rfl, rfl⟩ := zh108
        refine gm_last hM dX11_work_111 rfl ((vp_in_nI (show k + 1 < 13 by omega) (by decide) : vp_in (nI (k + 1)) 13)) (fun σ hM => ?_)
        refine g_iinc (v := _ + 1) (ls' := [_, _, _, _, _, _, _, _, _, _]) dX11_work_112 rfl rfl (by decide) rfl rfl ?_
        refine g_goto (tgt := 23) dX11_work_115 (by decide) ?_
        rw [uJ_uJ] at hM
        refine g_cl (by rw [nI_1]) (ih (k + 1) _ σ _ _ (by omega) hM (fun i hi => ?_))
        have hk1 : (nI (k + 1)).toNatClampNeg = k + 1 := nI_clamp (by omega)
        by_cases hik : i = k + 1
        · subst hik
          rw [opA_s hs]
          rw [hk1]
          show vp_updL _ _ _ _ = _
          rw [pk_uLs]
          have hx1 : (nI xx).toNatClampNeg = xx := nI_clamp (by omega)
          have e1 : mk (nI xx).toNatClampNeg = opA g.1 g.2 v k s.2.1.toNatClampNeg := by rw [ex, hx1]; exact hmk xx hxx
          first
          | (rw [if_pos (bI_ne0.mp zc49)]
             have hy1 : (nI yy).toNatClampNeg = yy := nI_clamp (by omega)
             have e2 : mk (nI yy).toNatClampNeg = opA g.1 g.2 v k s.2.2.toInt32.toNatClampNeg := by (rw [ey, lN_i, hy1]; exact hmk yy hyy)
             rw [← e1, ← e2]; rfl)
          | (rw [if_neg (bI_eq0.mp zc49), ← e1]; rfl)
        · rw [opA_lo (by omega), ← hmk i (by omega), hk1]
          show vp_updL _ _ _ _ = _
          rw [pk_uLn hik]
          rfl
theorem c_X11_work (hM : Mm σ o ad S) (hR : RepM S A) {j : Nat} {g : aF} (hj : j < A.1.length) (hg : A.1[j]? = some g) (hw : wfF g) (v : Int64) {m : Nat} (hm : m ≤ g.2.length) : Ct l mX11_work 4 0 0 [.ref o, .int (nI j), .long v, .int (nI m)] σ (pV fun σ' => ∃ mk, Mm σ' o ad (uJ S 9 mk) ∧ ∀ i, i ≤ m → mk i = opA g.1 g.2 v m i) := by
  have h60 := hR.1.2.1
  refine Ct_of moX11_work [some (.ref o), some (.int (nI j)), some (.long v), none, some (.int (nI m)), none, none, none, none, none] rfl (Nat.le_of_ble_eq_true rfl) ?_
  refine g_aload_n (i := 0) dX11_work_0 rfl rfl ?_
  refine gm_get hM (k := 3) dX11_work_1 flX11_7 rfl ?_
  refine g_iload_n (i := 1) dX11_work_4 rfl rfl ?_
  refine gm_iald hM dX11_work_5 rfl ((vp_in_nI (show j < 60 by omega) (by decide) : vp_in (nI j) 60)) ?_
  refine g_toi g.1 (by rw [nI_clamp (by omega)]; exact (hR.1.2.2 j g hg).1) ?_
  refine g_istore (ls' := [_, _, _, _, _, _, _, _, _, _]) dX11_work_6 (by decide) rfl rfl ?_
  refine g_aload_n (i := 0) dX11_work_8 rfl rfl ?_
  refine gm_get hM (k := 9) dX11_work_9 flX11_29 rfl ?_
  refine g_iconst (v := 0) dX11_work_12 (by decide) ?_
  refine g_lload_n (i := 2) dX11_work_13 rfl rfl ?_
  refine g_iload dX11_work_14 rfl ?_
  refine g_callSl (My := mX11_low) [_, _] dX11_work_16 lkX11_105 mvX11_low rfl (c_X11_low _ _) (by decide) (by decide) (by decide) rfl (Nat.le_of_ble_eq_true rfl) (fun zr16 σ zh16 => ?_)
  obtain ⟨rfl, rfl⟩ := zh16
  refine gm_last hM dX11_work_19 rfl ((vp_in_nI (n := 0) (show 0 < 13 by omega) (by decide) : vp_in (nI 0) 13)) (fun σ hM => ?_)
  refine g_iconst (v := 0) dX11_work_20 (by decide) ?_
  refine g_istore (ls' := [_, _, _, _, _, _, _, _, _, _]) dX11_work_21 (by decide) rfl rfl ?_
  refine lp_X11_work (S := S) hR hj hg hw v hm (fun σ' mk h1 h2 => ⟨rfl, mk, h1, h2⟩) m 0 _ σ _ _ (by omega) hM (fun i hi => ?_)
  have h0 : i = 0 := Nat.le_zero.mp hi
  subst h0
  rfl
end CMops
