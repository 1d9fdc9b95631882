/-! the reference: fails() -/
noncomputable def flp (bad : Nat → Prop) : Nat → Nat → Int32
  | 0, _ => -3
  | n + 1, v => by
    classical
    exact if bad v then nI v else flp bad n (v + 1)
termination_by n => n
theorem flp_0 (bad : Nat → Prop) (v : Nat) : flp bad 0 v = -3 := by
  rw [flp]
theorem flp_t {bad : Nat → Prop} {n v : Nat} (h : bad v) : flp bad (n + 1) v = nI v := by
  rw [flp]
  exact if_pos h
theorem flp_f {bad : Nat → Prop} {n v : Nat} (h : ¬ bad v) : flp bad (n + 1) v = flp bad n (v + 1) := by
  rw [flp]
  exact if_neg h
def fBad (g : aF) (sg ws : Int32) (d : Int64) (v : Nat) : Prop := ¬ (ws = 5 ∧ ¬ mLow (aQR g.1 sg ws (mLow d g.1) (nI v).toInt64).2 g.1 = 0) ∧ ¬ opA g.1 g.2 (nI v).toInt64 g.2.length g.2.length = mAns g.1 ws (aQR g.1 sg ws (mLow d g.1) (nI v).toInt64)
noncomputable def sFails (A : aA) (f sg ws : Int32) (d : Int64) : Int32 := by
  classical
  exact match aForm A f with
  | none => -1
  | some g => if ¬ 16 < g.1 ∧ mIsA g.1 sg ws d then flp (fBad g sg ws d) (if g.1 = 8 then 256 else 65536) 0 else -1
section CMfails
variable {l : Launch} {o : Nat} {ad : Nat → Nat} {A : aA}
theorem lp_X11_fails {j : Nat} {g : aF} (hj : j < A.1.length) (h60 : A.1.length ≤ 60) (hg : A.1[j]? = some g) (hw : wfF g) (sg ws : Int32) (d : Int64) (ha : mIsA g.1 sg ws d) (M : Nat) (hM31 : M ≤ 65536) (hMe : (1 : Int32) <<< (g.1 &&& 31) = nI M) {post : Option Value → gH → Prop} :
    ∀ (n v : Nat) (σ : gH) (S : mS) (x8 : Option Value), v + n = M → Mm σ o ad S → RepM S A → (∀ σ' S', Mm σ' o ad S' → RepM S' A → post (some (.int (flp (fBad g sg ws d) n v))) σ') → G l mX11_fails 5 0 0 post σ 49 [some (.ref o), some (.int (nI j)), some (.int sg), some (.int ws), some (.long d), none, some (.int g.1), some (.int (nI v)), x8, none] [] := by
  have hcj : (nI j).toNatClampNeg = j := nI_clamp (by omega)
  have hJ : vp_in (nI j) 60 := vp_in_nI (by omega) (by decide)
  have h12 := hw.2.1
  have hcl : (nI g.2.length).toNatClampNeg = g.2.length := nI_clamp (by omega)
  intro n
  induction n with
  | zero =>
    intro v σ S x8 hv hM hR hp
    obtain rfl : v = M := by omega
    rw [flp_0] at hp
    refine g_iload dX11_fails_49 rfl ?_
    refine g_iconst (v := 1) dX11_fails_51 (by decide) ?_
    refine g_iload dX11_fails_52 rfl ?_
    refine g_ishl dX11_fails_54 ?_
    rw [hMe]
    refine g_icmp_ge (tgt := 133) dX11_fails_55 (by decide) (fun zc55 => ?_) (fun zc55 => ?_)
    · refine g_bipush (v := (-3)) dX11_fails_133 (by decide) ?_
      refine g_iret dX11_fails_135 rfl ?_
      exact hp _ _ hM hR
    · exact absurd (nI_le (Nat.le_refl _) (by omega)) zc55
  | succ n ih =>
    intro v σ S x8 hv hM hR hp
    have hf := hR.1.2.2 j g hg
    have next : ¬ fBad g sg ws d v → ∀ σ' S' x8', Mm σ' o ad S' → RepM S' A → G l mX11_fails 5 0 0 post σ' 127 [some (.ref o), some (.int (nI j)), some (.int sg), some (.int ws), some (.long d), none, some (.int g.1), some (.int (nI v)), x8', none] [] := by
      intro hb σ S x8 hM hR
      rw [flp_f hb] at hp
      refine g_iinc (v := _ + 1) (ls' := [_, _, _, _, _, _, _, _, _, _]) dX11_fails_127 rfl rfl (by decide) rfl rfl ?_
      refine g_goto (tgt := 49) dX11_fails_130 (by decide) ?_
      rw [nI_1]
      exact ih (v + 1) σ S _ (by omega) hM hR hp
    refine g_iload dX11_fails_49 rfl ?_
    refine g_iconst (v := 1) dX11_fails_51 (by decide) ?_
    refine g_iload dX11_fails_52 rfl ?_
    refine g_ishl dX11_fails_54 ?_
    rw [hMe]
    refine g_icmp_ge (tgt := 133) dX11_fails_55 (by decide) (fun zc55 => ?_) (fun zc55 => ?_)
    · exact absurd zc55 (nI_ge (by omega) (by omega))
    · refine g_aload_n (i := 0) dX11_fails_58 rfl rfl ?_
      refine g_iload dX11_fails_59 rfl ?_
      refine g_iload_n (i := 2) dX11_fails_61 rfl rfl ?_
      refine g_iload_n (i := 3) dX11_fails_62 rfl rfl ?_
      refine g_lload dX11_fails_63 rfl ?_
      refine g_iload dX11_fails_65 rfl ?_
      refine g_callSl (My := mX11_low) [_, _] dX11_fails_67 lkX11_105 mvX11_low rfl (c_X11_low _ _) (by decide) (by decide) (by decide) rfl (Nat.le_of_ble_eq_true rfl) (fun zr67 σ zh67 => ?_)
      obtain ⟨rfl, rfl⟩ := zh67
      refine g_iload dX11_fails_70 rfl ?_
      refine g_i2l dX11_fails_72 ?_
      refine g_callVl (My := mX11_asked) [_, _, _, _, _] dX11_fails_73 lkX11_247 mvX11_asked rfl hM.1 rfl (c_X11_asked hM g.1 sg ws (mLow d g.1) _ (Or.inr (fun q => ha.2.2.2.1 (by have q1 := mSig_0 ha.1 q; rw [mLow_mLow _ ha.1] at q1; exact q1)))) (by decide) (by decide) (by decide) rfl (Nat.le_of_ble_eq_true rfl) (fun zr73 σ zh73 => ?_)
      obtain ⟨ze73, S1, hM, e25, hF⟩ := zh73
      rw [ze73]
      have hR := hR.sF hF (by decide)
      have hf := hR.1.2.2 j g hg
      refine g_lstore (ls' := [_, _, _, _, _, _, _, _, _, _]) dX11_fails_76 (by decide) rfl rfl ?_
      refine g_iload_n (i := 3) dX11_fails_78 rfl rfl ?_
      refine g_iconst (v := 5) dX11_fails_79 (by decide) ?_
      refine g_icmp_ne (tgt := 93) dX11_fails_80 (by decide) (fun zc80 => ?_) (fun zc80 => ?_)
      · refine g_aload_n (i := 0) dX11_fails_93 rfl rfl ?_
        refine g_iload_n (i := 1) dX11_fails_94 rfl rfl ?_
        refine g_iload dX11_fails_95 rfl ?_
        refine g_i2l dX11_fails_97 ?_
        refine g_aload_n (i := 0) dX11_fails_98 rfl rfl ?_
        refine gm_get hM (k := 4) dX11_fails_99 flX11_13 rfl ?_
        refine g_iload_n (i := 1) dX11_fails_102 rfl rfl ?_
        refine gm_iald hM dX11_fails_103 rfl (hJ) ?_
        refine g_toi (nI g.2.length) (by rw [hcj]; exact hf.2.1) ?_
        refine g_callVv (My := mX11_work) [_, _, _] dX11_fails_104 lkX11_236 mvX11_work rfl hM.1 rfl (c_X11_work hM hR hj hg hw _ (Nat.le_refl _)) (by decide) (by decide) (by decide) rfl (Nat.le_of_ble_eq_true rfl) (fun σ zh104 => ?_)
        obtain ⟨mk, hM, hmk⟩ := zh104
        have hR := hR.mk9 mk
        refine g_aload_n (i := 0) dX11_fails_107 rfl rfl ?_
        refine gm_get hM (k := 9) dX11_fails_108 flX11_29 rfl ?_
        refine g_aload_n (i := 0) dX11_fails_111 rfl rfl ?_
        refine gm_get hM (k := 4) dX11_fails_112 flX11_13 rfl ?_
        refine g_iload_n (i := 1) dX11_fails_115 rfl rfl ?_
        refine gm_iald hM dX11_fails_116 rfl (hJ) ?_
        refine g_toi (nI g.2.length) (by rw [hcj]; exact hf.2.1) ?_
        refine gm_lald hM dX11_fails_117 rfl ((vp_in_nI (show g.2.length < 13 by omega) (by decide) : vp_in (nI g.2.length) 13)) ?_
        refine g_tol (opA g.1 g.2 (nI v).toInt64 g.2.length g.2.length) (by rw [hcl]; exact hmk _ (Nat.le_refl _)) ?_
        refine g_lload dX11_fails_118 rfl ?_
        refine g_lcmp dX11_fails_120 ?_
        refine g_if_eq (tgt := 127) dX11_fails_121 (by decide) (fun zc121 => ?_) (fun zc121 => ?_)
        · first
          | exact next (fun z => z.1 ⟨zc80, bI_ne0.mp zc87⟩) _ _ _ hM hR
          | exact next (fun z => z.2 ((lg_cmp_eq _ _).mp zc121)) _ _ _ hM hR
        · refine g_iload dX11_fails_124 rfl ?_
          refine g_iret dX11_fails_126 rfl ?_
          have hb : fBad g sg ws d v := by
            refine ⟨?_, fun z => zc121 ((lg_cmp_eq _ _).mpr z)⟩
            first
            | exact fun z => zc80 z.1
            | exact fun z => bI_eq0.mp zc87 z.2
          rw [flp_t hb] at hp
          exact hp _ _ hM hR
      · refine g_aload_n (i := 0) dX11_fails_83 rfl rfl ?_
        refine gm_get hM (k := 25) dX11_fails_84 flX11_243 rfl ?_
        refine g_toi _ e25 ?_
        refine g_if_eq (tgt := 93) dX11_fails_87 (by decide) (fun zc87 => ?_) (fun zc87 => ?_)
        · refine g_aload_n (i := 0) dX11_fails_93 rfl rfl ?_
          refine g_iload_n (i := 1) dX11_fails_94 rfl rfl ?_
          refine g_iload dX11_fails_95 rfl ?_
          refine g_i2l dX11_fails_97 ?_
          refine g_aload_n (i := 0) dX11_fails_98 rfl rfl ?_
          refine gm_get hM (k := 4) dX11_fails_99 flX11_13 rfl ?_
          refine g_iload_n (i := 1) dX11_fails_102 rfl rfl ?_
          refine gm_iald hM dX11_fails_103 rfl (hJ) ?_
          refine g_toi (nI g.2.length) (by rw [hcj]; exact hf.2.1) ?_
          refine g_callVv (My := mX11_work) [_, _, _] dX11_fails_104 lkX11_236 mvX11_work rfl hM.1 rfl (c_X11_work hM hR hj hg hw _ (Nat.le_refl _)) (by decide) (by decide) (by decide) rfl (Nat.le_of_ble_eq_true rfl) (fun σ zh104 => ?_)
          obtain ⟨mk, hM, hmk⟩ := zh104
          have hR := hR.mk9 mk
          refine g_aload_n (i := 0) dX11_fails_107 rfl rfl ?_
          refine gm_get hM (k := 9) dX11_fails_108 flX11_29 rfl ?_
          refine g_aload_n (i := 0) dX11_fails_111 rfl rfl ?_
          refine gm_get hM (k := 4) dX11_fails_112 flX11_13 rfl ?_
          refine g_iload_n (i := 1) dX11_fails_115 rfl rfl ?_
          refine gm_iald hM dX11_fails_116 rfl (hJ) ?_
          refine g_toi (nI g.2.length) (by rw [hcj]; exact hf.2.1) ?_
          refine gm_lald hM dX11_fails_117 rfl ((vp_in_nI (show g.2.length < 13 by omega) (by decide) : vp_in (nI g.2.length) 13)) ?_
          refine g_tol (opA g.1 g.2 (nI v).toInt64 g.2.length g.2.length) (by rw [hcl]; exact hmk _ (Nat.le_refl _)) ?_
          refine g_lload dX11_fails_118 rfl ?_
          refine g_lcmp dX11_fails_120 ?_
          refine g_if_eq (tgt := 127) dX11_fails_121 (by decide) (fun zc121 => ?_) (fun zc121 => ?_)
          · first
            | exact next (fun z => z.1 ⟨zc80, bI_ne0.mp zc87⟩) _ _ _ hM hR
            | exact next (fun z => z.2 ((lg_cmp_eq _ _).mp zc121)) _ _ _ hM hR
          · refine g_iload dX11_fails_124 rfl ?_
            refine g_iret dX11_fails_126 rfl ?_
            have hb : fBad g sg ws d v := by
              refine ⟨?_, fun z => zc121 ((lg_cmp_eq _ _).mpr z)⟩
              first
              | exact fun z => zc80 z.1
              | exact fun z => bI_eq0.mp zc87 z.2
            rw [flp_t hb] at hp
            exact hp _ _ hM hR
        · refine g_goto (tgt := 127) dX11_fails_90 (by decide) ?_
          first
          | exact next (fun z => z.1 ⟨zc80, bI_ne0.mp zc87⟩) _ _ _ hM hR
          | exact next (fun z => z.2 ((lg_cmp_eq _ _).mp zc121)) _ _ _ hM hR
theorem c_X11_fails {σ : gH} {S : mS} (hM : Mm σ o ad S) (hR : RepM S A) (hw : wfA A) (f sg ws : Int32) (d : Int64) : Ct l mX11_fails 5 0 0 [.ref o, .int f, .int sg, .int ws, .long d] σ (pI (mP o ad (sFails A f sg ws d, A))) := by
  have h60 := hR.1.2.1
  refine Ct_of moX11_fails [some (.ref o), some (.int f), some (.int sg), some (.int ws), some (.long d), none, none, none, none, none] rfl (Nat.le_of_ble_eq_true rfl) ?_
  rcases aForm_cases A hR.1.2.1 f with ⟨hh, hn⟩ | ⟨j, g, hj, rfl, hg, ha⟩
  · have hv : sFails A f sg ws d = -1 := by simp only [sFails, hn]
    rw [hv]
    refine g_aload_n (i := 0) dX11_fails_0 rfl rfl ?_
    refine g_iload_n (i := 1) dX11_fails_1 rfl rfl ?_
    refine g_callVi (My := mX11_isForm) [_] dX11_fails_2 lkX11_164 mvX11_isForm rfl hM.1 rfl (c_X11_isForm hM hR _) (by decide) (by decide) (by decide) rfl (Nat.le_of_ble_eq_true rfl) (fun zr2 σ zh2 => ?_)
    obtain ⟨rfl, rfl⟩ := zh2
    refine g_if_eq (tgt := 36) dX11_fails_5 (by decide) (fun zc5 => ?_) (fun zc5 => ?_)
    · refine g_iconst (v := (-1)) dX11_fails_36 (by decide) ?_
      refine g_iret dX11_fails_37 rfl ?_
      exact ⟨_, rfl, rfl, S, hM, hR⟩
    · exact absurd (bI_ne0.mp zc5) (isF_no hn)
  · have hf := hR.1.2.2 j g hg
    have hcj : (nI j).toNatClampNeg = j := nI_clamp (by omega)
    have hJ : vp_in (nI j) 60 := vp_in_nI (by omega) (by decide)
    by_cases hc : ¬ 16 < g.1 ∧ mIsA g.1 sg ws d
    · have hv : sFails A (nI j) sg ws d = flp (fBad g sg ws d) (if g.1 = 8 then 256 else 65536) 0 := by
        simp only [sFails, ha]
        exact if_pos hc
      rw [hv]
      have hwd : g.1 = 8 ∨ g.1 = 16 := by
        rcases hc.2.1 with q | q | q | q
        · exact Or.inl q
        · exact Or.inr q
        · exact absurd (by rw [q]; decide) hc.1
        · exact absurd (by rw [q]; decide) hc.1
      have hMe : (1 : Int32) <<< (g.1 &&& 31) = nI (if g.1 = 8 then 256 else 65536) := by
        rcases hwd with q | q
        · rw [q]; decide
        · rw [q]; decide
      have hM31 : (if g.1 = 8 then 256 else 65536) ≤ 65536 := by split <;> omega
      refine g_aload_n (i := 0) dX11_fails_0 rfl rfl ?_
      refine g_iload_n (i := 1) dX11_fails_1 rfl rfl ?_
      refine g_callVi (My := mX11_isForm) [_] dX11_fails_2 lkX11_164 mvX11_isForm rfl hM.1 rfl (c_X11_isForm hM hR _) (by decide) (by decide) (by decide) rfl (Nat.le_of_ble_eq_true rfl) (fun zr2 σ zh2 => ?_)
      obtain ⟨rfl, rfl⟩ := zh2
      refine g_if_eq (tgt := 36) dX11_fails_5 (by decide) (fun zc5 => ?_) (fun zc5 => ?_)
      · exact absurd ⟨g, ha⟩ (bI_eq0.mp zc5)
      · refine g_aload_n (i := 0) dX11_fails_8 rfl rfl ?_
        refine gm_get hM (k := 3) dX11_fails_9 flX11_7 rfl ?_
        refine g_iload_n (i := 1) dX11_fails_12 rfl rfl ?_
        refine gm_iald hM dX11_fails_13 rfl (hJ) ?_
        refine g_toi g.1 (by rw [hcj]; exact hf.1) ?_
        refine g_bipush (v := 16) dX11_fails_14 (by decide) ?_
        refine g_icmp_gt (tgt := 36) dX11_fails_16 (by decide) (fun zc16 => ?_) (fun zc16 => ?_)
        · exact absurd zc16 hc.1
        · refine g_aload_n (i := 0) dX11_fails_19 rfl rfl ?_
          refine g_aload_n (i := 0) dX11_fails_20 rfl rfl ?_
          refine gm_get hM (k := 3) dX11_fails_21 flX11_7 rfl ?_
          refine g_iload_n (i := 1) dX11_fails_24 rfl rfl ?_
          refine gm_iald hM dX11_fails_25 rfl (hJ) ?_
          refine g_toi g.1 (by rw [hcj]; exact hf.1) ?_
          refine g_iload_n (i := 2) dX11_fails_26 rfl rfl ?_
          refine g_iload_n (i := 3) dX11_fails_27 rfl rfl ?_
          refine g_lload dX11_fails_28 rfl ?_
          refine g_callVi (My := mX11_isAsking) [_, _, _, _] dX11_fails_30 lkX11_222 mvX11_isAsking rfl hM.1 rfl (c_X11_isAsking hM _ _ _ _) (by decide) (by decide) (by decide) rfl (Nat.le_of_ble_eq_true rfl) (fun zr30 σ zh30 => ?_)
          obtain ⟨rfl, rfl⟩ := zh30
          refine g_if_ne (tgt := 38) dX11_fails_33 (by decide) (fun zc33 => ?_) (fun zc33 => ?_)
          · refine g_aload_n (i := 0) dX11_fails_38 rfl rfl ?_
            refine gm_get hM (k := 3) dX11_fails_39 flX11_7 rfl ?_
            refine g_iload_n (i := 1) dX11_fails_42 rfl rfl ?_
            refine gm_iald hM dX11_fails_43 rfl (hJ) ?_
            refine g_toi g.1 (by rw [hcj]; exact hf.1) ?_
            refine g_istore (ls' := [_, _, _, _, _, _, _, _, _, _]) dX11_fails_44 (by decide) rfl rfl ?_
            refine g_iconst (v := 0) dX11_fails_46 (by decide) ?_
            refine g_istore (ls' := [_, _, _, _, _, _, _, _, _, _]) dX11_fails_47 (by decide) rfl rfl ?_
            exact lp_X11_fails hj h60 hg (hw j g hg) sg ws d hc.2 _ hM31 hMe _ 0 σ S none (by omega) hM hR (fun σ' S' m1 m2 => ⟨_, rfl, rfl, S', m1, m2⟩)
          · exact absurd hc.2 (bI_eq0.mp zc33)
    · have hv : sFails A (nI j) sg ws d = -1 := by
        simp only [sFails, ha]
        exact if_neg hc
      rw [hv]
      refine g_aload_n (i := 0) dX11_fails_0 rfl rfl ?_
      refine g_iload_n (i := 1) dX11_fails_1 rfl rfl ?_
      refine g_callVi (My := mX11_isForm) [_] dX11_fails_2 lkX11_164 mvX11_isForm rfl hM.1 rfl (c_X11_isForm hM hR _) (by decide) (by decide) (by decide) rfl (Nat.le_of_ble_eq_true rfl) (fun zr2 σ zh2 => ?_)
      obtain ⟨rfl, rfl⟩ := zh2
      refine g_if_eq (tgt := 36) dX11_fails_5 (by decide) (fun zc5 => ?_) (fun zc5 => ?_)
      · refine g_iconst (v := (-1)) dX11_fails_36 (by decide) ?_
        refine g_iret dX11_fails_37 rfl ?_
        exact ⟨_, rfl, rfl, S, hM, hR⟩
      · refine g_aload_n (i := 0) dX11_fails_8 rfl rfl ?_
        refine gm_get hM (k := 3) dX11_fails_9 flX11_7 rfl ?_
        refine g_iload_n (i := 1) dX11_fails_12 rfl rfl ?_
        refine gm_iald hM dX11_fails_13 rfl (hJ) ?_
        refine g_toi g.1 (by rw [hcj]; exact hf.1) ?_
        refine g_bipush (v := 16) dX11_fails_14 (by decide) ?_
        refine g_icmp_gt (tgt := 36) dX11_fails_16 (by decide) (fun zc16 => ?_) (fun zc16 => ?_)
        · refine g_iconst (v := (-1)) dX11_fails_36 (by decide) ?_
          refine g_iret dX11_fails_37 rfl ?_
          exact ⟨_, rfl, rfl, S, hM, hR⟩
        · refine g_aload_n (i := 0) dX11_fails_19 rfl rfl ?_
          refine g_aload_n (i := 0) dX11_fails_20 rfl rfl ?_
          refine gm_get hM (k := 3) dX11_fails_21 flX11_7 rfl ?_
          refine g_iload_n (i := 1) dX11_fails_24 rfl rfl ?_
          refine gm_iald hM dX11_fails_25 rfl (hJ) ?_
          refine g_toi g.1 (by rw [hcj]; exact hf.1) ?_
          refine g_iload_n (i := 2) dX11_fails_26 rfl rfl ?_
          refine g_iload_n (i := 3) dX11_fails_27 rfl rfl ?_
          refine g_lload dX11_fails_28 rfl ?_
          refine g_callVi (My := mX11_isAsking) [_, _, _, _] dX11_fails_30 lkX11_222 mvX11_isAsking rfl hM.1 rfl (c_X11_isAsking hM _ _ _ _) (by decide) (by decide) (by decide) rfl (Nat.le_of_ble_eq_true rfl) (fun zr30 σ zh30 => ?_)
          obtain ⟨rfl, rfl⟩ := zh30
          refine g_if_ne (tgt := 38) dX11_fails_33 (by decide) (fun zc33 => ?_) (fun zc33 => ?_)
          · exact absurd ⟨zc16, bI_ne0.mp zc33⟩ hc
          · refine g_iconst (v := (-1)) dX11_fails_36 (by decide) ?_
            refine g_iret dX11_fails_37 rfl ?_
            exact ⟨_, rfl, rfl, S, hM, hR⟩
end CMfails
