/-! the reference: hook() whole -/
theorem uJ_id (S : mS) (k : Nat) : uJ S k (S.2.2.2 k) = S := by
  unfold uJ
  have e : va_up S.2.2.2 k (S.2.2.2 k) = S.2.2.2 := by
    funext q
    by_cases e : q = k
    · subst e; rw [va_up_self]
    · rw [va_up_ne _ _ e]
  rw [e]
theorem ix100z (j : Nat) : (100 : Int32) * nI j = nI (100 * j) := by
  rw [show (100 : Int32) = nI 100 from rfl, pk_mul]
section CMhook2
variable {l : Launch} {o : Nat} {ad : Nat → Nat} {S : mS} {A : aA} {σ : gH}
theorem c_X11_hook (hM : Mm σ o ad S) (hR : RepM S A) (hw : wfA A) (h kind f k : Int32) : Ct l mX11_hook 5 0 0 [.ref o, .int h, .int kind, .int f, .int k] σ (pI (mP o ad (sHook A h kind f k))) := by
  have h60 := hR.1.2.1
  refine Ct_of moX11_hook [some (.ref o), some (.int h), some (.int kind), some (.int f), some (.int k), none, none, none, none] rfl (Nat.le_of_ble_eq_true rfl) ?_
  by_cases hh : (¬ h < 0 ∧ h < 8) ∧ ¬ kind < 0 ∧ kind ≤ 5
  · obtain ⟨hj, hj8, rfl⟩ := ix8 hh.1
    have hch : (nI hj).toNatClampNeg = hj := nI_clamp (by omega)
    have hH : vp_in (nI hj) 58 := vp_in_nI (by omega) (by decide)
    by_cases hk0 : kind ≤ 0
    · have hv : sHook A (nI hj) kind f k = ((A.2.2.2.1 hj).1, aSetHk (aNote A (5, hj, 0, 0, A.2.2.2.1 hj)) hj (kind, [])) := by
        unfold sHook
        rw [if_pos hh, if_pos hk0, hch]
      rw [hv]
      have fin : G l mX11_hook 5 0 0 (pI (mP o ad ((A.2.2.2.1 hj).1, aSetHk (aNote A (5, hj, 0, 0, A.2.2.2.1 hj)) hj (kind, [])))) σ 64 [some (.ref o), some (.int (nI hj)), some (.int kind), some (.int f), some (.int k), none, none, none, none] [] := by
        refine t64_X11_hook (S := S) hM hR hj8 kind f k (fun σ S1 hM hR1 => ?_)
        have hfin := hookFin (S2 := uI (uI S1 15 (upd (S1.2.2.1 15) hj kind)) 16 (upd (S1.2.2.1 16) hj 0)) hR1 hj8 kind [] (by decide) rfl (fun q hq => by
          simp only [List.mem_cons, List.not_mem_nil, or_false] at hq
          rcases hq with rfl | rfl | rfl | rfl | rfl | rfl | rfl | rfl <;> rfl) (fun q hq => rfl) (fun j => rfl) (fun j => rfl) (fun q hq => rfl) (fun i v hv => by simp at hv)
        have hk1 : ¬ kind = 1 := fun z => by (rw [z] at hk0; exact absurd hk0 (by decide))
        have hk2 : kind ≤ 1 := Int32.le_trans hk0 (by decide)
        refine g_iload_n (i := 2) dX11_hook_108 rfl rfl ?_
        refine g_iconst (v := 1) dX11_hook_109 (by decide) ?_
        refine g_icmp_ne (tgt := 168) dX11_hook_110 (by decide) (fun zc110 => ?_) (fun zc110 => ?_)
        · refine g_iload_n (i := 2) dX11_hook_168 rfl rfl ?_
          refine g_iconst (v := 1) dX11_hook_169 (by decide) ?_
          refine g_icmp_le (tgt := 269) dX11_hook_170 (by decide) (fun zc170 => ?_) (fun zc170 => ?_)
          · refine g_iload dX11_hook_269 rfl ?_
            refine g_iret dX11_hook_271 rfl ?_
            exact ⟨_, rfl, rfl, _, hM, hfin⟩
          · exact absurd hk2 zc170
        · exact absurd zc110 hk1
      refine g_iload_n (i := 1) dX11_hook_0 rfl rfl ?_
      refine g_callSi (My := mX11_isHook) [_] dX11_hook_1 lkX11_295 mvX11_isHook rfl (c_X11_isHook _) (by decide) (by decide) (by decide) rfl (Nat.le_of_ble_eq_true rfl) (fun zr1 σ zh1 => ?_)
      obtain ⟨rfl, rfl⟩ := zh1
      refine g_if_eq (tgt := 16) dX11_hook_4 (by decide) (fun zc4 => ?_) (fun zc4 => ?_)
      · exact absurd hh.1 (bI_eq0.mp zc4)
      · refine g_iload_n (i := 2) dX11_hook_7 rfl rfl ?_
        refine g_if_lt (tgt := 16) dX11_hook_8 (by decide) (fun zc8 => ?_) (fun zc8 => ?_)
        · exact absurd zc8 hh.2.1
        · refine g_iload_n (i := 2) dX11_hook_11 rfl rfl ?_
          refine g_iconst (v := 5) dX11_hook_12 (by decide) ?_
          refine g_icmp_le (tgt := 18) dX11_hook_13 (by decide) (fun zc13 => ?_) (fun zc13 => ?_)
          · refine g_iload_n (i := 2) dX11_hook_18 rfl rfl ?_
            refine g_if_le (tgt := 64) dX11_hook_19 (by decide) (fun zc19 => ?_) (fun zc19 => ?_)
            · exact fin
            · exact absurd hk0 zc19
          · exact absurd hh.2.2 zc13
    · by_cases hf : ∃ g, aForm A f = some g ∧ (¬ k < 0 ∧ ¬ nI g.2.length < k) ∧ ¬ (kind = 1 ∧ k = nI g.2.length)
      · obtain ⟨g, ha, ⟨hk1, hk2⟩, hk3⟩ := hf
        obtain ⟨j, hjl, rfl, hg⟩ : ∃ j, j < A.1.length ∧ f = nI j ∧ A.1[j]? = some g := by
          rcases aForm_cases A h60 f with ⟨-, hn⟩ | ⟨j, g', q1, q2, q3, q4⟩
          · rw [hn] at ha; cases ha
          · rw [q4] at ha; cases ha; exact ⟨j, q1, q2, q3⟩
        have hwg := hw j g hg
        have h12 := hwg.2.1
        obtain ⟨m, hm, rfl⟩ := ixle g.2.length (by omega) hk1 (Int32.not_lt.mp hk2)
        have hcm : (nI m).toNatClampNeg = m := nI_clamp (by omega)
        have hcj : (nI j).toNatClampNeg = j := nI_clamp (by omega)
        have hJ : vp_in (nI j) 60 := vp_in_nI (by omega) (by decide)
        obtain ⟨B, hB⟩ : ∃ B : List Int64, B = if kind = 1 then (match g.2[m]? with
          | some s => [s.1.toInt64, s.2.2]
          | none => []) else aRow g kind (nI j) m := ⟨_, rfl⟩
        have hv : sHook A (nI hj) kind (nI j) (nI m) = ((A.2.2.2.1 hj).1, aSetHk (aNote A (5, hj, 0, 0, A.2.2.2.1 hj)) hj (kind, B)) := by
          unfold sHook
          rw [if_pos hh, if_neg hk0]
          simp only [ha]
          rw [if_pos ⟨⟨hk1, hk2⟩, hk3⟩, hch, hcm, hB]
          rfl
        rw [hv]
        have fin : G l mX11_hook 5 0 0 (pI (mP o ad ((A.2.2.2.1 hj).1, aSetHk (aNote A (5, hj, 0, 0, A.2.2.2.1 hj)) hj (kind, B)))) σ 64 [some (.ref o), some (.int (nI hj)), some (.int kind), some (.int (nI j)), some (.int (nI m)), none, none, none, none] [] := by
          refine t64_X11_hook (S := S) hM hR hj8 kind (nI j) (nI m) (fun σ S1 hM hR1 => ?_)
          have hf1 := hR1.1.2.2 j g hg
          by_cases hkd : kind = 1
          · subst hkd
            have hml : m < g.2.length := by
              rcases Nat.lt_or_ge m g.2.length with z | z
              · exact z
              · exact absurd ⟨rfl, by rw [Nat.le_antisymm hm z]⟩ hk3
            obtain ⟨s, hs⟩ : ∃ s, g.2[m]? = some s := ⟨_, List.getElem?_eq_getElem hml⟩
            obtain ⟨t5, t6, t7⟩ := hf1.2.2.2 m s hs
            have hBs : B = [s.1.toInt64, s.2.2] := by rw [hB, if_pos rfl, hs]
            rw [hBs]
            have hcl : (nI (12 * j + m)).toNatClampNeg = 12 * j + m := nI_clamp (by omega)
            have hc1 : (nI (100 * hj)).toNatClampNeg = 100 * hj := nI_clamp (by omega)
            have hc2 : (nI (100 * hj + 1)).toNatClampNeg = 100 * hj + 1 := nI_clamp (by omega)
            have hI : vp_in (nI (12 * j + m)) 720 := vp_in_nI (by omega) (by decide)
            refine g_iload_n (i := 2) dX11_hook_108 rfl rfl ?_
            refine g_iconst (v := 1) dX11_hook_109 (by decide) ?_
            refine g_icmp_ne (tgt := 168) dX11_hook_110 (by decide) (fun zc110 => ?_) (fun zc110 => ?_)
            · exact absurd rfl zc110
            · refine g_aload_n (i := 0) dX11_hook_113 rfl rfl ?_
              refine gm_get hM (k := 16) dX11_hook_114 flX11_47 rfl ?_
              refine g_iload_n (i := 1) dX11_hook_117 rfl rfl ?_
              refine g_iconst (v := 2) dX11_hook_118 (by decide) ?_
              refine gm_iast hM dX11_hook_119 rfl (hH) (fun σ hM => ?_)
              refine g_aload_n (i := 0) dX11_hook_120 rfl rfl ?_
              refine gm_get hM (k := 17) dX11_hook_121 flX11_50 rfl ?_
              refine g_bipush (v := 100) dX11_hook_124 (by decide) ?_
              refine g_iload_n (i := 1) dX11_hook_126 rfl rfl ?_
              refine g_imul dX11_hook_127 ?_
              rw [ix100z]
              refine g_aload_n (i := 0) dX11_hook_128 rfl rfl ?_
              refine gm_get hM (k := 5) dX11_hook_129 flX11_16 rfl ?_
              refine g_bipush (v := 12) dX11_hook_132 (by decide) ?_
              refine g_iload_n (i := 3) dX11_hook_134 rfl rfl ?_
              refine g_imul dX11_hook_135 ?_
              refine g_iload dX11_hook_136 rfl ?_
              refine g_iadd dX11_hook_138 ?_
              rw [ix12]
              refine gm_iald hM dX11_hook_139 rfl (hI) ?_
              refine g_toi s.1 (by rw [hcl]; exact t5) ?_
              refine g_i2l dX11_hook_140 ?_
              refine gm_last hM dX11_hook_141 rfl ((vp_in_nI (show 100 * hj < 5800 by omega) (by decide) : vp_in (nI (100 * hj)) 5800)) (fun σ hM => ?_)
              refine g_aload_n (i := 0) dX11_hook_142 rfl rfl ?_
              refine gm_get hM (k := 17) dX11_hook_143 flX11_50 rfl ?_
              refine g_bipush (v := 100) dX11_hook_146 (by decide) ?_
              refine g_iload_n (i := 1) dX11_hook_148 rfl rfl ?_
              refine g_imul dX11_hook_149 ?_
              rw [ix100z]
              refine g_iconst (v := 1) dX11_hook_150 (by decide) ?_
              refine g_iadd dX11_hook_151 ?_
              rw [nI_1]
              refine g_aload_n (i := 0) dX11_hook_152 rfl rfl ?_
              refine gm_get hM (k := 7) dX11_hook_153 flX11_22 rfl ?_
              refine g_bipush (v := 12) dX11_hook_156 (by decide) ?_
              refine g_iload_n (i := 3) dX11_hook_158 rfl rfl ?_
              refine g_imul dX11_hook_159 ?_
              refine g_iload dX11_hook_160 rfl ?_
              refine g_iadd dX11_hook_162 ?_
              rw [ix12]
              refine gm_lald hM dX11_hook_163 rfl (hI) ?_
              refine g_tol s.2.2 (by rw [hcl]; exact t7) ?_
              refine gm_last hM dX11_hook_164 rfl ((vp_in_nI (show 100 * hj + 1 < 5800 by omega) (by decide) : vp_in (nI (100 * hj + 1)) 5800)) (fun σ hM => ?_)
              refine g_goto (tgt := 269) dX11_hook_165 (by decide) ?_
              refine g_iload dX11_hook_269 rfl ?_
              refine g_iret dX11_hook_271 rfl ?_
              rw [hch, hc1, hc2] at hM
              refine ⟨_, rfl, rfl, _, hM, hookFin hR1 hj8 1 _ (Nat.le_of_ble_eq_true rfl) rfl (fun q hq => ?_) (fun q hq => ?_) (fun j => rfl) (fun q => ?_) (fun q hq => ?_) (fun i v hv => ?_)⟩
              · simp only [List.mem_cons, List.not_mem_nil, or_false] at hq
                rcases hq with rfl | rfl | rfl | rfl | rfl | rfl | rfl | rfl <;> rfl
              · simp only [List.mem_cons, List.not_mem_nil, or_false] at hq
                rcases hq with rfl | rfl | rfl <;> rfl
              · show upd (upd _ hj 0) hj 2 q = _
                by_cases e : q = hj
                · subst e; rw [pk_us, if_pos rfl]; rfl
                · rw [pk_un e, pk_un e, if_neg e]
              · show vp_updL (vp_updL _ _ _) _ _ q = _
                rw [pk_uLn (by omega), pk_uLn (by omega)]
                rfl
              · show vp_updL (vp_updL _ _ _) _ _ (100 * hj + i) = _
                match i, hv with
                | 0, hv => cases hv; rw [pk_uLn (by omega), show 100 * hj + 0 = 100 * hj from rfl, pk_uLs]
                | 1, hv => cases hv; rw [pk_uLs]
                | i + 2, hv => simp at hv
          · have hk1' : ¬ kind ≤ 1 := by
              intro z
              rcases i01 hh.2.1 (Int32.not_lt.mpr z) with q | q
              · exact hk0 (by rw [q]; decide)
              · exact hkd q
            have hR2 := hookFin (S2 := uI (uI S1 15 (upd (S1.2.2.1 15) hj kind)) 16 (upd (S1.2.2.1 16) hj 0)) hR1 hj8 kind [] (by decide) rfl (fun q hq => by
              simp only [List.mem_cons, List.not_mem_nil, or_false] at hq
              rcases hq with rfl | rfl | rfl | rfl | rfl | rfl | rfl | rfl <;> rfl) (fun q hq => rfl) (fun j => rfl) (fun j => rfl) (fun q hq => rfl) (fun i v hv => by simp at hv)
            refine g_iload_n (i := 2) dX11_hook_108 rfl rfl ?_
            refine g_iconst (v := 1) dX11_hook_109 (by decide) ?_
            refine g_icmp_ne (tgt := 168) dX11_hook_110 (by decide) (fun zc110 => ?_) (fun zc110 => ?_)
            · refine g_iload_n (i := 2) dX11_hook_168 rfl rfl ?_
              refine g_iconst (v := 1) dX11_hook_169 (by decide) ?_
              refine g_icmp_le (tgt := 269) dX11_hook_170 (by decide) (fun zc170 => ?_) (fun zc170 => ?_)
              · exact absurd zc170 hk1'
              · refine g_aload_n (i := 0) dX11_hook_173 rfl rfl ?_
                refine g_iload_n (i := 3) dX11_hook_174 rfl rfl ?_
                refine g_iload_n (i := 3) dX11_hook_175 rfl rfl ?_
                refine g_i2l dX11_hook_176 ?_
                refine g_iload dX11_hook_177 rfl ?_
                refine g_callVv (My := mX11_work) [_, _, _] dX11_hook_179 lkX11_236 mvX11_work rfl hM.1 rfl (c_X11_work hM hR2 hjl hg hwg _ hm) (by decide) (by decide) (by decide) rfl (Nat.le_of_ble_eq_true rfl) (fun σ zh179 => ?_)
                obtain ⟨mk, hM, hmk⟩ := zh179
                refine g_aload_n (i := 0) dX11_hook_182 rfl rfl ?_
                refine gm_get hM (k := 16) dX11_hook_183 flX11_47 rfl ?_
                refine g_iload_n (i := 1) dX11_hook_186 rfl rfl ?_
                refine g_iload dX11_hook_187 rfl ?_
                refine gm_iast hM dX11_hook_189 rfl (hH) (fun σ hM => ?_)
                refine g_iconst (v := 0) dX11_hook_190 (by decide) ?_
                refine g_istore (ls' := [_, _, _, _, _, _, _, _, _]) dX11_hook_191 (by decide) rfl rfl ?_
                rw [hch] at hM
                have hM3 : Mm σ o ad (uJ (uI (uJ (uI (uI S1 15 (upd (S1.2.2.1 15) hj kind)) 16 (upd (S1.2.2.1 16) hj 0)) 9 mk) 16 (upd (upd (S1.2.2.1 16) hj 0) hj (nI m))) 17 (S1.2.2.2 17)) := by
                  have e : uJ (uI (uJ (uI (uI S1 15 (upd (S1.2.2.1 15) hj kind)) 16 (upd (S1.2.2.1 16) hj 0)) 9 mk) 16 (upd (upd (S1.2.2.1 16) hj 0) hj (nI m))) 17 (S1.2.2.2 17) = (uI (uJ (uI (uI S1 15 (upd (S1.2.2.1 15) hj kind)) 16 (upd (S1.2.2.1 16) hj 0)) 9 mk) 16 (upd (upd (S1.2.2.1 16) hj 0) hj (nI m))) := uJ_id _ 17
                  rw [e]
                  exact hM
                refine lp_X11_hook (S1 := S1) (A1 := aNote A (5, hj, 0, 0, A.2.2.2.1 hj)) hR1 hj8 kind hk1' (nI j) _ m (by omega) mk (S3 := uI (uJ (uI (uI S1 15 (upd (S1.2.2.1 15) hj kind)) 16 (upd (S1.2.2.1 16) hj 0)) 9 mk) 16 (upd (upd (S1.2.2.1 16) hj 0) hj (nI m))) rfl (fun q hq => ?_) (fun q hq => ?_) (fun q => rfl) (fun q => ?_) rfl rfl ?_ m 0 _ σ none (by omega) hM3 (fun q hq => rfl) (fun q hq => absurd hq (Nat.not_lt_zero _))
                · simp only [List.mem_cons, List.not_mem_nil, or_false] at hq
                  rcases hq with rfl | rfl | rfl | rfl | rfl | rfl | rfl | rfl <;> rfl
                · simp only [List.mem_cons, List.not_mem_nil, or_false] at hq
                  rcases hq with rfl | rfl | rfl <;> rfl
                · show upd (upd _ hj 0) hj (nI m) q = _
                  by_cases e : q = hj
                  · subst e; rw [pk_us, if_pos rfl]
                  · rw [pk_un e, pk_un e, if_neg e]
                · intro σ' S2 hM2 hR3
                  refine ⟨_, rfl, rfl, S2, hM2, ?_⟩
                  have hBr : B = (List.range m).map (fun i => aNar kind (mk (i + 1))) := by
                    rw [hB, if_neg hkd]
                    unfold aRow
                    refine List.map_congr_left (fun i hi => ?_)
                    rw [List.mem_range] at hi
                    rw [hmk (i + 1) (by omega)]
                  rw [hBr]
                  exact hR3
            · exact absurd zc110 hkd
        refine g_iload_n (i := 1) dX11_hook_0 rfl rfl ?_
        refine g_callSi (My := mX11_isHook) [_] dX11_hook_1 lkX11_295 mvX11_isHook rfl (c_X11_isHook _) (by decide) (by decide) (by decide) rfl (Nat.le_of_ble_eq_true rfl) (fun zr1 σ zh1 => ?_)
        obtain ⟨rfl, rfl⟩ := zh1
        refine g_if_eq (tgt := 16) dX11_hook_4 (by decide) (fun zc4 => ?_) (fun zc4 => ?_)
        · exact absurd hh.1 (bI_eq0.mp zc4)
        · refine g_iload_n (i := 2) dX11_hook_7 rfl rfl ?_
          refine g_if_lt (tgt := 16) dX11_hook_8 (by decide) (fun zc8 => ?_) (fun zc8 => ?_)
          · exact absurd zc8 hh.2.1
          · refine g_iload_n (i := 2) dX11_hook_11 rfl rfl ?_
            refine g_iconst (v := 5) dX11_hook_12 (by decide) ?_
            refine g_icmp_le (tgt := 18) dX11_hook_13 (by decide) (fun zc13 => ?_) (fun zc13 => ?_)
            · refine g_iload_n (i := 2) dX11_hook_18 rfl rfl ?_
              refine g_if_le (tgt := 64) dX11_hook_19 (by decide) (fun zc19 => ?_) (fun zc19 => ?_)
              · exact absurd zc19 hk0
              · refine g_aload_n (i := 0) dX11_hook_22 rfl rfl ?_
                refine g_iload_n (i := 3) dX11_hook_23 rfl rfl ?_
                refine g_callVi (My := mX11_isForm) [_] dX11_hook_24 lkX11_164 mvX11_isForm rfl hM.1 rfl (c_X11_isForm hM hR _) (by decide) (by decide) (by decide) rfl (Nat.le_of_ble_eq_true rfl) (fun zr24 σ zh24 => ?_)
                obtain ⟨rfl, rfl⟩ := zh24
                refine g_if_eq (tgt := 62) dX11_hook_27 (by decide) (fun zc27 => ?_) (fun zc27 => ?_)
                · exact absurd ⟨g, ha⟩ (bI_eq0.mp zc27)
                · refine g_iload dX11_hook_30 rfl ?_
                  refine g_if_lt (tgt := 62) dX11_hook_32 (by decide) (fun zc32 => ?_) (fun zc32 => ?_)
                  · exact absurd zc32 hk1
                  · refine g_iload dX11_hook_35 rfl ?_
                    refine g_aload_n (i := 0) dX11_hook_37 rfl rfl ?_
                    refine gm_get hM (k := 4) dX11_hook_38 flX11_13 rfl ?_
                    refine g_iload_n (i := 3) dX11_hook_41 rfl rfl ?_
                    refine gm_iald hM dX11_hook_42 rfl (hJ) ?_
                    refine g_toi (nI g.2.length) (by rw [hcj]; exact (hR.1.2.2 j g hg).2.1) ?_
                    refine g_icmp_gt (tgt := 62) dX11_hook_43 (by decide) (fun zc43 => ?_) (fun zc43 => ?_)
                    · exact absurd zc43 hk2
                    · refine g_iload_n (i := 2) dX11_hook_46 rfl rfl ?_
                      refine g_iconst (v := 1) dX11_hook_47 (by decide) ?_
                      refine g_icmp_ne (tgt := 64) dX11_hook_48 (by decide) (fun zc48 => ?_) (fun zc48 => ?_)
                      · exact fin
                      · refine g_iload dX11_hook_51 rfl ?_
                        refine g_aload_n (i := 0) dX11_hook_53 rfl rfl ?_
                        refine gm_get hM (k := 4) dX11_hook_54 flX11_13 rfl ?_
                        refine g_iload_n (i := 3) dX11_hook_57 rfl rfl ?_
                        refine gm_iald hM dX11_hook_58 rfl (hJ) ?_
                        refine g_toi (nI g.2.length) (by rw [hcj]; exact (hR.1.2.2 j g hg).2.1) ?_
                        refine g_icmp_ne (tgt := 64) dX11_hook_59 (by decide) (fun zc59 => ?_) (fun zc59 => ?_)
                        · exact fin
                        · exact absurd ⟨zc48, zc59⟩ hk3
            · exact absurd hh.2.2 zc13
      · have hv : sHook A (nI hj) kind f k = (-1, A) := by
          unfold sHook
          rw [if_pos hh, if_neg hk0]
          cases hc : aForm A f with
          | none => rfl
          | some g => exact if_neg (fun z => hf ⟨g, hc, z⟩)
        rw [hv]
        rcases aForm_cases A hR.1.2.1 f with ⟨-, hn⟩ | ⟨j, g, hjl, rfl, hg, ha⟩
        · refine g_iload_n (i := 1) dX11_hook_0 rfl rfl ?_
          refine g_callSi (My := mX11_isHook) [_] dX11_hook_1 lkX11_295 mvX11_isHook rfl (c_X11_isHook _) (by decide) (by decide) (by decide) rfl (Nat.le_of_ble_eq_true rfl) (fun zr1 σ zh1 => ?_)
          obtain ⟨rfl, rfl⟩ := zh1
          refine g_if_eq (tgt := 16) dX11_hook_4 (by decide) (fun zc4 => ?_) (fun zc4 => ?_)
          · refine g_iconst (v := (-1)) dX11_hook_16 (by decide) ?_
            refine g_iret dX11_hook_17 rfl ?_
            exact ⟨_, rfl, rfl, S, hM, hR⟩
          · refine g_iload_n (i := 2) dX11_hook_7 rfl rfl ?_
            refine g_if_lt (tgt := 16) dX11_hook_8 (by decide) (fun zc8 => ?_) (fun zc8 => ?_)
            · refine g_iconst (v := (-1)) dX11_hook_16 (by decide) ?_
              refine g_iret dX11_hook_17 rfl ?_
              exact ⟨_, rfl, rfl, S, hM, hR⟩
            · refine g_iload_n (i := 2) dX11_hook_11 rfl rfl ?_
              refine g_iconst (v := 5) dX11_hook_12 (by decide) ?_
              refine g_icmp_le (tgt := 18) dX11_hook_13 (by decide) (fun zc13 => ?_) (fun zc13 => ?_)
              · refine g_iload_n (i := 2) dX11_hook_18 rfl rfl ?_
                refine g_if_le (tgt := 64) dX11_hook_19 (by decide) (fun zc19 => ?_) (fun zc19 => ?_)
                · exact absurd zc19 hk0
                · refine g_aload_n (i := 0) dX11_hook_22 rfl rfl ?_
                  refine g_iload_n (i := 3) dX11_hook_23 rfl rfl ?_
                  refine g_callVi (My := mX11_isForm) [_] dX11_hook_24 lkX11_164 mvX11_isForm rfl hM.1 rfl (c_X11_isForm hM hR _) (by decide) (by decide) (by decide) rfl (Nat.le_of_ble_eq_true rfl) (fun zr24 σ zh24 => ?_)
                  obtain ⟨rfl, rfl⟩ := zh24
                  refine g_if_eq (tgt := 62) dX11_hook_27 (by decide) (fun zc27 => ?_) (fun zc27 => ?_)
                  · refine g_iconst (v := (-1)) dX11_hook_62 (by decide) ?_
                    refine g_iret dX11_hook_63 rfl ?_
                    exact ⟨_, rfl, rfl, S, hM, hR⟩
                  · exact absurd (bI_ne0.mp zc27) (isF_no hn)
              · refine g_iconst (v := (-1)) dX11_hook_16 (by decide) ?_
                refine g_iret dX11_hook_17 rfl ?_
                exact ⟨_, rfl, rfl, S, hM, hR⟩
        · have hcj : (nI j).toNatClampNeg = j := nI_clamp (by omega)
          have hJ : vp_in (nI j) 60 := vp_in_nI (by omega) (by decide)
          refine g_iload_n (i := 1) dX11_hook_0 rfl rfl ?_
          refine g_callSi (My := mX11_isHook) [_] dX11_hook_1 lkX11_295 mvX11_isHook rfl (c_X11_isHook _) (by decide) (by decide) (by decide) rfl (Nat.le_of_ble_eq_true rfl) (fun zr1 σ zh1 => ?_)
          obtain ⟨rfl, rfl⟩ := zh1
          refine g_if_eq (tgt := 16) dX11_hook_4 (by decide) (fun zc4 => ?_) (fun zc4 => ?_)
          · refine g_iconst (v := (-1)) dX11_hook_16 (by decide) ?_
            refine g_iret dX11_hook_17 rfl ?_
            exact ⟨_, rfl, rfl, S, hM, hR⟩
          · refine g_iload_n (i := 2) dX11_hook_7 rfl rfl ?_
            refine g_if_lt (tgt := 16) dX11_hook_8 (by decide) (fun zc8 => ?_) (fun zc8 => ?_)
            · refine g_iconst (v := (-1)) dX11_hook_16 (by decide) ?_
              refine g_iret dX11_hook_17 rfl ?_
              exact ⟨_, rfl, rfl, S, hM, hR⟩
            · refine g_iload_n (i := 2) dX11_hook_11 rfl rfl ?_
              refine g_iconst (v := 5) dX11_hook_12 (by decide) ?_
              refine g_icmp_le (tgt := 18) dX11_hook_13 (by decide) (fun zc13 => ?_) (fun zc13 => ?_)
              · refine g_iload_n (i := 2) dX11_hook_18 rfl rfl ?_
                refine g_if_le (tgt := 64) dX11_hook_19 (by decide) (fun zc19 => ?_) (fun zc19 => ?_)
                · exact absurd zc19 hk0
                · refine g_aload_n (i := 0) dX11_hook_22 rfl rfl ?_
                  refine g_iload_n (i := 3) dX11_hook_23 rfl rfl ?_
                  refine g_callVi (My := mX11_isForm) [_] dX11_hook_24 lkX11_164 mvX11_isForm rfl hM.1 rfl (c_X11_isForm hM hR _) (by decide) (by decide) (by decide) rfl (Nat.le_of_ble_eq_true rfl) (fun zr24 σ zh24 => ?_)
                  obtain ⟨rfl, rfl⟩ := zh24
                  refine g_if_eq (tgt := 62) dX11_hook_27 (by decide) (fun zc27 => ?_) (fun zc27 => ?_)
                  · refine g_iconst (v := (-1)) dX11_hook_62 (by decide) ?_
                    refine g_iret dX11_hook_63 rfl ?_
                    exact ⟨_, rfl, rfl, S, hM, hR⟩
                  · refine g_iload dX11_hook_30 rfl ?_
                    refine g_if_lt (tgt := 62) dX11_hook_32 (by decide) (fun zc32 => ?_) (fun zc32 => ?_)
                    · refine g_iconst (v := (-1)) dX11_hook_62 (by decide) ?_
                      refine g_iret dX11_hook_63 rfl ?_
                      exact ⟨_, rfl, rfl, S, hM, hR⟩
                    · refine g_iload dX11_hook_35 rfl ?_
                      refine g_aload_n (i := 0) dX11_hook_37 rfl rfl ?_
                      refine gm_get hM (k := 4) dX11_hook_38 flX11_13 rfl ?_
                      refine g_iload_n (i := 3) dX11_hook_41 rfl rfl ?_
                      refine gm_iald hM dX11_hook_42 rfl (hJ) ?_
                      refine g_toi (nI g.2.length) (by rw [hcj]; exact (hR.1.2.2 j g hg).2.1) ?_
                      refine g_icmp_gt (tgt := 62) dX11_hook_43 (by decide) (fun zc43 => ?_) (fun zc43 => ?_)
                      · refine g_iconst (v := (-1)) dX11_hook_62 (by decide) ?_
                        refine g_iret dX11_hook_63 rfl ?_
                        exact ⟨_, rfl, rfl, S, hM, hR⟩
                      · refine g_iload_n (i := 2) dX11_hook_46 rfl rfl ?_
                        refine g_iconst (v := 1) dX11_hook_47 (by decide) ?_
                        refine g_icmp_ne (tgt := 64) dX11_hook_48 (by decide) (fun zc48 => ?_) (fun zc48 => ?_)
                        · exact absurd ⟨g, ha, ⟨zc32, zc43⟩, fun z => zc48 z.1⟩ hf
                        · refine g_iload dX11_hook_51 rfl ?_
                          refine g_aload_n (i := 0) dX11_hook_53 rfl rfl ?_
                          refine gm_get hM (k := 4) dX11_hook_54 flX11_13 rfl ?_
                          refine g_iload_n (i := 3) dX11_hook_57 rfl rfl ?_
                          refine gm_iald hM dX11_hook_58 rfl (hJ) ?_
                          refine g_toi (nI g.2.length) (by rw [hcj]; exact (hR.1.2.2 j g hg).2.1) ?_
                          refine g_icmp_ne (tgt := 64) dX11_hook_59 (by decide) (fun zc59 => ?_) (fun zc59 => ?_)
                          · exact absurd ⟨g, ha, ⟨zc32, zc43⟩, fun z => zc59 z.2⟩ hf
                          · refine g_iconst (v := (-1)) dX11_hook_62 (by decide) ?_
                            refine g_iret dX11_hook_63 rfl ?_
                            exact ⟨_, rfl, rfl, S, hM, hR⟩
              · refine g_iconst (v := (-1)) dX11_hook_16 (by decide) ?_
                refine g_iret dX11_hook_17 rfl ?_
                exact ⟨_, rfl, rfl, S, hM, hR⟩
  · have hv : sHook A h kind f k = (-1, A) := by
      unfold sHook
      rw [if_neg hh]
    rw [hv]
    refine g_iload_n (i := 1) dX11_hook_0 rfl rfl ?_
    refine g_callSi (My := mX11_isHook) [_] dX11_hook_1 lkX11_295 mvX11_isHook rfl (c_X11_isHook _) (by decide) (by decide) (by decide) rfl (Nat.le_of_ble_eq_true rfl) (fun zr1 σ zh1 => ?_)
    obtain ⟨rfl, rfl⟩ := zh1
    refine g_if_eq (tgt := 16) dX11_hook_4 (by decide) (fun zc4 => ?_) (fun zc4 => ?_)
    · refine g_iconst (v := (-1)) dX11_hook_16 (by decide) ?_
      refine g_iret dX11_hook_17 rfl ?_
      exact ⟨_, rfl, rfl, S, hM, hR⟩
    · refine g_iload_n (i := 2) dX11_hook_7 rfl rfl ?_
      refine g_if_lt (tgt := 16) dX11_hook_8 (by decide) (fun zc8 => ?_) (fun zc8 => ?_)
      · refine g_iconst (v := (-1)) dX11_hook_16 (by decide) ?_
        refine g_iret dX11_hook_17 rfl ?_
        exact ⟨_, rfl, rfl, S, hM, hR⟩
      · refine g_iload_n (i := 2) dX11_hook_11 rfl rfl ?_
        refine g_iconst (v := 5) dX11_hook_12 (by decide) ?_
        refine g_icmp_le (tgt := 18) dX11_hook_13 (by decide) (fun zc13 => ?_) (fun zc13 => ?_)
        · exact absurd ⟨bI_ne0.mp zc4, zc8, zc13⟩ hh
        · refine g_iconst (v := (-1)) dX11_hook_16 (by decide) ?_
          refine g_iret dX11_hook_17 rfl ?_
          exact ⟨_, rfl, rfl, S, hM, hR⟩
end CMhook2
