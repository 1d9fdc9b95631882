/-! the reference's public methods: step, price, tell, cost, run, end -/
noncomputable def sPrice (A : aA) (k c : Int32) : Int32 × aA := by
  classical
  exact if (¬ k < 0 ∧ k ≤ 12) ∧ (¬ c < 1 ∧ c ≤ 50) then (A.2.1 k.toNatClampNeg, aNote (A.1, va_up A.2.1 k.toNatClampNeg c, A.2.2) (3, k.toNatClampNeg, 0, (A.2.1 k.toNatClampNeg).toInt64, (0, []))) else (-1, A)
noncomputable def sTell (A : aA) (p : Int32) (v : Int64) : Int64 × aA := by
  classical
  exact if ¬ p < 0 ∧ p ≤ 3 then (A.2.2.1 p.toNatClampNeg, aNote (A.1, A.2.1, va_up A.2.2.1 p.toNatClampNeg v, A.2.2.2) (4, p.toNatClampNeg, 0, A.2.2.1 p.toNatClampNeg, (0, []))) else (0, A)
def sCost (A : aA) (f : Int32) : Int32 := match aForm A f with
  | some g => aCost A.2.1 g.2
  | none => -1
def sRun (A : aA) (f : Int32) (v : Int64) : Int64 := match aForm A f with
  | some g => opA g.1 g.2 v g.2.length g.2.length
  | none => 0
def sEnd (A : aA) (f : Int32) (v : Int64) (k : Int32) : Int64 := match aForm A f with
  | some g => if k < 0 ∨ nI g.2.length ≤ k then 0 else opA g.1 g.2 v (k.toNatClampNeg + 1) (k.toNatClampNeg + 1)
  | none => 0
def wfA (A : aA) : Prop := ∀ (f : Nat) (g : aF), A.1[f]? = some g → wfF g
theorem RepM.mk9 {S : mS} {A : aA} (h : RepM S A) (f : Nat → Int64) : RepM (uJ S 9 f) A := h.of (fun _ _ => rfl) (fun _ _ => rfl) (fun k hk => by
  simp only [List.mem_cons, List.not_mem_nil, or_false] at hk
  rcases hk with rfl | rfl | rfl | rfl <;> rfl)
theorem ixle {x : Int32} (n : Nat) (hn : n + 1 < 2 ^ 31) (h : ¬ x < 0) (h' : x ≤ nI n) : ∃ j : Nat, j ≤ n ∧ x = nI j := by
  obtain ⟨j, hj, rfl⟩ := nI_of h
  exact ⟨j, (nI_leI hj (by omega)).mp h', rfl⟩
section CMpub2
variable {l : Launch} {o : Nat} {ad : Nat → Nat} {S : mS} {A : aA} {σ : gH}
theorem c_X11_price (hM : Mm σ o ad S) (hR : RepM S A) (k c : Int32) : Ct l mX11_price 4 0 0 [.ref o, .int k, .int c] σ (pI (mP o ad (sPrice A k c))) := by
  refine Ct_of moX11_price [some (.ref o), some (.int k), some (.int c), none] rfl (Nat.le_of_ble_eq_true rfl) ?_
  by_cases hh : (¬ k < 0 ∧ k ≤ 12) ∧ (¬ c < 1 ∧ c ≤ 50)
  · obtain ⟨j, hj, rfl⟩ := ixle 12 (by decide) hh.1.1 hh.1.2
    have hcj : (nI j).toNatClampNeg = j := nI_clamp (by omega)
    have hv : sPrice A (nI j) c = (A.2.1 j, aNote (A.1, va_up A.2.1 j c, A.2.2) (3, j, 0, (A.2.1 j).toInt64, (0, []))) := by
      unfold sPrice
      rw [if_pos hh, hcj]
    have hI : vp_in (nI j) 13 := vp_in_nI (by omega) (by decide)
    rw [hv]
    refine g_iload_n (i := 1) dX11_price_0 rfl rfl ?_
    refine g_if_lt (tgt := 21) dX11_price_1 (by decide) (fun zc1 => ?_) (fun zc1 => ?_)
    · exact absurd zc1 hh.1.1
    · refine g_iload_n (i := 1) dX11_price_4 rfl rfl ?_
      refine g_bipush (v := 12) dX11_price_5 (by decide) ?_
      refine g_icmp_gt (tgt := 21) dX11_price_7 (by decide) (fun zc7 => ?_) (fun zc7 => ?_)
      · exact absurd zc7 (Int32.not_lt.mpr hh.1.2)
      · refine g_iload_n (i := 2) dX11_price_10 rfl rfl ?_
        refine g_iconst (v := 1) dX11_price_11 (by decide) ?_
        refine g_icmp_lt (tgt := 21) dX11_price_12 (by decide) (fun zc12 => ?_) (fun zc12 => ?_)
        · exact absurd zc12 hh.2.1
        · refine g_iload_n (i := 2) dX11_price_15 rfl rfl ?_
          refine g_bipush (v := 50) dX11_price_16 (by decide) ?_
          refine g_icmp_le (tgt := 23) dX11_price_18 (by decide) (fun zc18 => ?_) (fun zc18 => ?_)
          · refine g_aload_n (i := 0) dX11_price_23 rfl rfl ?_
            refine gm_get hM (k := 8) dX11_price_24 flX11_26 rfl ?_
            refine g_iload_n (i := 1) dX11_price_27 rfl rfl ?_
            refine gm_iald hM dX11_price_28 rfl (hI) ?_
            refine g_toi (A.2.1 j) (by rw [hcj]; exact hR.2.1 j (by omega)) ?_
            refine g_istore_n (i := 3) (ls' := [_, _, _, _]) dX11_price_29 rfl (by decide) rfl rfl ?_
            refine g_aload_n (i := 0) dX11_price_30 rfl rfl ?_
            refine gm_get hM (k := 8) dX11_price_31 flX11_26 rfl ?_
            refine g_iload_n (i := 1) dX11_price_34 rfl rfl ?_
            refine g_iload_n (i := 2) dX11_price_35 rfl rfl ?_
            refine gm_iast hM dX11_price_36 rfl (hI) (fun σ hM => ?_)
            rw [hcj] at hM
            have hR : RepM (uI S 8 (upd (S.2.2.1 8) j c)) (A.1, va_up A.2.1 j c, A.2.2) := by
              obtain ⟨⟨a1, a2, a3⟩, b, c', d, ⟨e1, e2, e3⟩, f1, f2⟩ := hR
              refine ⟨⟨a1, a2, fun f g hg => (a3 f g hg).of (fun k hk => ?_) rfl⟩, fun q hq => ?_, c', fun h hh => (d h hh).of rfl rfl rfl, ⟨e1, e2, fun q a ha => (e3 q a ha).of (fun k hk => ?_) rfl rfl⟩, f1, f2⟩
              · simp only [List.mem_cons, List.not_mem_nil, or_false] at hk
                rcases hk with rfl | rfl | rfl | rfl <;> rfl
              · show upd _ j c q = va_up _ j c q
                by_cases e : q = j
                · subst e; rw [pk_us, va_up_self]
                · rw [pk_un e, va_up_ne _ _ e]; exact b q hq
              · simp only [List.mem_cons, List.not_mem_nil, or_false] at hk
                rcases hk with rfl | rfl | rfl | rfl | rfl <;> rfl
            refine g_aload_n (i := 0) dX11_price_37 rfl rfl ?_
            refine g_iconst (v := 3) dX11_price_38 (by decide) ?_
            refine g_iload_n (i := 1) dX11_price_39 rfl rfl ?_
            refine g_iconst (v := 0) dX11_price_40 (by decide) ?_
            refine g_iload_n (i := 3) dX11_price_41 rfl rfl ?_
            refine g_i2l dX11_price_42 ?_
            refine g_callVv (My := mX11_note) [_, _, _, _] dX11_price_43 lkX11_160 mvX11_note rfl hM.1 rfl (c_X11_note hM hR 3 j 0 (A.2.1 j).toInt64) (by decide) (by decide) (by decide) rfl (Nat.le_of_ble_eq_true rfl) (fun σ zh43 => ?_)
            obtain ⟨S2, k0, hM, hR, -, -⟩ := zh43
            refine g_iload_n (i := 3) dX11_price_46 rfl rfl ?_
            refine g_iret dX11_price_47 rfl ?_
            exact ⟨_, rfl, rfl, S2, hM, hR.nz (by decide)⟩
          · exact absurd hh.2.2 zc18
  · have hv : sPrice A k c = (-1, A) := by
      unfold sPrice
      rw [if_neg hh]
    rw [hv]
    refine g_iload_n (i := 1) dX11_price_0 rfl rfl ?_
    refine g_if_lt (tgt := 21) dX11_price_1 (by decide) (fun zc1 => ?_) (fun zc1 => ?_)
    · refine g_iconst (v := (-1)) dX11_price_21 (by decide) ?_
      refine g_iret dX11_price_22 rfl ?_
      exact ⟨_, rfl, rfl, S, hM, hR⟩
    · refine g_iload_n (i := 1) dX11_price_4 rfl rfl ?_
      refine g_bipush (v := 12) dX11_price_5 (by decide) ?_
      refine g_icmp_gt (tgt := 21) dX11_price_7 (by decide) (fun zc7 => ?_) (fun zc7 => ?_)
      · refine g_iconst (v := (-1)) dX11_price_21 (by decide) ?_
        refine g_iret dX11_price_22 rfl ?_
        exact ⟨_, rfl, rfl, S, hM, hR⟩
      · refine g_iload_n (i := 2) dX11_price_10 rfl rfl ?_
        refine g_iconst (v := 1) dX11_price_11 (by decide) ?_
        refine g_icmp_lt (tgt := 21) dX11_price_12 (by decide) (fun zc12 => ?_) (fun zc12 => ?_)
        · refine g_iconst (v := (-1)) dX11_price_21 (by decide) ?_
          refine g_iret dX11_price_22 rfl ?_
          exact ⟨_, rfl, rfl, S, hM, hR⟩
        · refine g_iload_n (i := 2) dX11_price_15 rfl rfl ?_
          refine g_bipush (v := 50) dX11_price_16 (by decide) ?_
          refine g_icmp_le (tgt := 23) dX11_price_18 (by decide) (fun zc18 => ?_) (fun zc18 => ?_)
          · exact absurd ⟨⟨zc1, Int32.not_lt.mp zc7⟩, zc12, zc18⟩ hh
          · refine g_iconst (v := (-1)) dX11_price_21 (by decide) ?_
            refine g_iret dX11_price_22 rfl ?_
            exact ⟨_, rfl, rfl, S, hM, hR⟩
theorem c_X11_tell (hM : Mm σ o ad S) (hR : RepM S A) (p : Int32) (v : Int64) : Ct l mX11_tell 4 0 0 [.ref o, .int p, .long v] σ (pL (mPl o ad (sTell A p v))) := by
  refine Ct_of moX11_tell [some (.ref o), some (.int p), some (.long v), none, none, none] rfl (Nat.le_of_ble_eq_true rfl) ?_
  by_cases hh : ¬ p < 0 ∧ p ≤ 3
  · obtain ⟨j, hj, rfl⟩ := ixle 3 (by decide) hh.1 hh.2
    have hcj : (nI j).toNatClampNeg = j := nI_clamp (by omega)
    have hv : sTell A (nI j) v = (A.2.2.1 j, aNote (A.1, A.2.1, va_up A.2.2.1 j v, A.2.2.2) (4, j, 0, A.2.2.1 j, (0, []))) := by
      unfold sTell
      rw [if_pos hh, hcj]
    have hI : vp_in (nI j) 4 := vp_in_nI (by omega) (by decide)
    rw [hv]
    refine g_iload_n (i := 1) dX11_tell_0 rfl rfl ?_
    refine g_if_lt (tgt := 9) dX11_tell_1 (by decide) (fun zc1 => ?_) (fun zc1 => ?_)
    · exact absurd zc1 hh.1
    · refine g_iload_n (i := 1) dX11_tell_4 rfl rfl ?_
      refine g_iconst (v := 3) dX11_tell_5 (by decide) ?_
      refine g_icmp_le (tgt := 11) dX11_tell_6 (by decide) (fun zc6 => ?_) (fun zc6 => ?_)
      · refine g_aload_n (i := 0) dX11_tell_11 rfl rfl ?_
        refine gm_get hM (k := 27) dX11_tell_12 flX11_56 rfl ?_
        refine g_iload_n (i := 1) dX11_tell_15 rfl rfl ?_
        refine gm_lald hM dX11_tell_16 rfl (hI) ?_
        refine g_tol (A.2.2.1 j) (by rw [hcj]; exact hR.2.2.1 j (by omega)) ?_
        refine g_lstore (ls' := [_, _, _, _, _, _]) dX11_tell_17 (by decide) rfl rfl ?_
        refine g_aload_n (i := 0) dX11_tell_19 rfl rfl ?_
        refine gm_get hM (k := 27) dX11_tell_20 flX11_56 rfl ?_
        refine g_iload_n (i := 1) dX11_tell_23 rfl rfl ?_
        refine g_lload_n (i := 2) dX11_tell_24 rfl rfl ?_
        refine gm_last hM dX11_tell_25 rfl (hI) (fun σ hM => ?_)
        rw [hcj] at hM
        have hR : RepM (uJ S 27 (vp_updL (S.2.2.2 27) j v)) (A.1, A.2.1, va_up A.2.2.1 j v, A.2.2.2) := by
          obtain ⟨⟨a1, a2, a3⟩, b, c', d, ⟨e1, e2, e3⟩, f1, f2⟩ := hR
          refine ⟨⟨a1, a2, fun f g hg => (a3 f g hg).of (fun k hk => rfl) rfl⟩, b, fun q hq => ?_, fun h hh => (d h hh).of rfl rfl rfl, ⟨e1, e2, fun q a ha => (e3 q a ha).of (fun k hk => rfl) rfl rfl⟩, f1, f2⟩
          show vp_updL _ j v q = va_up _ j v q
          by_cases e : q = j
          · subst e; rw [pk_uLs, va_up_self]
          · rw [pk_uLn e, va_up_ne _ _ e]; exact c' q hq
        refine g_aload_n (i := 0) dX11_tell_26 rfl rfl ?_
        refine g_iconst (v := 4) dX11_tell_27 (by decide) ?_
        refine g_iload_n (i := 1) dX11_tell_28 rfl rfl ?_
        refine g_iconst (v := 0) dX11_tell_29 (by decide) ?_
        refine g_lload dX11_tell_30 rfl ?_
        refine g_callVv (My := mX11_note) [_, _, _, _] dX11_tell_32 lkX11_160 mvX11_note rfl hM.1 rfl (c_X11_note hM hR 4 j 0 (A.2.2.1 j)) (by decide) (by decide) (by decide) rfl (Nat.le_of_ble_eq_true rfl) (fun σ zh32 => ?_)
        obtain ⟨S2, k0, hM, hR, -, -⟩ := zh32
        refine g_lload dX11_tell_35 rfl ?_
        refine g_lret dX11_tell_37 rfl ?_
        exact ⟨_, rfl, rfl, S2, hM, hR.nz (by decide)⟩
      · exact absurd hh.2 zc6
  · have hv : sTell A p v = (0, A) := by
      unfold sTell
      rw [if_neg hh]
    rw [hv]
    refine g_iload_n (i := 1) dX11_tell_0 rfl rfl ?_
    refine g_if_lt (tgt := 9) dX11_tell_1 (by decide) (fun zc1 => ?_) (fun zc1 => ?_)
    · refine g_lconst (v := 0) dX11_tell_9 (by decide) ?_
      refine g_lret dX11_tell_10 rfl ?_
      exact ⟨_, rfl, rfl, S, hM, hR⟩
    · refine g_iload_n (i := 1) dX11_tell_4 rfl rfl ?_
      refine g_iconst (v := 3) dX11_tell_5 (by decide) ?_
      refine g_icmp_le (tgt := 11) dX11_tell_6 (by decide) (fun zc6 => ?_) (fun zc6 => ?_)
      · exact absurd ⟨zc1, zc6⟩ hh
      · refine g_lconst (v := 0) dX11_tell_9 (by decide) ?_
        refine g_lret dX11_tell_10 rfl ?_
        exact ⟨_, rfl, rfl, S, hM, hR⟩
theorem c_X11_run (hM : Mm σ o ad S) (hR : RepM S A) (hw : wfA A) (f : Int32) (v : Int64) : Ct l mX11_run 5 0 0 [.ref o, .int f, .long v] σ (pL (mPl o ad (sRun A f v, A))) := by
  have h60 := hR.1.2.1
  refine Ct_of moX11_run [some (.ref o), some (.int f), some (.long v), none] rfl (Nat.le_of_ble_eq_true rfl) ?_
  rcases aForm_cases A hR.1.2.1 f with ⟨hh, hn⟩ | ⟨j, g, hj, rfl, hg, ha⟩
  · have hv : sRun A f v = 0 := by simp only [sRun, hn]
    rw [hv]
    refine g_aload_n (i := 0) dX11_run_0 rfl rfl ?_
    refine g_iload_n (i := 1) dX11_run_1 rfl rfl ?_
    refine g_callVi (My := mX11_isForm) [_] dX11_run_2 lkX11_164 mvX11_isForm rfl hM.1 rfl (c_X11_isForm hM hR _) (by decide) (by decide) (by decide) rfl (Nat.le_of_ble_eq_true rfl) (fun zr2 σ zh2 => ?_)
    obtain ⟨rfl, rfl⟩ := zh2
    refine g_if_ne (tgt := 10) dX11_run_5 (by decide) (fun zc5 => ?_) (fun zc5 => ?_)
    · exact absurd (bI_ne0.mp zc5) (isF_no hn)
    · refine g_lconst (v := 0) dX11_run_8 (by decide) ?_
      refine g_lret dX11_run_9 rfl ?_
      exact ⟨_, rfl, rfl, S, hM, hR⟩
  · have hv : sRun A (nI j) v = opA g.1 g.2 v g.2.length g.2.length := by simp only [sRun, ha]
    rw [hv]
    have hf := hR.1.2.2 j g hg
    have h12 := hf.2.2.1
    have hcj : (nI j).toNatClampNeg = j := nI_clamp (by omega)
    refine g_aload_n (i := 0) dX11_run_0 rfl rfl ?_
    refine g_iload_n (i := 1) dX11_run_1 rfl rfl ?_
    refine g_callVi (My := mX11_isForm) [_] dX11_run_2 lkX11_164 mvX11_isForm rfl hM.1 rfl (c_X11_isForm hM hR _) (by decide) (by decide) (by decide) rfl (Nat.le_of_ble_eq_true rfl) (fun zr2 σ zh2 => ?_)
    obtain ⟨rfl, rfl⟩ := zh2
    refine g_if_ne (tgt := 10) dX11_run_5 (by decide) (fun zc5 => ?_) (fun zc5 => ?_)
    · refine g_aload_n (i := 0) dX11_run_10 rfl rfl ?_
      refine g_iload_n (i := 1) dX11_run_11 rfl rfl ?_
      refine g_lload_n (i := 2) dX11_run_12 rfl rfl ?_
      refine g_aload_n (i := 0) dX11_run_13 rfl rfl ?_
      refine gm_get hM (k := 4) dX11_run_14 flX11_13 rfl ?_
      refine g_iload_n (i := 1) dX11_run_17 rfl rfl ?_
      refine gm_iald hM dX11_run_18 rfl ((vp_in_nI (show j < 60 by omega) (by decide) : vp_in (nI j) 60)) ?_
      refine g_toi (nI g.2.length) (by rw [hcj]; exact hf.2.1) ?_
      refine g_callVv (My := mX11_work) [_, _, _] dX11_run_19 lkX11_236 mvX11_work rfl hM.1 rfl (c_X11_work hM hR hj hg (hw j g hg) v (Nat.le_refl _)) (by decide) (by decide) (by decide) rfl (Nat.le_of_ble_eq_true rfl) (fun σ zh19 => ?_)
      obtain ⟨mk, hM, hmk⟩ := zh19
      refine g_aload_n (i := 0) dX11_run_22 rfl rfl ?_
      refine gm_get hM (k := 9) dX11_run_23 flX11_29 rfl ?_
      refine g_aload_n (i := 0) dX11_run_26 rfl rfl ?_
      refine gm_get hM (k := 4) dX11_run_27 flX11_13 rfl ?_
      refine g_iload_n (i := 1) dX11_run_30 rfl rfl ?_
      refine gm_iald hM dX11_run_31 rfl ((vp_in_nI (show j < 60 by omega) (by decide) : vp_in (nI j) 60)) ?_
      refine g_toi (nI g.2.length) (by rw [hcj]; exact hf.2.1) ?_
      refine gm_lald hM dX11_run_32 rfl ((vp_in_nI (show g.2.length < 13 by omega) (by decide) : vp_in (nI g.2.length) 13)) ?_
      refine g_lret dX11_run_33 rfl ?_
      exact ⟨_, rfl, by rw [nI_clamp (show g.2.length < 2 ^ 31 by omega)]; exact hmk _ (Nat.le_refl _), _, hM, hR.mk9 mk⟩
    · exact absurd ⟨g, ha⟩ (bI_eq0.mp zc5)
theorem c_X11_end (hM : Mm σ o ad S) (hR : RepM S A) (hw : wfA A) (f : Int32) (v : Int64) (k : Int32) : Ct l mX11_end 5 0 0 [.ref o, .int f, .long v, .int k] σ (pL (mPl o ad (sEnd A f v k, A))) := by
  have h60 := hR.1.2.1
  refine Ct_of moX11_end [some (.ref o), some (.int f), some (.long v), none, some (.int k)] rfl (Nat.le_of_ble_eq_true rfl) ?_
  rcases aForm_cases A hR.1.2.1 f with ⟨hh, hn⟩ | ⟨j, g, hj, rfl, hg, ha⟩
  · have hv : sEnd A f v k = 0 := by simp only [sEnd, hn]
    rw [hv]
    refine g_aload_n (i := 0) dX11_end_0 rfl rfl ?_
    refine g_iload_n (i := 1) dX11_end_1 rfl rfl ?_
    refine g_callVi (My := mX11_isForm) [_] dX11_end_2 lkX11_164 mvX11_isForm rfl hM.1 rfl (c_X11_isForm hM hR _) (by decide) (by decide) (by decide) rfl (Nat.le_of_ble_eq_true rfl) (fun zr2 σ zh2 => ?_)
    obtain ⟨rfl, rfl⟩ := zh2
    refine g_if_eq (tgt := 24) dX11_end_5 (by decide) (fun zc5 => ?_) (fun zc5 => ?_)
    · refine g_lconst (v := 0) dX11_end_24 (by decide) ?_
      refine g_lret dX11_end_25 rfl ?_
      exact ⟨_, rfl, rfl, S, hM, hR⟩
    · exact absurd (bI_ne0.mp zc5) (isF_no hn)
  · have hf := hR.1.2.2 j g hg
    have h12 := hf.2.2.1
    have hcj : (nI j).toNatClampNeg = j := nI_clamp (by omega)
    by_cases hk : k < 0 ∨ nI g.2.length ≤ k
    · have hv : sEnd A (nI j) v k = 0 := by simp only [sEnd, ha, if_pos hk]
      rw [hv]
      refine g_aload_n (i := 0) dX11_end_0 rfl rfl ?_
      refine g_iload_n (i := 1) dX11_end_1 rfl rfl ?_
      refine g_callVi (My := mX11_isForm) [_] dX11_end_2 lkX11_164 mvX11_isForm rfl hM.1 rfl (c_X11_isForm hM hR _) (by decide) (by decide) (by decide) rfl (Nat.le_of_ble_eq_true rfl) (fun zr2 σ zh2 => ?_)
      obtain ⟨rfl, rfl⟩ := zh2
      refine g_if_eq (tgt := 24) dX11_end_5 (by decide) (fun zc5 => ?_) (fun zc5 => ?_)
      · refine g_lconst (v := 0) dX11_end_24 (by decide) ?_
        refine g_lret dX11_end_25 rfl ?_
        exact ⟨_, rfl, rfl, S, hM, hR⟩
      · refine g_iload dX11_end_8 rfl ?_
        refine g_if_lt (tgt := 24) dX11_end_10 (by decide) (fun zc10 => ?_) (fun zc10 => ?_)
        · refine g_lconst (v := 0) dX11_end_24 (by decide) ?_
          refine g_lret dX11_end_25 rfl ?_
          exact ⟨_, rfl, rfl, S, hM, hR⟩
        · refine g_iload dX11_end_13 rfl ?_
          refine g_aload_n (i := 0) dX11_end_15 rfl rfl ?_
          refine gm_get hM (k := 4) dX11_end_16 flX11_13 rfl ?_
          refine g_iload_n (i := 1) dX11_end_19 rfl rfl ?_
          refine gm_iald hM dX11_end_20 rfl ((vp_in_nI (show j < 60 by omega) (by decide) : vp_in (nI j) 60)) ?_
          refine g_toi (nI g.2.length) (by rw [hcj]; exact hf.2.1) ?_
          refine g_icmp_lt (tgt := 26) dX11_end_21 (by decide) (fun zc21 => ?_) (fun zc21 => ?_)
          · exact absurd (hk.elim (fun z => absurd z zc10) (fun z => z)) (Int32.not_le.mpr zc21)
          · refine g_lconst (v := 0) dX11_end_24 (by decide) ?_
            refine g_lret dX11_end_25 rfl ?_
            exact ⟨_, rfl, rfl, S, hM, hR⟩
    · obtain ⟨kk, hkl, rfl⟩ : ∃ kk : Nat, kk < g.2.length ∧ k = nI kk := by
        rcases ix3 k g.2.length (by omega) with q | q | q
        · exact absurd (Or.inl q) hk
        · exact absurd (Or.inr q.2) hk
        · exact q
      have hv : sEnd A (nI j) v (nI kk) = opA g.1 g.2 v (kk + 1) (kk + 1) := by simp only [sEnd, ha, if_neg hk, nI_clamp (show kk < 2 ^ 31 by omega)]
      rw [hv]
      refine g_aload_n (i := 0) dX11_end_0 rfl rfl ?_
      refine g_iload_n (i := 1) dX11_end_1 rfl rfl ?_
      refine g_callVi (My := mX11_isForm) [_] dX11_end_2 lkX11_164 mvX11_isForm rfl hM.1 rfl (c_X11_isForm hM hR _) (by decide) (by decide) (by decide) rfl (Nat.le_of_ble_eq_true rfl) (fun zr2 σ zh2 => ?_)
      obtain ⟨rfl, rfl⟩ := zh2
      refine g_if_eq (tgt := 24) dX11_end_5 (by decide) (fun zc5 => ?_) (fun zc5 => ?_)
      · exact absurd ⟨g, ha⟩ (bI_eq0.mp zc5)
      · refine g_iload dX11_end_8 rfl ?_
        refine g_if_lt (tgt := 24) dX11_end_10 (by decide) (fun zc10 => ?_) (fun zc10 => ?_)
        · exact absurd zc10 (nI_pos (by omega))
        · refine g_iload dX11_end_13 rfl ?_
          refine g_aload_n (i := 0) dX11_end_15 rfl rfl ?_
          refine gm_get hM (k := 4) dX11_end_16 flX11_13 rfl ?_
          refine g_iload_n (i := 1) dX11_end_19 rfl rfl ?_
          refine gm_iald hM dX11_end_20 rfl ((vp_in_nI (show j < 60 by omega) (by decide) : vp_in (nI j) 60)) ?_
          refine g_toi (nI g.2.length) (by rw [hcj]; exact hf.2.1) ?_
          refine g_icmp_lt (tgt := 26) dX11_end_21 (by decide) (fun zc21 => ?_) (fun zc21 => ?_)
          · refine g_aload_n (i := 0) dX11_end_26 rfl rfl ?_
            refine g_iload_n (i := 1) dX11_end_27 rfl rfl ?_
            refine g_lload_n (i := 2) dX11_end_28 rfl rfl ?_
            refine g_iload dX11_end_29 rfl ?_
            refine g_iconst (v := 1) dX11_end_31 (by decide) ?_
            refine g_iadd dX11_end_32 ?_
            rw [nI_1]
            refine g_callVv (My := mX11_work) [_, _, _] dX11_end_33 lkX11_236 mvX11_work rfl hM.1 rfl (c_X11_work hM hR hj hg (hw j g hg) v (show kk + 1 ≤ g.2.length by omega)) (by decide) (by decide) (by decide) rfl (Nat.le_of_ble_eq_true rfl) (fun σ zh33 => ?_)
            obtain ⟨mk, hM, hmk⟩ := zh33
            refine g_aload_n (i := 0) dX11_end_36 rfl rfl ?_
            refine gm_get hM (k := 9) dX11_end_37 flX11_29 rfl ?_
            refine g_iload dX11_end_40 rfl ?_
            refine g_iconst (v := 1) dX11_end_42 (by decide) ?_
            refine g_iadd dX11_end_43 ?_
            rw [nI_1]
            refine gm_lald hM dX11_end_44 rfl ((vp_in_nI (show kk + 1 < 13 by omega) (by decide) : vp_in (nI (kk + 1)) 13)) ?_
            refine g_lret dX11_end_45 rfl ?_
            exact ⟨_, rfl, by rw [nI_clamp (show kk + 1 < 2 ^ 31 by omega)]; exact hmk _ (Nat.le_refl _), _, hM, hR.mk9 mk⟩
          · exact absurd (nI_lt hkl (by omega)) zc21
theorem c_X11_step (hM : Mm σ o ad S) (hR : RepM S A) (f k x : Int32) (y : Int64) : Ct l mX11_step 4 0 0 [.ref o, .int f, .int k, .int x, .long y] σ (pI (mP o ad (sStep A f k x y))) := by
  have h60 := hR.1.2.1
  refine Ct_of moX11_step [some (.ref o), some (.int f), some (.int k), some (.int x), some (.long y), none, none] rfl (Nat.le_of_ble_eq_true rfl) ?_
  rcases aForm_cases A hR.1.2.1 f with ⟨hh, hn⟩ | ⟨j, g, hj, rfl, hg, ha⟩
  · have hv : sStep A f k x y = (-1, A) := by simp only [sStep, hn]
    rw [hv]
    refine g_aload_n (i := 0) dX11_step_0 rfl rfl ?_
    refine g_iload_n (i := 1) dX11_step_1 rfl rfl ?_
    refine g_callVi (My := mX11_isForm) [_] dX11_step_2 lkX11_164 mvX11_isForm rfl hM.1 rfl (c_X11_isForm hM hR _) (by decide) (by decide) (by decide) rfl (Nat.le_of_ble_eq_true rfl) (fun zr2 σ zh2 => ?_)
    obtain ⟨rfl, rfl⟩ := zh2
    refine g_if_eq (tgt := 32) dX11_step_5 (by decide) (fun zc5 => ?_) (fun zc5 => ?_)
    · refine g_iconst (v := (-1)) dX11_step_32 (by decide) ?_
      refine g_iret dX11_step_33 rfl ?_
      exact ⟨_, rfl, rfl, S, hM, hR⟩
    · exact absurd (bI_ne0.mp zc5) (isF_no hn)
  · have hf := hR.1.2.2 j g hg
    have h12 := hf.2.2.1
    have hcj : (nI j).toNatClampNeg = j := nI_clamp (by omega)
    have hJ : vp_in (nI j) 60 := vp_in_nI (by omega) (by decide)
    by_cases hk : okStep g k x y
    · have hv : sStep A (nI j) k x y = (if g.2.length = 12 then (-2, A) else (nI g.2.length, aNote (A.1.set j (g.1, g.2 ++ [(k, x, aY k y g.1)]), A.2) (2, j, 0, 0, (0, [])))) := by
        simp only [sStep, ha, if_pos hk, hcj]
      rw [hv]
      have fin : G l mX11_step 4 0 0 (pI (mP o ad (if g.2.length = 12 then (-2, A) else (nI g.2.length, aNote (A.1.set j (g.1, g.2 ++ [(k, x, aY k y g.1)]), A.2) (2, j, 0, 0, (0, [])))))) σ 90 [some (.ref o), some (.int (nI j)), some (.int k), some (.int x), some (.long y), none, none] [] := by
        by_cases hl : g.2.length = 12
        · rw [if_pos hl]
          refine g_aload_n (i := 0) dX11_step_90 rfl rfl ?_
          refine gm_get hM (k := 4) dX11_step_91 flX11_13 rfl ?_
          refine g_iload_n (i := 1) dX11_step_94 rfl rfl ?_
          refine gm_iald hM dX11_step_95 rfl (hJ) ?_
          refine g_toi (nI g.2.length) (by rw [hcj]; exact hf.2.1) ?_
          refine g_bipush (v := 12) dX11_step_96 (by decide) ?_
          refine g_icmp_ne (tgt := 104) dX11_step_98 (by decide) (fun zc98 => ?_) (fun zc98 => ?_)
          · exact absurd (by rw [hl]; rfl) zc98
          · refine g_bipush (v := (-2)) dX11_step_101 (by decide) ?_
            refine g_iret dX11_step_103 rfl ?_
            exact ⟨_, rfl, rfl, S, hM, hR⟩
        · rw [if_neg hl]
          refine g_aload_n (i := 0) dX11_step_90 rfl rfl ?_
          refine gm_get hM (k := 4) dX11_step_91 flX11_13 rfl ?_
          refine g_iload_n (i := 1) dX11_step_94 rfl rfl ?_
          refine gm_iald hM dX11_step_95 rfl (hJ) ?_
          refine g_toi (nI g.2.length) (by rw [hcj]; exact hf.2.1) ?_
          refine g_bipush (v := 12) dX11_step_96 (by decide) ?_
          refine g_icmp_ne (tgt := 104) dX11_step_98 (by decide) (fun zc98 => ?_) (fun zc98 => ?_)
          · refine g_aload_n (i := 0) dX11_step_104 rfl rfl ?_
            refine g_iload_n (i := 1) dX11_step_105 rfl rfl ?_
            refine g_iload_n (i := 2) dX11_step_106 rfl rfl ?_
            refine g_iload_n (i := 3) dX11_step_107 rfl rfl ?_
            refine g_lload dX11_step_108 rfl ?_
            refine g_callVi (My := mX11_put) [_, _, _, _] dX11_step_110 lkX11_167 mvX11_put rfl hM.1 rfl (c_X11_put hM hR hg (by omega) _ _ _) (by decide) (by decide) (by decide) rfl (Nat.le_of_ble_eq_true rfl) (fun zr110 σ zh110 => ?_)
            obtain ⟨rfl, S1, hM, hR, -, -⟩ := zh110
            refine g_istore (ls' := [_, _, _, _, _, _, _]) dX11_step_113 (by decide) rfl rfl ?_
            refine g_aload_n (i := 0) dX11_step_115 rfl rfl ?_
            refine g_iconst (v := 2) dX11_step_116 (by decide) ?_
            refine g_iload_n (i := 1) dX11_step_117 rfl rfl ?_
            refine g_iconst (v := 0) dX11_step_118 (by decide) ?_
            refine g_lconst (v := 0) dX11_step_119 (by decide) ?_
            refine g_callVv (My := mX11_note) [_, _, _, _] dX11_step_120 lkX11_160 mvX11_note rfl hM.1 rfl (c_X11_note hM hR 2 j 0 0) (by decide) (by decide) (by decide) rfl (Nat.le_of_ble_eq_true rfl) (fun σ zh120 => ?_)
            obtain ⟨S2, k0, hM, hR, -, -⟩ := zh120
            refine g_iload dX11_step_123 rfl ?_
            refine g_iconst (v := 1) dX11_step_125 (by decide) ?_
            refine g_isub dX11_step_126 ?_
            rw [nI_pred]
            refine g_iret dX11_step_127 rfl ?_
            exact ⟨_, rfl, rfl, S2, hM, hR.nz (by decide)⟩
          · exact absurd ((nI_eq (b := 12) (by omega) (by decide)).mp zc98) hl
      refine g_aload_n (i := 0) dX11_step_0 rfl rfl ?_
      refine g_iload_n (i := 1) dX11_step_1 rfl rfl ?_
      refine g_callVi (My := mX11_isForm) [_] dX11_step_2 lkX11_164 mvX11_isForm rfl hM.1 rfl (c_X11_isForm hM hR _) (by decide) (by decide) (by decide) rfl (Nat.le_of_ble_eq_true rfl) (fun zr2 σ zh2 => ?_)
      obtain ⟨rfl, rfl⟩ := zh2
      refine g_if_eq (tgt := 32) dX11_step_5 (by decide) (fun zc5 => ?_) (fun zc5 => ?_)
      · exact absurd ⟨g, ha⟩ (bI_eq0.mp zc5)
      · refine g_iload_n (i := 2) dX11_step_8 rfl rfl ?_
        refine g_if_lt (tgt := 32) dX11_step_9 (by decide) (fun zc9 => ?_) (fun zc9 => ?_)
        · exact absurd zc9 hk.1.1
        · refine g_iload_n (i := 2) dX11_step_12 rfl rfl ?_
          refine g_bipush (v := 12) dX11_step_13 (by decide) ?_
          refine g_icmp_gt (tgt := 32) dX11_step_15 (by decide) (fun zc15 => ?_) (fun zc15 => ?_)
          · exact absurd zc15 hk.1.2
          · refine g_iload_n (i := 3) dX11_step_18 rfl rfl ?_
            refine g_if_lt (tgt := 32) dX11_step_19 (by decide) (fun zc19 => ?_) (fun zc19 => ?_)
            · exact absurd zc19 hk.2.1.1
            · refine g_iload_n (i := 3) dX11_step_22 rfl rfl ?_
              refine g_aload_n (i := 0) dX11_step_23 rfl rfl ?_
              refine gm_get hM (k := 4) dX11_step_24 flX11_13 rfl ?_
              refine g_iload_n (i := 1) dX11_step_27 rfl rfl ?_
              refine gm_iald hM dX11_step_28 rfl (hJ) ?_
              refine g_toi (nI g.2.length) (by rw [hcj]; exact hf.2.1) ?_
              refine g_icmp_le (tgt := 34) dX11_step_29 (by decide) (fun zc29 => ?_) (fun zc29 => ?_)
              · refine g_iload_n (i := 2) dX11_step_34 rfl rfl ?_
                refine g_callSi (My := mX11_takesOperand) [_] dX11_step_35 lkX11_132 mvX11_takesOperand rfl (c_X11_takesOperand _) (by decide) (by decide) (by decide) rfl (Nat.le_of_ble_eq_true rfl) (fun zr35 σ zh35 => ?_)
                obtain ⟨rfl, rfl⟩ := zh35
                refine g_if_eq (tgt := 61) dX11_step_38 (by decide) (fun zc38 => ?_) (fun zc38 => ?_)
                · refine g_iload_n (i := 2) dX11_step_61 rfl rfl ?_
                  refine g_callSi (My := mX11_takesCount) [_] dX11_step_62 lkX11_140 mvX11_takesCount rfl (c_X11_takesCount _) (by decide) (by decide) (by decide) rfl (Nat.le_of_ble_eq_true rfl) (fun zr62 σ zh62 => ?_)
                  obtain ⟨rfl, rfl⟩ := zh62
                  refine g_if_eq (tgt := 90) dX11_step_65 (by decide) (fun zc65 => ?_) (fun zc65 => ?_)
                  · exact fin
                  · refine g_lload dX11_step_68 rfl ?_
                    refine g_lconst (v := 0) dX11_step_70 (by decide) ?_
                    refine g_lcmp dX11_step_71 ?_
                    refine g_if_lt (tgt := 88) dX11_step_72 (by decide) (fun zc72 => ?_) (fun zc72 => ?_)
                    · exact absurd ((lg_cmp_lt _ _).mp zc72) (hk.2.2.2 (bI_ne0.mp zc65)).1
                    · refine g_lload dX11_step_75 rfl ?_
                      refine g_aload_n (i := 0) dX11_step_77 rfl rfl ?_
                      refine gm_get hM (k := 3) dX11_step_78 flX11_7 rfl ?_
                      refine g_iload_n (i := 1) dX11_step_81 rfl rfl ?_
                      refine gm_iald hM dX11_step_82 rfl (hJ) ?_
                      refine g_toi g.1 (by rw [hcj]; exact hf.1) ?_
                      refine g_i2l dX11_step_83 ?_
                      refine g_lcmp dX11_step_84 ?_
                      refine g_if_lt (tgt := 90) dX11_step_85 (by decide) (fun zc85 => ?_) (fun zc85 => ?_)
                      · exact fin
                      · exact absurd ((lg_cmp_lt _ _).mpr (hk.2.2.2 (bI_ne0.mp zc65)).2) zc85
                · refine g_lload dX11_step_41 rfl ?_
                  refine g_lconst (v := 0) dX11_step_43 (by decide) ?_
                  refine g_lcmp dX11_step_44 ?_
                  refine g_if_lt (tgt := 88) dX11_step_45 (by decide) (fun zc45 => ?_) (fun zc45 => ?_)
                  · exact absurd ((lg_cmp_lt _ _).mp zc45) (hk.2.2.1 (bI_ne0.mp zc38)).1
                  · refine g_lload dX11_step_48 rfl ?_
                    refine g_aload_n (i := 0) dX11_step_50 rfl rfl ?_
                    refine gm_get hM (k := 4) dX11_step_51 flX11_13 rfl ?_
                    refine g_iload_n (i := 1) dX11_step_54 rfl rfl ?_
                    refine gm_iald hM dX11_step_55 rfl (hJ) ?_
                    refine g_toi (nI g.2.length) (by rw [hcj]; exact hf.2.1) ?_
                    refine g_i2l dX11_step_56 ?_
                    refine g_lcmp dX11_step_57 ?_
                    refine g_if_gt (tgt := 88) dX11_step_58 (by decide) (fun zc58 => ?_) (fun zc58 => ?_)
                    · exact absurd ((lg_cmp_gt _ _).mp zc58) (hk.2.2.1 (bI_ne0.mp zc38)).2
                    · refine g_iload_n (i := 2) dX11_step_61 rfl rfl ?_
                      refine g_callSi (My := mX11_takesCount) [_] dX11_step_62 lkX11_140 mvX11_takesCount rfl (c_X11_takesCount _) (by decide) (by decide) (by decide) rfl (Nat.le_of_ble_eq_true rfl) (fun zr62 σ zh62 => ?_)
                      obtain ⟨rfl, rfl⟩ := zh62
                      refine g_if_eq (tgt := 90) dX11_step_65 (by decide) (fun zc65 => ?_) (fun zc65 => ?_)
                      · exact fin
                      · refine g_lload dX11_step_68 rfl ?_
                        refine g_lconst (v := 0) dX11_step_70 (by decide) ?_
                        refine g_lcmp dX11_step_71 ?_
                        refine g_if_lt (tgt := 88) dX11_step_72 (by decide) (fun zc72 => ?_) (fun zc72 => ?_)
                        · exact absurd ((lg_cmp_lt _ _).mp zc72) (hk.2.2.2 (bI_ne0.mp zc65)).1
                        · refine g_lload dX11_step_75 rfl ?_
                          refine g_aload_n (i := 0) dX11_step_77 rfl rfl ?_
                          refine gm_get hM (k := 3) dX11_step_78 flX11_7 rfl ?_
                          refine g_iload_n (i := 1) dX11_step_81 rfl rfl ?_
                          refine gm_iald hM dX11_step_82 rfl (hJ) ?_
                          refine g_toi g.1 (by rw [hcj]; exact hf.1) ?_
                          refine g_i2l dX11_step_83 ?_
                          refine g_lcmp dX11_step_84 ?_
                          refine g_if_lt (tgt := 90) dX11_step_85 (by decide) (fun zc85 => ?_) (fun zc85 => ?_)
                          · exact fin
                          · exact absurd ((lg_cmp_lt _ _).mpr (hk.2.2.2 (bI_ne0.mp zc65)).2) zc85
              · exact absurd hk.2.1.2 zc29
    · have hv : sStep A (nI j) k x y = (-1, A) := by simp only [sStep, ha, if_neg hk]
      rw [hv]
      refine g_aload_n (i := 0) dX11_step_0 rfl rfl ?_
      refine g_iload_n (i := 1) dX11_step_1 rfl rfl ?_
      refine g_callVi (My := mX11_isForm) [_] dX11_step_2 lkX11_164 mvX11_isForm rfl hM.1 rfl (c_X11_isForm hM hR _) (by decide) (by decide) (by decide) rfl (Nat.le_of_ble_eq_true rfl) (fun zr2 σ zh2 => ?_)
      obtain ⟨rfl, rfl⟩ := zh2
      refine g_if_eq (tgt := 32) dX11_step_5 (by decide) (fun zc5 => ?_) (fun zc5 => ?_)
      · refine g_iconst (v := (-1)) dX11_step_32 (by decide) ?_
        refine g_iret dX11_step_33 rfl ?_
        exact ⟨_, rfl, rfl, S, hM, hR⟩
      · refine g_iload_n (i := 2) dX11_step_8 rfl rfl ?_
        refine g_if_lt (tgt := 32) dX11_step_9 (by decide) (fun zc9 => ?_) (fun zc9 => ?_)
        · refine g_iconst (v := (-1)) dX11_step_32 (by decide) ?_
          refine g_iret dX11_step_33 rfl ?_
          exact ⟨_, rfl, rfl, S, hM, hR⟩
        · refine g_iload_n (i := 2) dX11_step_12 rfl rfl ?_
          refine g_bipush (v := 12) dX11_step_13 (by decide) ?_
          refine g_icmp_gt (tgt := 32) dX11_step_15 (by decide) (fun zc15 => ?_) (fun zc15 => ?_)
          · refine g_iconst (v := (-1)) dX11_step_32 (by decide) ?_
            refine g_iret dX11_step_33 rfl ?_
            exact ⟨_, rfl, rfl, S, hM, hR⟩
          · refine g_iload_n (i := 3) dX11_step_18 rfl rfl ?_
            refine g_if_lt (tgt := 32) dX11_step_19 (by decide) (fun zc19 => ?_) (fun zc19 => ?_)
            · refine g_iconst (v := (-1)) dX11_step_32 (by decide) ?_
              refine g_iret dX11_step_33 rfl ?_
              exact ⟨_, rfl, rfl, S, hM, hR⟩
            · refine g_iload_n (i := 3) dX11_step_22 rfl rfl ?_
              refine g_aload_n (i := 0) dX11_step_23 rfl rfl ?_
              refine gm_get hM (k := 4) dX11_step_24 flX11_13 rfl ?_
              refine g_iload_n (i := 1) dX11_step_27 rfl rfl ?_
              refine gm_iald hM dX11_step_28 rfl (hJ) ?_
              refine g_toi (nI g.2.length) (by rw [hcj]; exact hf.2.1) ?_
              refine g_icmp_le (tgt := 34) dX11_step_29 (by decide) (fun zc29 => ?_) (fun zc29 => ?_)
              · refine g_iload_n (i := 2) dX11_step_34 rfl rfl ?_
                refine g_callSi (My := mX11_takesOperand) [_] dX11_step_35 lkX11_132 mvX11_takesOperand rfl (c_X11_takesOperand _) (by decide) (by decide) (by decide) rfl (Nat.le_of_ble_eq_true rfl) (fun zr35 σ zh35 => ?_)
                obtain ⟨rfl, rfl⟩ := zh35
                refine g_if_eq (tgt := 61) dX11_step_38 (by decide) (fun zc38 => ?_) (fun zc38 => ?_)
                · refine g_iload_n (i := 2) dX11_step_61 rfl rfl ?_
                  refine g_callSi (My := mX11_takesCount) [_] dX11_step_62 lkX11_140 mvX11_takesCount rfl (c_X11_takesCount _) (by decide) (by decide) (by decide) rfl (Nat.le_of_ble_eq_true rfl) (fun zr62 σ zh62 => ?_)
                  obtain ⟨rfl, rfl⟩ := zh62
                  refine g_if_eq (tgt := 90) dX11_step_65 (by decide) (fun zc65 => ?_) (fun zc65 => ?_)
                  · exfalso
                    refine hk ⟨⟨zc9, zc15⟩, ⟨zc19, zc29⟩, fun z => ?_, fun z => ?_⟩
                    · first
                      | exact absurd z (bI_eq0.mp zc38)
                      | exact ⟨fun q => zc45 ((lg_cmp_lt _ _).mpr q), fun q => zc58 ((lg_cmp_gt _ _).mpr q)⟩
                    · first
                      | exact absurd z (bI_eq0.mp zc65)
                      | exact ⟨fun q => zc72 ((lg_cmp_lt _ _).mpr q), (lg_cmp_lt _ _).mp zc85⟩
                  · refine g_lload dX11_step_68 rfl ?_
                    refine g_lconst (v := 0) dX11_step_70 (by decide) ?_
                    refine g_lcmp dX11_step_71 ?_
                    refine g_if_lt (tgt := 88) dX11_step_72 (by decide) (fun zc72 => ?_) (fun zc72 => ?_)
                    · refine g_iconst (v := (-1)) dX11_step_88 (by decide) ?_
                      refine g_iret dX11_step_89 rfl ?_
                      exact ⟨_, rfl, rfl, S, hM, hR⟩
                    · refine g_lload dX11_step_75 rfl ?_
                      refine g_aload_n (i := 0) dX11_step_77 rfl rfl ?_
                      refine gm_get hM (k := 3) dX11_step_78 flX11_7 rfl ?_
                      refine g_iload_n (i := 1) dX11_step_81 rfl rfl ?_
                      refine gm_iald hM dX11_step_82 rfl (hJ) ?_
                      refine g_toi g.1 (by rw [hcj]; exact hf.1) ?_
                      refine g_i2l dX11_step_83 ?_
                      refine g_lcmp dX11_step_84 ?_
                      refine g_if_lt (tgt := 90) dX11_step_85 (by decide) (fun zc85 => ?_) (fun zc85 => ?_)
                      · exfalso
                        refine hk ⟨⟨zc9, zc15⟩, ⟨zc19, zc29⟩, fun z => ?_, fun z => ?_⟩
                        · first
                          | exact absurd z (bI_eq0.mp zc38)
                          | exact ⟨fun q => zc45 ((lg_cmp_lt _ _).mpr q), fun q => zc58 ((lg_cmp_gt _ _).mpr q)⟩
                        · first
                          | exact absurd z (bI_eq0.mp zc65)
                          | exact ⟨fun q => zc72 ((lg_cmp_lt _ _).mpr q), (lg_cmp_lt _ _).mp zc85⟩
                      · refine g_iconst (v := (-1)) dX11_step_88 (by decide) ?_
                        refine g_iret dX11_step_89 rfl ?_
                        exact ⟨_, rfl, rfl, S, hM, hR⟩
                · refine g_lload dX11_step_41 rfl ?_
                  refine g_lconst (v := 0) dX11_step_43 (by decide) ?_
                  refine g_lcmp dX11_step_44 ?_
                  refine g_if_lt (tgt := 88) dX11_step_45 (by decide) (fun zc45 => ?_) (fun zc45 => ?_)
                  · refine g_iconst (v := (-1)) dX11_step_88 (by decide) ?_
                    refine g_iret dX11_step_89 rfl ?_
                    exact ⟨_, rfl, rfl, S, hM, hR⟩
                  · refine g_lload dX11_step_48 rfl ?_
                    refine g_aload_n (i := 0) dX11_step_50 rfl rfl ?_
                    refine gm_get hM (k := 4) dX11_step_51 flX11_13 rfl ?_
                    refine g_iload_n (i := 1) dX11_step_54 rfl rfl ?_
                    refine gm_iald hM dX11_step_55 rfl (hJ) ?_
                    refine g_toi (nI g.2.length) (by rw [hcj]; exact hf.2.1) ?_
                    refine g_i2l dX11_step_56 ?_
                    refine g_lcmp dX11_step_57 ?_
                    refine g_if_gt (tgt := 88) dX11_step_58 (by decide) (fun zc58 => ?_) (fun zc58 => ?_)
                    · refine g_iconst (v := (-1)) dX11_step_88 (by decide) ?_
                      refine g_iret dX11_step_89 rfl ?_
                      exact ⟨_, rfl, rfl, S, hM, hR⟩
                    · refine g_iload_n (i := 2) dX11_step_61 rfl rfl ?_
                      refine g_callSi (My := mX11_takesCount) [_] dX11_step_62 lkX11_140 mvX11_takesCount rfl (c_X11_takesCount _) (by decide) (by decide) (by decide) rfl (Nat.le_of_ble_eq_true rfl) (fun zr62 σ zh62 => ?_)
                      obtain ⟨rfl, rfl⟩ := zh62
                      refine g_if_eq (tgt := 90) dX11_step_65 (by decide) (fun zc65 => ?_) (fun zc65 => ?_)
                      · exfalso
                        refine hk ⟨⟨zc9, zc15⟩, ⟨zc19, zc29⟩, fun z => ?_, fun z => ?_⟩
                        · first
                          | exact absurd z (bI_eq0.mp zc38)
                          | exact ⟨fun q => zc45 ((lg_cmp_lt _ _).mpr q), fun q => zc58 ((lg_cmp_gt _ _).mpr q)⟩
                        · first
                          | exact absurd z (bI_eq0.mp zc65)
                          | exact ⟨fun q => zc72 ((lg_cmp_lt _ _).mpr q), (lg_cmp_lt _ _).mp zc85⟩
                      · refine g_lload dX11_step_68 rfl ?_
                        refine g_lconst (v := 0) dX11_step_70 (by decide) ?_
                        refine g_lcmp dX11_step_71 ?_
                        refine g_if_lt (tgt := 88) dX11_step_72 (by decide) (fun zc72 => ?_) (fun zc72 => ?_)
                        · refine g_iconst (v := (-1)) dX11_step_88 (by decide) ?_
                          refine g_iret dX11_step_89 rfl ?_
                          exact ⟨_, rfl, rfl, S, hM, hR⟩
                        · refine g_lload dX11_step_75 rfl ?_
                          refine g_aload_n (i := 0) dX11_step_77 rfl rfl ?_
                          refine gm_get hM (k := 3) dX11_step_78 flX11_7 rfl ?_
                          refine g_iload_n (i := 1) dX11_step_81 rfl rfl ?_
                          refine gm_iald hM dX11_step_82 rfl (hJ) ?_
                          refine g_toi g.1 (by rw [hcj]; exact hf.1) ?_
                          refine g_i2l dX11_step_83 ?_
                          refine g_lcmp dX11_step_84 ?_
                          refine g_if_lt (tgt := 90) dX11_step_85 (by decide) (fun zc85 => ?_) (fun zc85 => ?_)
                          · exfalso
                            refine hk ⟨⟨zc9, zc15⟩, ⟨zc19, zc29⟩, fun z => ?_, fun z => ?_⟩
                            · first
                              | exact absurd z (bI_eq0.mp zc38)
                              | exact ⟨fun q => zc45 ((lg_cmp_lt _ _).mpr q), fun q => zc58 ((lg_cmp_gt _ _).mpr q)⟩
                            · first
                              | exact absurd z (bI_eq0.mp zc65)
                              | exact ⟨fun q => zc72 ((lg_cmp_lt _ _).mpr q), (lg_cmp_lt _ _).mp zc85⟩
                          · refine g_iconst (v := (-1)) dX11_step_88 (by decide) ?_
                            refine g_iret dX11_step_89 rfl ?_
                            exact ⟨_, rfl, rfl, S, hM, hR⟩
              · refine g_iconst (v := (-1)) dX11_step_32 (by decide) ?_
                refine g_iret dX11_step_33 rfl ?_
                exact ⟨_, rfl, rfl, S, hM, hR⟩
end CMpub2
