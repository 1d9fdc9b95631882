/-! the reference: undo, drop -/
def aUndo (A : aA) (c : aAc) : aA := if c.1 = 1 then (A.1.take c.2.1, A.2) else if c.1 = 2 then (match A.1[c.2.1]? with
    | some g => (A.1.set c.2.1 (g.1, g.2.dropLast), A.2)
    | none => A) else if c.1 = 3 then (A.1, va_up A.2.1 c.2.1 c.2.2.2.1.toInt32, A.2.2) else if c.1 = 4 then (A.1, A.2.1, va_up A.2.2.1 c.2.1 c.2.2.2.1, A.2.2.2) else if c.1 = 5 then (A.1, A.2.1, A.2.2.1, va_up A.2.2.2.1 c.2.1 c.2.2.2.2, A.2.2.2.2) else (A.1, A.2.1, A.2.2.1, va_up A.2.2.2.1 c.2.1 ((A.2.2.2.1 c.2.1).1, (A.2.2.2.1 c.2.1).2.set c.2.2.1 c.2.2.2.1), A.2.2.2.2)
def sUndo (A : aA) : Int32 × aA := match A.2.2.2.2.1.getLast? with
  | none => (-1, A)
  | some c => (nI (A.2.2.2.2.1.length - 1), aUndo (aSetHs A A.2.2.2.2.1.dropLast) c)
def okAct (A : aA) (c : aAc) : Prop := (c.1 = 1 ∧ c.2.1 ≤ A.1.length) ∨ (c.1 = 2 ∧ ∃ g, A.1[c.2.1]? = some g ∧ g.2 ≠ []) ∨ (c.1 = 3 ∧ c.2.1 < 13) ∨ (c.1 = 4 ∧ c.2.1 < 4) ∨ (c.1 = 5 ∧ c.2.1 < 8) ∨ (c.1 = 6 ∧ c.2.1 < 8 ∧ c.2.2.1 < (A.2.2.2.1 c.2.1).2.length)
/-- RepM after a change of the hooks alone -/
theorem RepM.hooks {S S' : mS} {A : aA} (q : RepM S A) (H : Nat → aHd) (h1 : ∀ k ∈ [2, 10, 28], S'.1 k = S.1 k) (h2 : ∀ k ∈ [3, 4, 5, 6, 8, 11, 12, 13], S'.2.2.1 k = S.2.2.1 k) (h3 : ∀ k ∈ [7, 14, 27], S'.2.2.2 k = S.2.2.2 k) (hh : ∀ j, j < 8 → hdR S' j (H j)) (hc : ∀ j h', 8 ≤ j → hdR S j h' → hdR S' j h') : RepM S' (A.1, A.2.1, A.2.2.1, H, A.2.2.2.2) := by
  obtain ⟨⟨a1, a2, a3⟩, b, c, d, ⟨e1, e2, e3⟩, f1, f2⟩ := q
  refine ⟨⟨by rw [h1 2 (by decide)]; exact a1, a2, fun f g hg => (a3 f g hg).of (fun k hk => h2 k ?_) (h3 7 (by decide))⟩, fun k hk => by rw [h2 8 (by decide)]; exact b k hk, fun k hk => by rw [h3 27 (by decide)]; exact c k hk, hh, ⟨by rw [h1 10 (by decide)]; exact e1, e2, fun j a ha => ?_⟩, by rw [h1 28 (by decide)]; exact f1, f2⟩
  · simp only [List.mem_cons, List.not_mem_nil, or_false] at hk ⊢
    omega
  · obtain ⟨q1, q2, q3, q4, h0, q5, q6⟩ := e3 j a ha
    exact ⟨by rw [h2 11 (by decide)]; exact q1, by rw [h2 12 (by decide)]; exact q2, by rw [h2 13 (by decide)]; exact q3, by rw [h3 14 (by decide)]; exact q4, h0, hc _ h0 (by omega) q5, q6⟩
section CMundo
variable {l : Launch} {o : Nat} {ad : Nat → Nat} {S : mS} {A : aA} {σ : gH}
theorem c_X11_undo (hM : Mm σ o ad S) (hR : RepM S A) (hok : ∀ c, A.2.2.2.2.1.getLast? = some c → okAct A c) : Ct l mX11_undo 2 0 0 [.ref o] σ (pI (mP o ad (sUndo A))) := by
  have h60 := hR.1.2.1
  have h50 := hR.2.2.2.2.1.2.1
  have e10 := hR.2.2.2.2.1.1
  refine Ct_of moX11_undo [some (.ref o), none] rfl (Nat.le_of_ble_eq_true rfl) ?_
  rcases List.eq_nil_or_concat A.2.2.2.2.1 with hnil | ⟨L, c, hL⟩
  · have hv : sUndo A = (-1, A) := by simp only [sUndo, hnil, List.getLast?_nil]
    rw [hv]
    refine g_aload_n (i := 0) dX11_undo_0 rfl rfl ?_
    refine gm_get hM (k := 10) dX11_undo_1 flX11_147 rfl ?_
    refine g_if_ne (tgt := 9) dX11_undo_4 (by decide) (fun zc4 => ?_) (fun zc4 => ?_)
    · exact absurd (by rw [e10, hnil]; rfl) zc4
    · refine g_iconst (v := (-1)) dX11_undo_7 (by decide) ?_
      refine g_iret dX11_undo_8 rfl ?_
      exact ⟨_, rfl, rfl, S, hM, hR⟩
  · rw [List.concat_eq_append] at hL
    have hlast : A.2.2.2.2.1.getLast? = some c := by rw [hL]; simp
    have hlen : A.2.2.2.2.1.length = L.length + 1 := by rw [hL]; simp
    have hdl : A.2.2.2.2.1.dropLast = L := by rw [hL]; simp
    have hc : A.2.2.2.2.1[L.length]? = some c := by rw [hL]; simp
    have hv : sUndo A = (nI L.length, aUndo (aSetHs A L) c) := by
      simp only [sUndo, hlast, hdl, hlen, Nat.add_sub_cancel]
    rw [hv]
    have hcn : (nI L.length).toNatClampNeg = L.length := nI_clamp (by omega)
    have hI : vp_in (nI L.length) 50 := vp_in_nI (by omega) (by decide)
    obtain ⟨g1, g2, g3, g4, h0, g5, g6⟩ := hR.2.2.2.2.1.2.2 L.length c hc
    have hR1 : RepM (ui S 10 (nI L.length)) (aSetHs A L) := by
      refine hR.hist L (fun k hk => ?_) (fun k hk => rfl) (fun k hk => rfl) (fun j h' hj hr => hr.of rfl rfl rfl) rfl (by omega) (fun j a ha => ?_)
      · simp only [List.mem_cons, List.not_mem_nil, or_false] at hk
        rcases hk with rfl | rfl <;> rfl
      · have hj := (List.getElem?_eq_some_iff.mp ha).1
        exact (hR.2.2.2.2.1.2.2 j a (by rw [hL, List.getElem?_append_left hj]; exact ha)).of (fun _ _ => rfl) rfl rfl
    have hkr : c.1 < 2 ^ 31 := by
      rcases hok c hlast with q | q | q | q | q | q <;> omega
    refine g_aload_n (i := 0) dX11_undo_0 rfl rfl ?_
    refine gm_get hM (k := 10) dX11_undo_1 flX11_147 rfl ?_
    refine g_if_ne (tgt := 9) dX11_undo_4 (by decide) (fun zc4 => ?_) (fun zc4 => ?_)
    · refine g_aload_n (i := 0) dX11_undo_9 rfl rfl ?_
      refine g_dup dX11_undo_10 rfl ?_
      refine gm_get hM (k := 10) dX11_undo_11 flX11_147 rfl ?_
      refine g_toi (nI (L.length + 1)) (by rw [← hlen]; exact e10) ?_
      refine g_iconst (v := 1) dX11_undo_14 (by decide) ?_
      refine g_isub dX11_undo_15 ?_
      rw [nI_pred]
      refine gm_puti hM (k := 10) dX11_undo_16 flX11_147 fp9_10 (by decide) (fun σ hM => ?_)
      refine g_aload_n (i := 0) dX11_undo_19 rfl rfl ?_
      refine gm_get hM (k := 12) dX11_undo_20 flX11_35 rfl ?_
      refine g_aload_n (i := 0) dX11_undo_23 rfl rfl ?_
      refine gm_get hM (k := 10) dX11_undo_24 flX11_147 rfl ?_
      refine gm_iald hM dX11_undo_27 rfl (hI) ?_
      refine g_toi (nI c.2.1) (by show S.2.2.1 12 (nI L.length).toNatClampNeg = _; rw [hcn]; exact g2) ?_
      refine g_istore_n (i := 1) (ls' := [_, _]) dX11_undo_28 rfl (by decide) rfl rfl ?_
      refine g_aload_n (i := 0) dX11_undo_29 rfl rfl ?_
      refine gm_get hM (k := 11) dX11_undo_30 flX11_32 rfl ?_
      refine g_aload_n (i := 0) dX11_undo_33 rfl rfl ?_
      refine gm_get hM (k := 10) dX11_undo_34 flX11_147 rfl ?_
      refine gm_iald hM dX11_undo_37 rfl (hI) ?_
      refine g_toi (nI c.1) (by show S.2.2.1 11 (nI L.length).toNatClampNeg = _; rw [hcn]; exact g1) ?_
      by_cases e38_1 : nI c.1 = 1
      · refine g_tbIn (c := 1) (tgt := 72) e38_1 dX11_undo_38 (by decide) (by decide) rfl (by decide) ?_
        have hk : c.1 = 1 := (nI_eq (b := 1) hkr (by decide)).mp e38_1
        have hq : c.2.1 ≤ A.1.length := by rcases hok c hlast with q | q | q | q | q | q <;> omega
        have hu : aUndo (aSetHs A L) c = (A.1.take c.2.1, (aSetHs A L).2) := by unfold aUndo; rw [if_pos hk]; rfl
        rw [hu]
        have hcw : (nI c.2.1).toNatClampNeg = c.2.1 := nI_clamp (by omega)
        have hfin : RepM (ui (ui S 10 (nI L.length)) 2 (nI c.2.1)) (A.1.take c.2.1, (aSetHs A L).2) := by
          refine hR1.forms _ (fun k hk => ?_) (fun k hk => rfl) (fun k hk => rfl) ?_ ?_ (fun f g hg => ?_)
          · simp only [List.mem_cons, List.not_mem_nil, or_false] at hk
            rcases hk with rfl | rfl <;> rfl
          · rw [List.length_take, Nat.min_eq_left hq]; rfl
          · rw [List.length_take, Nat.min_eq_left hq]; omega
          · have hf := (List.getElem?_eq_some_iff.mp hg).1
            rw [List.length_take, Nat.min_eq_left hq] at hf
            rw [List.getElem?_take, if_pos hf] at hg
            exact (hR1.1.2.2 f g hg).of (fun _ _ => rfl) rfl
        refine g_aload_n (i := 0) dX11_undo_72 rfl rfl ?_
        refine g_iload_n (i := 1) dX11_undo_73 rfl rfl ?_
        refine gm_puti hM (k := 2) dX11_undo_74 flX11_118 fp9_2 (by decide) (fun σ hM => ?_)
        refine g_goto (tgt := 173) dX11_undo_77 (by decide) ?_
        try rw [hcw] at hM
        refine g_aload_n (i := 0) dX11_undo_173 rfl rfl ?_
        refine gm_get hM (k := 10) dX11_undo_174 flX11_147 rfl ?_
        refine g_iret dX11_undo_177 rfl ?_
        first
        | exact ⟨_, rfl, rfl, _, hM, hfin⟩
        | exact ⟨_, rfl, h10, _, hM, hfin⟩
      by_cases e38_2 : nI c.1 = 2
      · refine g_tbIn (c := 2) (tgt := 80) e38_2 dX11_undo_38 (by decide) (by decide) rfl (by decide) ?_
        have hk : c.1 = 2 := (nI_eq (b := 2) hkr (by decide)).mp e38_2
        obtain ⟨g, hg, hne⟩ : ∃ g, A.1[c.2.1]? = some g ∧ g.2 ≠ [] := by
          rcases hok c hlast with q | q | q | q | q | q
          · omega
          · exact q.2
          all_goals omega
        have hcl : c.2.1 < A.1.length := (List.getElem?_eq_some_iff.mp hg).1
        have hu : aUndo (aSetHs A L) c = (A.1.set c.2.1 (g.1, g.2.dropLast), (aSetHs A L).2) := by
          unfold aUndo
          rw [if_neg (by omega), if_pos hk]
          show (match A.1[c.2.1]? with | some g => _ | none => _) = _
          rw [hg]
          rfl
        rw [hu]
        have hcw : (nI c.2.1).toNatClampNeg = c.2.1 := nI_clamp (by omega)
        have hJ : vp_in (nI c.2.1) 60 := vp_in_nI (by omega) (by decide)
        obtain ⟨r1, r2, r3, r4⟩ := hR.1.2.2 c.2.1 g hg
        obtain ⟨m, hm⟩ : ∃ m, g.2.length = m + 1 := ⟨g.2.length - 1, by have := List.length_pos_iff.mpr hne; omega⟩
        have hfin : RepM (uI (ui S 10 (nI L.length)) 4 (upd (S.2.2.1 4) c.2.1 (nI m))) (A.1.set c.2.1 (g.1, g.2.dropLast), (aSetHs A L).2) := by
          refine hR1.forms _ (fun k hk => rfl) (fun k hk => ?_) (fun k hk => rfl) ?_ ?_ (fun f g' hg' => ?_)
          · simp only [List.mem_cons, List.not_mem_nil, or_false] at hk
            rcases hk with rfl | rfl | rfl | rfl | rfl | rfl <;> rfl
          · rw [List.length_set]; exact hR1.1.1
          · rw [List.length_set]; exact h60
          · by_cases hf : f = c.2.1
            · subst hf
              rw [List.getElem?_set] at hg'
              simp only [if_true, hcl] at hg'
              cases hg'
              refine ⟨r1, ?_, by rw [List.length_dropLast]; omega, fun q s hs => ?_⟩
              · show upd _ _ _ _ = _; rw [pk_us, List.length_dropLast, hm]; rfl
              · have hq := (List.getElem?_eq_some_iff.mp hs).1
                rw [List.length_dropLast] at hq
                rw [List.getElem?_dropLast, if_pos (by omega)] at hs
                exact r4 q s hs
            · rw [List.getElem?_set_ne (Ne.symm hf)] at hg'
              obtain ⟨s1, s2, s3, s4⟩ := hR.1.2.2 f g' hg'
              exact ⟨s1, by show upd _ _ _ f = _; rw [pk_un hf]; exact s2, s3, s4⟩
        refine g_aload_n (i := 0) dX11_undo_80 rfl rfl ?_
        refine gm_get hM (k := 4) dX11_undo_81 flX11_13 rfl ?_
        refine g_iload_n (i := 1) dX11_undo_84 rfl rfl ?_
        refine g_dup2 dX11_undo_85 rfl rfl ?_
        refine gm_iald hM dX11_undo_86 rfl (hJ) ?_
        refine g_toi (nI (m + 1)) (by rw [hcw, ← hm]; exact r2) ?_
        refine g_iconst (v := 1) dX11_undo_87 (by decide) ?_
        refine g_isub dX11_undo_88 ?_
        rw [nI_pred]
        refine gm_iast hM dX11_undo_89 rfl (hJ) (fun σ hM => ?_)
        refine g_goto (tgt := 173) dX11_undo_90 (by decide) ?_
        try rw [hcw] at hM
        refine g_aload_n (i := 0) dX11_undo_173 rfl rfl ?_
        refine gm_get hM (k := 10) dX11_undo_174 flX11_147 rfl ?_
        refine g_iret dX11_undo_177 rfl ?_
        first
        | exact ⟨_, rfl, rfl, _, hM, hfin⟩
        | exact ⟨_, rfl, h10, _, hM, hfin⟩
      by_cases e38_3 : nI c.1 = 3
      · refine g_tbIn (c := 3) (tgt := 93) e38_3 dX11_undo_38 (by decide) (by decide) rfl (by decide) ?_
        have hk : c.1 = 3 := (nI_eq (b := 3) hkr (by decide)).mp e38_3
        have hq : c.2.1 < 13 := by rcases hok c hlast with q | q | q | q | q | q <;> omega
        have hu : aUndo (aSetHs A L) c = (A.1, va_up A.2.1 c.2.1 c.2.2.2.1.toInt32, (aSetHs A L).2.2) := by
          unfold aUndo
          rw [if_neg (by omega), if_neg (by omega), if_pos hk]
          rfl
        rw [hu]
        have hcw : (nI c.2.1).toNatClampNeg = c.2.1 := nI_clamp (by omega)
        have hfin : RepM (uI (ui S 10 (nI L.length)) 8 (upd (S.2.2.1 8) c.2.1 c.2.2.2.1.toInt32)) (A.1, va_up A.2.1 c.2.1 c.2.2.2.1.toInt32, (aSetHs A L).2.2) := by
          obtain ⟨⟨a1, a2, a3⟩, b, c', d, ⟨e1, e2, e3⟩, f1, f2⟩ := hR1
          refine ⟨⟨a1, a2, fun f g hg => (a3 f g hg).of (fun k hk => ?_) rfl⟩, fun q hq => ?_, c', fun h hh => (d h hh).of rfl rfl rfl, ⟨e1, e2, fun q a ha => (e3 q a ha).of (fun k hk => ?_) rfl rfl⟩, f1, f2⟩
          · simp only [List.mem_cons, List.not_mem_nil, or_false] at hk
            rcases hk with rfl | rfl | rfl | rfl <;> rfl
          · show upd _ _ _ q = va_up _ _ _ q
            by_cases e : q = c.2.1
            · subst e; rw [pk_us, va_up_self]
            · rw [pk_un e, va_up_ne _ _ e]; exact b q hq
          · simp only [List.mem_cons, List.not_mem_nil, or_false] at hk
            rcases hk with rfl | rfl | rfl | rfl | rfl <;> rfl
        refine g_aload_n (i := 0) dX11_undo_93 rfl rfl ?_
        refine gm_get hM (k := 8) dX11_undo_94 flX11_26 rfl ?_
        refine g_iload_n (i := 1) dX11_undo_97 rfl rfl ?_
        refine g_aload_n (i := 0) dX11_undo_98 rfl rfl ?_
        refine gm_get hM (k := 14) dX11_undo_99 flX11_41 rfl ?_
        refine g_aload_n (i := 0) dX11_undo_102 rfl rfl ?_
        refine gm_get hM (k := 10) dX11_undo_103 flX11_147 rfl ?_
        refine gm_lald hM dX11_undo_106 rfl (hI) ?_
        refine g_tol c.2.2.2.1 (by show S.2.2.2 14 (nI L.length).toNatClampNeg = _; rw [hcn]; exact g4) ?_
        refine g_l2i dX11_undo_107 ?_
        refine gm_iast hM dX11_undo_108 rfl ((vp_in_nI hq (by decide) : vp_in (nI c.2.1) 13)) (fun σ hM => ?_)
        refine g_goto (tgt := 173) dX11_undo_109 (by decide) ?_
        try rw [hcw] at hM
        refine g_aload_n (i := 0) dX11_undo_173 rfl rfl ?_
        refine gm_get hM (k := 10) dX11_undo_174 flX11_147 rfl ?_
        refine g_iret dX11_undo_177 rfl ?_
        first
        | exact ⟨_, rfl, rfl, _, hM, hfin⟩
        | exact ⟨_, rfl, h10, _, hM, hfin⟩
      by_cases e38_4 : nI c.1 = 4
      · refine g_tbIn (c := 4) (tgt := 112) e38_4 dX11_undo_38 (by decide) (by decide) rfl (by decide) ?_
        have hk : c.1 = 4 := (nI_eq (b := 4) hkr (by decide)).mp e38_4
        have hq : c.2.1 < 4 := by rcases hok c hlast with q | q | q | q | q | q <;> omega
        have hu : aUndo (aSetHs A L) c = (A.1, A.2.1, va_up A.2.2.1 c.2.1 c.2.2.2.1, (aSetHs A L).2.2.2) := by
          unfold aUndo
          rw [if_neg (by omega), if_neg (by omega), if_neg (by omega), if_pos hk]
          rfl
        rw [hu]
        have hcw : (nI c.2.1).toNatClampNeg = c.2.1 := nI_clamp (by omega)
        have hfin : RepM (uJ (ui S 10 (nI L.length)) 27 (vp_updL (S.2.2.2 27) c.2.1 c.2.2.2.1)) (A.1, A.2.1, va_up A.2.2.1 c.2.1 c.2.2.2.1, (aSetHs A L).2.2.2) := by
          obtain ⟨⟨a1, a2, a3⟩, b, c', d, ⟨e1, e2, e3⟩, f1, f2⟩ := hR1
          refine ⟨⟨a1, a2, fun f g hg => (a3 f g hg).of (fun k hk => rfl) rfl⟩, b, fun q hq => ?_, fun h hh => (d h hh).of rfl rfl rfl, ⟨e1, e2, fun q a ha => (e3 q a ha).of (fun k hk => rfl) rfl rfl⟩, f1, f2⟩
          show vp_updL _ _ _ q = va_up _ _ _ q
          by_cases e : q = c.2.1
          · subst e; rw [pk_uLs, va_up_self]
          · rw [pk_uLn e, va_up_ne _ _ e]; exact c' q hq
        refine g_aload_n (i := 0) dX11_undo_112 rfl rfl ?_
        refine gm_get hM (k := 27) dX11_undo_113 flX11_56 rfl ?_
        refine g_iload_n (i := 1) dX11_undo_116 rfl rfl ?_
        refine g_aload_n (i := 0) dX11_undo_117 rfl rfl ?_
        refine gm_get hM (k := 14) dX11_undo_118 flX11_41 rfl ?_
        refine g_aload_n (i := 0) dX11_undo_121 rfl rfl ?_
        refine gm_get hM (k := 10) dX11_undo_122 flX11_147 rfl ?_
        refine gm_lald hM dX11_undo_125 rfl (hI) ?_
        refine g_tol c.2.2.2.1 (by show S.2.2.2 14 (nI L.length).toNatClampNeg = _; rw [hcn]; exact g4) ?_
        refine gm_last hM dX11_undo_126 rfl ((vp_in_nI hq (by decide) : vp_in (nI c.2.1) 4)) (fun σ hM => ?_)
        refine g_goto (tgt := 173) dX11_undo_127 (by decide) ?_
        try rw [hcw] at hM
        refine g_aload_n (i := 0) dX11_undo_173 rfl rfl ?_
        refine gm_get hM (k := 10) dX11_undo_174 flX11_147 rfl ?_
        refine g_iret dX11_undo_177 rfl ?_
        first
        | exact ⟨_, rfl, rfl, _, hM, hfin⟩
        | exact ⟨_, rfl, h10, _, hM, hfin⟩
      by_cases e38_5 : nI c.1 = 5
      · refine g_tbIn (c := 5) (tgt := 130) e38_5 dX11_undo_38 (by decide) (by decide) rfl (by decide) ?_
        have hk : c.1 = 5 := (nI_eq (b := 5) hkr (by decide)).mp e38_5
        have hq : c.2.1 < 8 := by rcases hok c hlast with q | q | q | q | q | q <;> omega
        have hu : aUndo (aSetHs A L) c = (A.1, A.2.1, A.2.2.1, va_up A.2.2.2.1 c.2.1 c.2.2.2.2, (aSetHs A L).2.2.2.2) := by
          unfold aUndo
          rw [if_neg (by omega), if_neg (by omega), if_neg (by omega), if_neg (by omega), if_pos hk]
          rfl
        rw [hu]
        have hcw : (nI c.2.1).toNatClampNeg = c.2.1 := nI_clamp (by omega)
        have he := g6 hk
        subst he
        refine g_aload_n (i := 0) dX11_undo_130 rfl rfl ?_
        refine g_bipush (v := 8) dX11_undo_131 (by decide) ?_
        refine g_aload_n (i := 0) dX11_undo_133 rfl rfl ?_
        refine gm_get hM (k := 10) dX11_undo_134 flX11_147 rfl ?_
        refine g_iadd dX11_undo_137 ?_
        refine g_toi (nI (8 + L.length)) (by rw [show (8 : Int32) = nI 8 from rfl]; exact nI_add _ _) ?_
        refine g_iload_n (i := 1) dX11_undo_138 rfl rfl ?_
        refine g_callVv (My := mX11_copyHeld) [_, _] dX11_undo_139 lkX11_143 mvX11_copyHeld rfl hM.1 rfl (c_X11_copyHeld hM (show 8 + L.length < 58 by omega) (show c.2.1 < 58 by omega) (g5.of rfl rfl rfl)) (by decide) (by decide) (by decide) rfl (Nat.le_of_ble_eq_true rfl) (fun σ zh139 => ?_)
        obtain ⟨S', hM, hs, k1, k2⟩ := zh139
        have hfin : RepM S' (A.1, A.2.1, A.2.2.1, va_up A.2.2.2.1 c.2.1 c.2.2.2.2, (aSetHs A L).2.2.2.2) := by
          refine hR1.hooks _ (fun k hk => by rw [hs.1]) (fun k hk => hs.2.2.1 k ?_) (fun k hk => hs.2.2.2 k ?_) (fun j hj => ?_) (fun j h' hj hr => k2 j h' (by omega) hr)
          · simp only [List.mem_cons, List.not_mem_nil, or_false] at hk ⊢
            omega
          · simp only [List.mem_cons, List.not_mem_nil, or_false] at hk ⊢
            omega
          · by_cases e : j = c.2.1
            · subst e; rw [va_up_self]; exact k1
            · rw [va_up_ne _ _ e]; exact k2 j _ e (hR1.2.2.2.1 j hj)
        have h10 : S'.1 10 = nI L.length := by rw [hs.1]; rfl
        refine g_goto (tgt := 173) dX11_undo_142 (by decide) ?_
        try rw [hcw] at hM
        refine g_aload_n (i := 0) dX11_undo_173 rfl rfl ?_
        refine gm_get hM (k := 10) dX11_undo_174 flX11_147 rfl ?_
        refine g_iret dX11_undo_177 rfl ?_
        first
        | exact ⟨_, rfl, rfl, _, hM, hfin⟩
        | exact ⟨_, rfl, h10, _, hM, hfin⟩
      refine g_tbOut (tgt := 145) dX11_undo_38 (g_out 1 5 (by intro i h1 h2; (rcases (show i = 1 ∨ i = 2 ∨ i = 3 ∨ i = 4 ∨ i = 5 by omega) with rfl | rfl | rfl | rfl | rfl) <;> simp_all)) (by decide) ?_
      have hq : c.1 = 6 ∧ c.2.1 < 8 ∧ c.2.2.1 < (A.2.2.2.1 c.2.1).2.length := by
        rcases hok c hlast with q | q | q | q | q | q
        · exact absurd (by rw [q.1]; rfl) e38_1
        · exact absurd (by rw [q.1]; rfl) e38_2
        · exact absurd (by rw [q.1]; rfl) e38_3
        · exact absurd (by rw [q.1]; rfl) e38_4
        · exact absurd (by rw [q.1]; rfl) e38_5
        · exact q
      obtain ⟨hk, hq8, hqp⟩ := hq
      have hu : aUndo (aSetHs A L) c = (A.1, A.2.1, A.2.2.1, va_up A.2.2.2.1 c.2.1 ((A.2.2.2.1 c.2.1).1, (A.2.2.2.1 c.2.1).2.set c.2.2.1 c.2.2.2.1), (aSetHs A L).2.2.2.2) := by
        unfold aUndo
        rw [if_neg (by omega), if_neg (by omega), if_neg (by omega), if_neg (by omega), if_neg (by omega)]
        rfl
      rw [hu]
      have hhk := hR.2.2.2.1 c.2.1 hq8
      have hcw : (nI (100 * c.2.1 + c.2.2.1)).toNatClampNeg = 100 * c.2.1 + c.2.2.1 := nI_clamp (by have := hhk.2.2.1; omega)
      have hfin : RepM (uJ (ui S 10 (nI L.length)) 17 (vp_updL (S.2.2.2 17) (100 * c.2.1 + c.2.2.1) c.2.2.2.1)) (A.1, A.2.1, A.2.2.1, va_up A.2.2.2.1 c.2.1 ((A.2.2.2.1 c.2.1).1, (A.2.2.2.1 c.2.1).2.set c.2.2.1 c.2.2.2.1), (aSetHs A L).2.2.2.2) := by
        have h12 := hhk.2.2.1
        refine hR1.hooks _ (fun k hk => rfl) (fun k hk => rfl) (fun k hk => ?_) (fun j hj => ?_) (fun j h' hj hr => ?_)
        · simp only [List.mem_cons, List.not_mem_nil, or_false] at hk
          rcases hk with rfl | rfl | rfl <;> rfl
        · by_cases e : j = c.2.1
          · subst e
            rw [va_up_self]
            refine ⟨hhk.1, by rw [List.length_set]; exact hhk.2.1, by rw [List.length_set]; exact h12, fun i v hv => ?_⟩
            show vp_updL _ _ _ _ = _
            by_cases ei : i = c.2.2.1
            · subst ei
              rw [List.getElem?_set] at hv
              simp only [if_true, hqp] at hv
              cases hv
              rw [pk_uLs]
            · rw [List.getElem?_set_ne (Ne.symm ei)] at hv
              rw [pk_uLn (by omega)]
              exact hhk.2.2.2 i v hv
          · rw [va_up_ne _ _ e]
            obtain ⟨s1, s2, s3, s4⟩ := hR.2.2.2.1 j hj
            refine ⟨s1, s2, s3, fun i v hv => ?_⟩
            have hi := (List.getElem?_eq_some_iff.mp hv).1
            show vp_updL _ _ _ _ = _
            rw [pk_uLn (by omega)]
            exact s4 i v hv
        · obtain ⟨s1, s2, s3, s4⟩ := hr
          refine ⟨s1, s2, s3, fun i v hv => ?_⟩
          have hi := (List.getElem?_eq_some_iff.mp hv).1
          show vp_updL _ _ _ _ = _
          rw [pk_uLn (by omega)]
          exact s4 i v hv
      refine g_aload_n (i := 0) dX11_undo_145 rfl rfl ?_
      refine gm_get hM (k := 17) dX11_undo_146 flX11_50 rfl ?_
      refine g_bipush (v := 100) dX11_undo_149 (by decide) ?_
      refine g_iload_n (i := 1) dX11_undo_151 rfl rfl ?_
      refine g_imul dX11_undo_152 ?_
      refine g_aload_n (i := 0) dX11_undo_153 rfl rfl ?_
      refine gm_get hM (k := 13) dX11_undo_154 flX11_38 rfl ?_
      refine g_aload_n (i := 0) dX11_undo_157 rfl rfl ?_
      refine gm_get hM (k := 10) dX11_undo_158 flX11_147 rfl ?_
      refine gm_iald hM dX11_undo_161 rfl (hI) ?_
      refine g_toi (nI c.2.2.1) (by show S.2.2.1 13 (nI L.length).toNatClampNeg = _; rw [hcn]; exact g3) ?_
      refine g_iadd dX11_undo_162 ?_
      rw [ix100]
      refine g_aload_n (i := 0) dX11_undo_163 rfl rfl ?_
      refine gm_get hM (k := 14) dX11_undo_164 flX11_41 rfl ?_
      refine g_aload_n (i := 0) dX11_undo_167 rfl rfl ?_
      refine gm_get hM (k := 10) dX11_undo_168 flX11_147 rfl ?_
      refine gm_lald hM dX11_undo_171 rfl (hI) ?_
      refine g_tol c.2.2.2.1 (by show S.2.2.2 14 (nI L.length).toNatClampNeg = _; rw [hcn]; exact g4) ?_
      refine gm_last hM dX11_undo_172 rfl ((vp_in_nI (show 100 * c.2.1 + c.2.2.1 < 5800 by have := hhk.2.2.1; omega) (by decide) : vp_in (nI (100 * c.2.1 + c.2.2.1)) 5800)) (fun σ hM => ?_)
      try rw [hcw] at hM
      refine g_aload_n (i := 0) dX11_undo_173 rfl rfl ?_
      refine gm_get hM (k := 10) dX11_undo_174 flX11_147 rfl ?_
      refine g_iret dX11_undo_177 rfl ?_
      first
      | exact ⟨_, rfl, rfl, _, hM, hfin⟩
      | exact ⟨_, rfl, h10, _, hM, hfin⟩
    · exact absurd (by rw [e10, hlen] at zc4; exact zc4) (nI_ne0 (by omega) (by omega))
end CMundo
