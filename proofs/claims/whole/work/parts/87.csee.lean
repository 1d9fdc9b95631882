/-! the class's search: fillUpTo, isRight, keep -/
section CSee
variable {l : Launch} {τ : gH} {ow : Nat → Nat} {sr : Nat} {ad : Nat → Nat} {ac cc bc bl : Int32} {f : Nat → Int64} {q : List Nat} {dq : Nat → Int64} {pr : Nat → Nat} {P : List cT} {post : Option Value → gH → Prop} {I0 : Nat → Nat → Int32} {J0 : Nat → Nat → Int64}
theorem rwX_put {fl : Nat → Nat} {I : Nat → Nat → Int32} {J : Nat → Nat → Int64} (hR : rwX f q P fl I J) {k : Nat} (hk1 : 1 ≤ k) (hi : fl k < q.length) (hmn : ∀ j, j < k → fl k < fl j) {w : Int64} (hw : ∀ v, q[fl k]? = some v → w = opA 8 (P.map (stT f)) (lN v) k k) : rwX f q P (va_up fl k (fl k + 1)) (va_up I 16 (upd (I 16) k (nI (fl k + 1)))) (va_up J (13 + k) (vp_updL (J (13 + k)) (fl k) w)) := by
  refine ⟨(va_up_ne _ _ (by omega)).trans hR.1, fun j hj => ?_, fun j hj => ?_⟩
  rotate_left
  · have hm := hR.2.2 j hj
    by_cases e1 : j + 1 = k
    · rw [e1, va_up_self, va_up_ne _ _ (show j ≠ k by omega)]
      exact hmn j (by omega)
    · rw [va_up_ne _ _ e1]
      by_cases e2 : j = k
      · subst e2
        rw [va_up_self]
        omega
      · rw [va_up_ne _ _ e2]
        exact hm
  obtain ⟨h1, h2, h3⟩ := hR.2.1 j hj
  rw [va_up_self]
  by_cases e : j = k
  · subst e
    rw [va_up_self, va_up_self]
    refine ⟨pk_us, hi, fun i v hiv hv => ?_⟩
    by_cases e' : i = fl j
    · subst e'
      exact (if_pos rfl).trans (hw v hv)
    · exact (if_neg e').trans (h3 i v (by omega) hv)
  · rw [va_up_ne _ _ e, va_up_ne _ _ (show 13 + j ≠ 13 + k by omega)]
    exact ⟨(pk_un e).trans h1, h2, h3⟩
def fiP (τ : gH) (ow : Nat → Nat) (sr : Nat) (ad : Nat → Nat) (ac cc bc bl : Int32) (f : Nat → Int64) (q : List Nat) (P : List cT) (I0 : Nat → Nat → Int32) (J0 : Nat → Nat → Int64) (last m : Nat) (σ' : gH) : Prop := ∃ I J fl, SeY τ σ' ow sr ad (ac, cc, bc, bl) I J ∧ noF I0 I J0 J ∧ rwX f q P fl I J ∧ ∀ j, j < m → last < fl j
theorem l15_X8_fill (hT : TEc f q dq pr ac cc I0 J0) (hpk : pkR f P I0) (hg : gdP f P) (hD : P.length < 3) {last : Nat} (hlast : last < q.length) {k : Nat} (hk1 : 1 ≤ k) (hk : k ≤ P.length) (K : ∀ (σ' : gH) (v4 : Option Value), fiP τ ow sr ad ac cc bc bl f q P I0 J0 last (k + 1) σ' → G l mX8_fillUpTo 5 0 0 post σ' 60 [some (.ref sr), some (.int (nI P.length)), some (.int (nI last)), some (.int (nI k)), v4] []) : ∀ (n : Nat) (σ : gH) (I : Nat → Nat → Int32) (J : Nat → Nat → Int64) (fl : Nat → Nat), last + 1 - fl k = n → SeY τ σ ow sr ad (ac, cc, bc, bl) I J → noF I0 I J0 J → rwX f q P fl I J → (∀ j, j < k → last < fl j) → G l mX8_fillUpTo 5 0 0 post σ 15 [some (.ref sr), some (.int (nI P.length)), some (.int (nI last)), some (.int (nI k)), some (.int (nI (fl k)))] [] := by
  have hq := hT.2.1.2.1
  have hkc : (nI k).toNatClampNeg = k := nI_clamp (by omega)
  have hIk : vp_in (nI k) 3 := vp_in_nI (by omega) (by decide)
  intro n
  induction n with
  | zero =>
    intro σ I J fl hn hS hF hR hlt
    have := (hR.2.1 k hk).2.1
    refine g_iload dX8_fillUpTo_15 rfl ?_
    refine g_iload_n (i := 2) dX8_fillUpTo_17 rfl rfl ?_
    refine g_icmp_gt (tgt := 60) dX8_fillUpTo_18 (by decide) (fun zc18 => ?_) (fun zc18 => ?_)
    · exact K _ _ ⟨I, J, fl, hS, hF, hR, fun j hj => by
        by_cases e : j = k
        · subst e; omega
        · exact hlt j (by omega)⟩
    · exact absurd (nI_lt (show last < fl k by omega) (by omega)) zc18
  | succ n ih =>
    intro σ I J fl hn hS hF hR hlt
    have hi : fl k ≤ last := by omega
    have hic : (nI (fl k)).toNatClampNeg = fl k := nI_clamp (by omega)
    have hIi : vp_in (nI (fl k)) 256 := vp_in_nI (by omega) (by decide)
    obtain ⟨m, rfl⟩ : ∃ m, k = m + 1 := ⟨k - 1, by omega⟩
    have hmc : (nI m).toNatClampNeg = m := nI_clamp (by omega)
    have hIm : vp_in (nI m) 3 := vp_in_nI (by omega) (by decide)
    have hPm : ∃ t, P[m]? = some t := ⟨P[m]'(by omega), List.getElem?_eq_getElem (by omega)⟩
    obtain ⟨t, ht⟩ := hPm
    obtain ⟨c, hc1, hc2⟩ := hpk.eq (hF.1 21 (by decide)) m t ht
    have hgt := hg m t ht
    have hqv : ∃ v, q[fl (m + 1)]? = some v := ⟨q[fl (m + 1)]'(by omega), List.getElem?_eq_getElem (by omega)⟩
    obtain ⟨v, hv⟩ := hqv
    obtain ⟨hvo, hX⟩ := vo_op hR hg (k := m) (by omega) (by omega) hgt ht (fun j hj w => opA_le _ _ _ hj) hv (fun j hj => by have := hlt j (by omega); omega)
    have hT' := hT.noF hF
    refine g_iload dX8_fillUpTo_15 rfl ?_
    refine g_iload_n (i := 2) dX8_fillUpTo_17 rfl rfl ?_
    refine g_icmp_gt (tgt := 60) dX8_fillUpTo_18 (by decide) (fun zc18 => ?_) (fun zc18 => ?_)
    · exact absurd zc18 (nI_nlt hi (by omega))
    · refine g_aload_n (i := 0) dX8_fillUpTo_21 rfl rfl ?_
      refine g_getf dX8_fillUpTo_22 flX8_21 (by first | exact hS.1.1.1 | exact hS.1.2.1.2.2.1 | exact hS.1.2.2.2.1.1 | exact hS.1.2.2.2.2.2.2.2.2.1.1 | exact (hS.1.2.2.1 (m + 1) (by omega)).1) rfl ?_
      refine g_iload_n (i := 3) dX8_fillUpTo_25 rfl rfl ?_
      refine g_aaldA dX8_fillUpTo_26 (by first | exact hS.1.1.1 | exact hS.1.2.1.2.2.1 | exact hS.1.2.2.2.1.1 | exact hS.1.2.2.2.2.2.2.2.2.1.1 | exact (hS.1.2.2.1 (m + 1) (by omega)).1) (by first | exact hIk | exact hIi | exact hIm) ?_
      refine g_tor (ad (13 + (m + 1))) (by rw [hkc]) ?_
      refine g_iload dX8_fillUpTo_27 rfl ?_
      refine g_aload_n (i := 0) dX8_fillUpTo_29 rfl rfl ?_
      refine g_aload_n (i := 0) dX8_fillUpTo_30 rfl rfl ?_
      refine g_getf dX8_fillUpTo_31 flX8_39 (by first | exact hS.1.1.1 | exact hS.1.2.1.2.2.1 | exact hS.1.2.2.2.1.1 | exact hS.1.2.2.2.2.2.2.2.2.1.1 | exact (hS.1.2.2.1 (m + 1) (by omega)).1) rfl ?_
      refine g_iload_n (i := 3) dX8_fillUpTo_34 rfl rfl ?_
      refine g_iconst (v := 1) dX8_fillUpTo_35 (by decide) ?_
      refine g_isub dX8_fillUpTo_36 ?_
      rw [nI_pred]
      refine g_iald dX8_fillUpTo_37 (by first | exact hS.1.1.1 | exact hS.1.2.1.2.2.1 | exact hS.1.2.2.2.1.1 | exact hS.1.2.2.2.2.2.2.2.2.1.1 | exact (hS.1.2.2.1 (m + 1) (by omega)).1) (by first | exact hIk | exact hIi | exact hIm) ?_
      rw [hmc, hc1]
      refine g_iload dX8_fillUpTo_38 rfl ?_
      refine g_callVl (My := mX8_valueOf) [_, _] dX8_fillUpTo_40 lkX8_121 mvX8_valueOf rfl (by first | exact hS.1.1.1 | exact hS.1.2.1.2.2.1 | exact hS.1.2.2.2.1.1 | exact hS.1.2.2.2.2.2.2.2.2.1.1 | exact (hS.1.2.2.1 (m + 1) (by omega)).1) rfl (c_X8_valueOf hS.1 hT'.1 hc2 (show fl (m + 1) < 256 by omega) hX) (by decide) (by decide) (by decide) rfl (Nat.le_of_ble_eq_true rfl) (fun zr40 σ zh40 => ?_)
      obtain ⟨ze40, zf40⟩ := zh40
      rw [ze40, zf40, hvo]
      refine g_last dX8_fillUpTo_43 (by first | exact hS.1.1.1 | exact hS.1.2.1.2.2.1 | exact hS.1.2.2.2.1.1 | exact hS.1.2.2.2.2.2.2.2.2.1.1 | exact (hS.1.2.2.1 (m + 1) (by omega)).1) (by first | exact hIk | exact hIi | exact hIm) ?_
      rw [hic]
      have hS := hS.wr (k := m + 1) (by omega) (vp_updL (J (13 + (m + 1))) (fl (m + 1)) (opA 8 (P.map (stT f)) (lN v) (m + 1) (m + 1)))
      refine g_aload_n (i := 0) dX8_fillUpTo_44 rfl rfl ?_
      refine g_getf dX8_fillUpTo_45 flX8_24 (by first | exact hS.1.1.1 | exact hS.1.2.1.2.2.1 | exact hS.1.2.2.2.1.1 | exact hS.1.2.2.2.2.2.2.2.2.1.1 | exact (hS.1.2.2.1 (m + 1) (by omega)).1) rfl ?_
      refine g_iload_n (i := 3) dX8_fillUpTo_48 rfl rfl ?_
      refine g_iload dX8_fillUpTo_49 rfl ?_
      refine g_iconst (v := 1) dX8_fillUpTo_51 (by decide) ?_
      refine g_iadd dX8_fillUpTo_52 ?_
      rw [nI_1]
      refine g_iast dX8_fillUpTo_53 (by first | exact hS.1.1.1 | exact hS.1.2.1.2.2.1 | exact hS.1.2.2.2.1.1 | exact hS.1.2.2.2.2.2.2.2.2.1.1 | exact (hS.1.2.2.1 (m + 1) (by omega)).1) (by first | exact hIk | exact hIi | exact hIm) ?_
      rw [hkc]
      have hS := hS.w16 (upd (I 16) (m + 1) (nI (fl (m + 1) + 1)))
      refine g_iinc (v := _ + 1) (ls' := [_, _, _, _, _]) dX8_fillUpTo_54 rfl rfl (by decide) rfl rfl ?_
      refine g_goto (tgt := 15) dX8_fillUpTo_57 (by decide) ?_
      refine g_cl (by rw [nI_1, va_up_self]) (ih _ _ _ (va_up fl (m + 1) (fl (m + 1) + 1)) ?_ hS ?_ (rwX_put hR hk1 (by omega) (fun j hj => by have := hlt j hj; omega) (fun v' hv' => by rw [hv] at hv'; cases hv'; rfl)) (fun j hj => ?_))
      · rw [va_up_self]; omega
      · refine hF.tr ⟨fun j hj => va_up_ne _ _ hj, fun j hj => va_up_ne _ _ (by omega), ?_⟩
        rw [va_up_self]
        exact pk_un (by omega)
      · rw [va_up_ne _ _ (by omega)]
        exact hlt j hj
theorem l2b {σ : gH} {D last k : Nat} {v4 : Option Value} (K : G l mX8_fillUpTo 5 0 0 post σ 2 [some (.ref sr), some (.int (nI D)), some (.int (nI last)), some (.int (nI k + 1)), v4] []) : G l mX8_fillUpTo 5 0 0 post σ 60 [some (.ref sr), some (.int (nI D)), some (.int (nI last)), some (.int (nI k)), v4] [] := by
  refine g_iinc (v := _ + 1) (ls' := [_, _, _, _, _]) dX8_fillUpTo_60 rfl rfl (by decide) rfl rfl ?_
  refine g_goto (tgt := 2) dX8_fillUpTo_63 (by decide) ?_
  exact K
theorem l2_X8_fill (hT : TEc f q dq pr ac cc I0 J0) (hpk : pkR f P I0) (hg : gdP f P) (hD : P.length < 3) {last : Nat} (hlast : last < q.length) : ∀ (n k : Nat) (σ : gH) (v4 : Option Value), k + n = P.length + 1 → 1 ≤ k → fiP τ ow sr ad ac cc bc bl f q P I0 J0 last k σ → G l mX8_fillUpTo 5 0 0 (pV (fiP τ ow sr ad ac cc bc bl f q P I0 J0 last (P.length + 1))) σ 2 [some (.ref sr), some (.int (nI P.length)), some (.int (nI last)), some (.int (nI k)), v4] [] := by
  have hq := hT.2.1.2.1
  intro n
  induction n with
  | zero =>
    intro k σ v4 hk hk1 hP
    obtain rfl : k = P.length + 1 := by omega
    refine g_iload_n (i := 3) dX8_fillUpTo_2 rfl rfl ?_
    refine g_iload_n (i := 1) dX8_fillUpTo_3 rfl rfl ?_
    refine g_icmp_gt (tgt := 66) dX8_fillUpTo_4 (by decide) (fun zc4 => ?_) (fun zc4 => ?_)
    · refine g_vret dX8_fillUpTo_66 rfl ?_
      exact ⟨rfl, hP⟩
    · exact absurd (nI_lt (Nat.lt_succ_self _) (by omega)) zc4
  | succ n ih =>
    intro k σ v4 hk hk1 hP
    obtain ⟨I, J, fl, hS, hF, hR, hlt⟩ := hP
    have hkc : (nI k).toNatClampNeg = k := nI_clamp (by omega)
    have hIk : vp_in (nI k) 3 := vp_in_nI (by omega) (by decide)
    have e16 := (hR.2.1 k (by omega)).1
    refine g_iload_n (i := 3) dX8_fillUpTo_2 rfl rfl ?_
    refine g_iload_n (i := 1) dX8_fillUpTo_3 rfl rfl ?_
    refine g_icmp_gt (tgt := 66) dX8_fillUpTo_4 (by decide) (fun zc4 => ?_) (fun zc4 => ?_)
    · exact absurd zc4 (nI_nlt (by omega) (by omega))
    · refine g_aload_n (i := 0) dX8_fillUpTo_7 rfl rfl ?_
      refine g_getf dX8_fillUpTo_8 flX8_24 (by first | exact hS.1.1.1 | exact hS.1.2.2.2.1.1) rfl ?_
      refine g_iload_n (i := 3) dX8_fillUpTo_11 rfl rfl ?_
      refine g_iald dX8_fillUpTo_12 (by first | exact hS.1.1.1 | exact hS.1.2.2.2.1.1) (hIk) ?_
      rw [hkc, e16]
      refine g_istore (ls' := [_, _, _, _, _]) dX8_fillUpTo_13 (by decide) rfl rfl ?_
      refine l15_X8_fill hT hpk hg hD hlast hk1 (by omega) (fun σ' v4' hP' => ?_) _ σ I J fl rfl hS hF hR hlt
      exact l2b (k := k) (g_cl (by rw [nI_1]) (ih (k + 1) σ' _ (by omega) (by omega) hP'))
theorem c_X8_fillUpTo {σ : gH} {fl : Nat → Nat} (hT : TEc f q dq pr ac cc I0 J0) (hpk : pkR f P I0) (hg : gdP f P) (hD : P.length < 3) {last : Nat} (hlast : last < q.length) (hS : SeY τ σ ow sr ad (ac, cc, bc, bl) I0 J0) (hR : rwX f q P fl I0 J0) : Ct l mX8_fillUpTo 5 0 0 [.ref sr, .int (nI P.length), .int (nI last)] σ (pV (fiP τ ow sr ad ac cc bc bl f q P I0 J0 last (P.length + 1))) := by
  obtain ⟨D, hDe⟩ : ∃ D, D = P.length := ⟨_, rfl⟩
  rw [← hDe]
  refine Ct_of moX8_fillUpTo [some (.ref sr), some (.int (nI D)), some (.int (nI last)), none, none] rfl (Nat.le_of_ble_eq_true rfl) ?_
  refine g_iconst (v := 1) dX8_fillUpTo_0 (by decide) ?_
  refine g_istore_n (i := 3) (ls' := [_, _, _, _, _]) dX8_fillUpTo_1 rfl (by decide) rfl rfl ?_
  rw [hDe]
  exact l2_X8_fill hT hpk hg hD hlast P.length 1 σ _ (by omega) (by omega) ⟨I0, J0, fl, hS, noF.rf _ _, hR, fun j hj => by
    obtain rfl : j = 0 := by omega
    rw [hR.1]; exact hlast⟩
/-- what isRight finds -/
def irP (τ : gH) (ow : Nat → Nat) (sr : Nat) (ad : Nat → Nat) (ac cc bc bl : Int32) (f : Nat → Int64) (q : List Nat) (P : List cT) (I0 : Nat → Nat → Int32) (J0 : Nat → Nat → Int64) (σ' : gH) : Prop := ∃ I J fl, SeY τ σ' ow sr ad (ac, cc, bc, bl) I J ∧ noF I0 I J0 J ∧ rwX f q P fl I J
theorem lp_X8_isRight (hT : TEc f q dq pr ac cc I0 J0) {t : cT} (hpk : pkR f (P ++ [t]) I0) (hg : gdP f (P ++ [t])) (hD : P.length < 3) : ∀ (n i : Nat) (σ : gH), i + n = q.length → irP τ ow sr ad ac cc bc bl f q P I0 J0 σ → (∀ j v, j < i → q[j]? = some v → opA 8 ((P ++ [t]).map (stT f)) (lN v) (P.length + 1) (P.length + 1) = dq v) → G l mX8_isRight 6 0 0 (pI fun r σ' => r = bI (∀ v ∈ q, opA 8 ((P ++ [t]).map (stT f)) (lN v) (P.length + 1) (P.length + 1) = dq v) ∧ irP τ ow sr ad ac cc bc bl f q P I0 J0 σ') σ 2 [some (.ref sr), some (.int (nI P.length)), some (.int (nI i))] [] := by
  have hq := hT.2.1.2.1
  have hac := hT.2.1.1
  have hgP : gdP f P := fun k s hs => hg k s (by rw [List.getElem?_append_left ((List.getElem?_eq_some_iff.mp hs).1)]; exact hs)
  have hpP : pkR f P I0 := fun k s hs => hpk k s (by rw [List.getElem?_append_left ((List.getElem?_eq_some_iff.mp hs).1)]; exact hs)
  have htl : (P ++ [t])[P.length]? = some t := by simp
  have hgt := hg _ t htl
  have hDc : (nI P.length).toNatClampNeg = P.length := nI_clamp (by omega)
  have hID : vp_in (nI P.length) 3 := vp_in_nI hD (by decide)
  intro n
  induction n with
  | zero =>
    intro i σ hi hP hall
    obtain ⟨I, J, fl, hS, hF, hR⟩ := hP
    obtain rfl : i = q.length := by omega
    subst hac
    refine g_iload_n (i := 2) dX8_isRight_2 rfl rfl ?_
    refine g_aload_n (i := 0) dX8_isRight_3 rfl rfl ?_
    refine g_getf dX8_isRight_4 flX8_58 (hS.1.1.1) rfl ?_
    refine g_icmp_ge (tgt := 55) dX8_isRight_7 (by decide) (fun zc7 => ?_) (fun zc7 => ?_)
    · refine g_iconst (v := 1) dX8_isRight_55 (by decide) ?_
      refine g_zret dX8_isRight_56 rfl (rfl) ?_
      refine ⟨_, rfl, (bI_t (fun v hv => ?_)).symm, I, J, fl, hS, hF, hR⟩
      obtain ⟨j, hj⟩ := List.mem_iff_getElem?.mp hv
      exact hall j v ((List.getElem?_eq_some_iff.mp hj).1) hj
    · exact absurd (nI_le (Nat.le_refl _) (by omega)) zc7
  | succ n ih =>
    intro i σ hi hP hall
    have hqv : ∃ v, q[i]? = some v := ⟨q[i]'(by omega), List.getElem?_eq_getElem (by omega)⟩
    obtain ⟨v, hv⟩ := hqv
    have hic : (nI i).toNatClampNeg = i := nI_clamp (by omega)
    have hIi : vp_in (nI i) 256 := vp_in_nI (by omega) (by decide)
    have tail : ∀ (σ : gH), fiP τ ow sr ad ac cc bc bl f q P I0 J0 i (P.length + 1) σ → G l mX8_isRight 6 0 0 (pI fun r σ' => r = bI (∀ v ∈ q, opA 8 ((P ++ [t]).map (stT f)) (lN v) (P.length + 1) (P.length + 1) = dq v) ∧ irP τ ow sr ad ac cc bc bl f q P I0 J0 σ') σ 26 [some (.ref sr), some (.int (nI P.length)), some (.int (nI i))] [] := by
      intro σ hP
      obtain ⟨I, J, fl, hS, hF, hR, hfl⟩ := hP
      obtain ⟨c, hc1, hc2⟩ := hpk.eq (hF.1 21 (by decide)) P.length t htl
      obtain ⟨hvo, hX⟩ := vo_op hR hgP (k := P.length) (Nat.le_refl _) hD hgt htl (fun j hj w => by rw [List.map_append, opA_app _ _ _ _ (by rw [List.length_map]; exact Nat.le_refl _), opA_le _ _ _ hj]) hv (fun j hj => hfl j (by omega))
      have hT' := hT.noF hF
      have ew := (hT'.2.1.2.2 i v hv).2.1
      refine g_aload_n (i := 0) dX8_isRight_26 rfl rfl ?_
      refine g_aload_n (i := 0) dX8_isRight_27 rfl rfl ?_
      refine g_getf dX8_isRight_28 flX8_39 (by first | exact hS.1.1.1 | exact hS.1.2.1.2.1.1 | exact hS.1.2.2.2.2.2.2.2.2.1.1) rfl ?_
      refine g_iload_n (i := 1) dX8_isRight_31 rfl rfl ?_
      refine g_iald dX8_isRight_32 (by first | exact hS.1.1.1 | exact hS.1.2.1.2.1.1 | exact hS.1.2.2.2.2.2.2.2.2.1.1) (by first | exact hID | exact hIi) ?_
      rw [hDc, hc1]
      refine g_iload_n (i := 2) dX8_isRight_33 rfl rfl ?_
      refine g_callVl (My := mX8_valueOf) [_, _] dX8_isRight_34 lkX8_121 mvX8_valueOf rfl (by first | exact hS.1.1.1 | exact hS.1.2.1.2.1.1 | exact hS.1.2.2.2.2.2.2.2.2.1.1) rfl (c_X8_valueOf hS.1 hT'.1 hc2 (show i < 256 by omega) hX) (by decide) (by decide) (by decide) rfl (Nat.le_of_ble_eq_true rfl) (fun zr34 σ zh34 => ?_)
      obtain ⟨ze34, zf34⟩ := zh34
      rw [ze34, zf34, hvo]
      refine g_aload_n (i := 0) dX8_isRight_37 rfl rfl ?_
      refine g_getf dX8_isRight_38 flX8_15 (by first | exact hS.1.1.1 | exact hS.1.2.1.2.1.1 | exact hS.1.2.2.2.2.2.2.2.2.1.1) rfl ?_
      refine g_iload_n (i := 2) dX8_isRight_41 rfl rfl ?_
      refine g_lald dX8_isRight_42 (by first | exact hS.1.1.1 | exact hS.1.2.1.2.1.1 | exact hS.1.2.2.2.2.2.2.2.2.1.1) (by first | exact hID | exact hIi) ?_
      rw [hic, ew]
      refine g_lcmp dX8_isRight_43 ?_
      refine g_if_eq (tgt := 49) dX8_isRight_44 (by decide) (fun zc44 => ?_) (fun zc44 => ?_)
      · refine g_iinc (v := _ + 1) (ls' := [_, _, _]) dX8_isRight_49 rfl rfl (by decide) rfl rfl ?_
        refine g_goto (tgt := 2) dX8_isRight_52 (by decide) ?_
        refine g_cl (by rw [nI_1]) (ih (i + 1) _ (by omega) ⟨I, J, fl, hS, hF, hR⟩ (fun j w hj hw => ?_))
        by_cases e : j = i
        · subst e
          rw [hv] at hw
          cases hw
          exact (lg_cmp_eq _ _).mp zc44
        · exact hall j w (by omega) hw
      · refine g_iconst (v := 0) dX8_isRight_47 (by decide) ?_
        refine g_zret dX8_isRight_48 rfl (rfl) ?_
        exact ⟨_, rfl, (bI_f (fun z => zc44 ((lg_cmp_eq _ _).mpr (z v (List.mem_of_getElem? hv))))).symm, I, J, fl, hS, hF, hR⟩
    obtain ⟨I, J, fl, hS, hF, hR⟩ := hP
    have e16 := (hR.2.1 P.length (Nat.le_refl _)).1
    have h256 := (hR.2.1 P.length (Nat.le_refl _)).2.1
    subst hac
    by_cases hfi : fl P.length ≤ i
    · refine g_iload_n (i := 2) dX8_isRight_2 rfl rfl ?_
      refine g_aload_n (i := 0) dX8_isRight_3 rfl rfl ?_
      refine g_getf dX8_isRight_4 flX8_58 (by first | exact hS.1.1.1 | exact hS.1.2.2.2.1.1) rfl ?_
      refine g_icmp_ge (tgt := 55) dX8_isRight_7 (by decide) (fun zc7 => ?_) (fun zc7 => ?_)
      · exact absurd zc7 (nI_ge (by omega) (by omega))
      · refine g_aload_n (i := 0) dX8_isRight_10 rfl rfl ?_
        refine g_getf dX8_isRight_11 flX8_24 (by first | exact hS.1.1.1 | exact hS.1.2.2.2.1.1) rfl ?_
        refine g_iload_n (i := 1) dX8_isRight_14 rfl rfl ?_
        refine g_iald dX8_isRight_15 (by first | exact hS.1.1.1 | exact hS.1.2.2.2.1.1) (hID) ?_
        rw [hDc, e16]
        refine g_iload_n (i := 2) dX8_isRight_16 rfl rfl ?_
        refine g_icmp_gt (tgt := 26) dX8_isRight_17 (by decide) (fun zc17 => ?_) (fun zc17 => ?_)
        · exact absurd zc17 (nI_nlt hfi (by omega))
        · refine g_aload_n (i := 0) dX8_isRight_20 rfl rfl ?_
          refine g_iload_n (i := 1) dX8_isRight_21 rfl rfl ?_
          refine g_iload_n (i := 2) dX8_isRight_22 rfl rfl ?_
          refine g_callVv (My := mX8_fillUpTo) [_, _] dX8_isRight_23 lkX8_118 mvX8_fillUpTo rfl (by first | exact hS.1.1.1 | exact hS.1.2.2.2.1.1) rfl (c_X8_fillUpTo (hT.noF hF) (hpP.eq (hF.1 21 (by decide))) hgP hD (show i < q.length by omega) hS hR) (by decide) (by decide) (by decide) rfl (Nat.le_of_ble_eq_true rfl) (fun σ zh23 => ?_)
          obtain ⟨I1, J1, fl1, hS1, hF1, hR1, hlt1⟩ := zh23
          exact tail _ ⟨I1, J1, fl1, hS1, hF.tr hF1, hR1, hlt1⟩
    · refine g_iload_n (i := 2) dX8_isRight_2 rfl rfl ?_
      refine g_aload_n (i := 0) dX8_isRight_3 rfl rfl ?_
      refine g_getf dX8_isRight_4 flX8_58 (by first | exact hS.1.1.1 | exact hS.1.2.2.2.1.1) rfl ?_
      refine g_icmp_ge (tgt := 55) dX8_isRight_7 (by decide) (fun zc7 => ?_) (fun zc7 => ?_)
      · exact absurd zc7 (nI_ge (by omega) (by omega))
      · refine g_aload_n (i := 0) dX8_isRight_10 rfl rfl ?_
        refine g_getf dX8_isRight_11 flX8_24 (by first | exact hS.1.1.1 | exact hS.1.2.2.2.1.1) rfl ?_
        refine g_iload_n (i := 1) dX8_isRight_14 rfl rfl ?_
        refine g_iald dX8_isRight_15 (by first | exact hS.1.1.1 | exact hS.1.2.2.2.1.1) (hID) ?_
        rw [hDc, e16]
        refine g_iload_n (i := 2) dX8_isRight_16 rfl rfl ?_
        refine g_icmp_gt (tgt := 26) dX8_isRight_17 (by decide) (fun zc17 => ?_) (fun zc17 => ?_)
        · exact tail _ ⟨I, J, fl, hS, hF, hR, fun j hj => by
            have := hR.mn (P.length - j) j (by omega)
            rw [show j + (P.length - j) = P.length by omega] at this
            omega⟩
        · exact absurd (nI_lt (show i < fl P.length by omega) (by omega)) zc17
theorem c_X8_isRight {σ : gH} {fl : Nat → Nat} (hT : TEc f q dq pr ac cc I0 J0) {t : cT} (hpk : pkR f (P ++ [t]) I0) (hg : gdP f (P ++ [t])) (hD : P.length < 3) (hS : SeY τ σ ow sr ad (ac, cc, bc, bl) I0 J0) (hR : rwX f q P fl I0 J0) : Ct l mX8_isRight 6 0 0 [.ref sr, .int (nI P.length)] σ (pI fun r σ' => r = bI (∀ v ∈ q, opA 8 ((P ++ [t]).map (stT f)) (lN v) (P.length + 1) (P.length + 1) = dq v) ∧ irP τ ow sr ad ac cc bc bl f q P I0 J0 σ') := by
  obtain ⟨D, hDe⟩ : ∃ D, D = P.length := ⟨_, rfl⟩
  have key := lp_X8_isRight (l := l) hT hpk hg hD q.length 0 σ (by omega) ⟨I0, J0, fl, hS, noF.rf _ _, hR⟩ (fun j v hj => absurd hj (by omega))
  rw [← hDe] at key ⊢
  refine Ct_of moX8_isRight [some (.ref sr), some (.int (nI D)), none] rfl (Nat.le_of_ble_eq_true rfl) ?_
  refine g_iconst (v := 0) dX8_isRight_0 (by decide) ?_
  refine g_istore_n (i := 2) (ls' := [_, _, _]) dX8_isRight_1 rfl (by decide) rfl rfl ?_
  exact key
theorem lp_X8_keep {I : Nat → Nat → Int32} {J : Nat → Nat → Int64} {len : Nat} (hlen : len ≤ 3) (w2 : Int32) : ∀ (n k : Nat) (σ : gH) (g : Nat → Int32), k + n = len → SeY τ σ ow sr ad (ac, cc, bc, bl) (va_up I 22 g) J → (∀ j, j < k → g j = I 21 j) → G l mX8_keep 1 0 0 (pV fun σ' => ∃ g, SeY τ σ' ow sr ad (ac, cc, bc, bl) (va_up I 22 g) J ∧ ∀ j, j < len → g j = I 21 j) σ 12 [some (.ref sr), some (.int (nI len)), some (.int w2), some (.int (nI k))] [] := by
  intro n
  induction n with
  | zero =>
    intro k σ g hk hS hg
    obtain rfl : k = len := by omega
    refine g_iload_n (i := 3) dX8_keep_12 rfl rfl ?_
    refine g_iload_n (i := 1) dX8_keep_13 rfl rfl ?_
    refine g_icmp_ge (tgt := 35) dX8_keep_14 (by decide) (fun zc14 => ?_) (fun zc14 => ?_)
    · refine g_vret dX8_keep_35 rfl ?_
      exact ⟨rfl, g, hS, hg⟩
    · exact absurd (nI_le (Nat.le_refl _) (by omega)) zc14
  | succ n ih =>
    intro k σ g hk hS hg
    have hkc : (nI k).toNatClampNeg = k := nI_clamp (by omega)
    have hIk : vp_in (nI k) 3 := vp_in_nI (by omega) (by decide)
    refine g_iload_n (i := 3) dX8_keep_12 rfl rfl ?_
    refine g_iload_n (i := 1) dX8_keep_13 rfl rfl ?_
    refine g_icmp_ge (tgt := 35) dX8_keep_14 (by decide) (fun zc14 => ?_) (fun zc14 => ?_)
    · exact absurd zc14 (nI_ge (by omega) (by omega))
    · refine g_aload_n (i := 0) dX8_keep_17 rfl rfl ?_
      refine g_getf dX8_keep_18 flX8_42 (by first | exact hS.1.1.1 | exact hS.1.2.2.2.2.2.2.2.2.1.1 | exact hS.1.2.2.2.2.2.2.2.2.2.1) rfl ?_
      refine g_iload_n (i := 3) dX8_keep_21 rfl rfl ?_
      refine g_aload_n (i := 0) dX8_keep_22 rfl rfl ?_
      refine g_getf dX8_keep_23 flX8_39 (by first | exact hS.1.1.1 | exact hS.1.2.2.2.2.2.2.2.2.1.1 | exact hS.1.2.2.2.2.2.2.2.2.2.1) rfl ?_
      refine g_iload_n (i := 3) dX8_keep_26 rfl rfl ?_
      refine g_iald dX8_keep_27 (by first | exact hS.1.1.1 | exact hS.1.2.2.2.2.2.2.2.2.1.1 | exact hS.1.2.2.2.2.2.2.2.2.2.1) (hIk) ?_
      rw [hkc]
      refine g_iast dX8_keep_28 (by first | exact hS.1.1.1 | exact hS.1.2.2.2.2.2.2.2.2.1.1 | exact hS.1.2.2.2.2.2.2.2.2.2.1) (hIk) ?_
      rw [hkc]
      have hS := hS.w22 (upd g k (I 21 k))
      rw [show va_up (va_up I 22 g) 22 (upd g k (I 21 k)) = va_up I 22 (upd g k (I 21 k)) from by funext j; unfold va_up; split <;> rfl] at hS
      refine g_iinc (v := _ + 1) (ls' := [_, _, _, _]) dX8_keep_29 rfl rfl (by decide) rfl rfl ?_
      refine g_goto (tgt := 12) dX8_keep_32 (by decide) ?_
      refine g_cl (by rw [nI_1]) (ih (k + 1) _ _ (by omega) hS (fun j hj => ?_))
      by_cases e : j = k
      · subst e
        exact pk_us
      · exact (pk_un e).trans (hg j (by omega))
theorem c_X8_keep {σ : gH} {I : Nat → Nat → Int32} {J : Nat → Nat → Int64} {len : Nat} (hlen : len ≤ 3) (hS : SeY τ σ ow sr ad (ac, cc, bc, bl) I J) (total : Int32) : Ct l mX8_keep 1 0 0 [.ref sr, .int (nI len), .int total] σ (pV fun σ' => ∃ g, SeY τ σ' ow sr ad (ac, cc, total, nI len) (va_up I 22 g) J ∧ ∀ j, j < len → g j = I 21 j) := by
  refine Ct_of moX8_keep [some (.ref sr), some (.int (nI len)), some (.int total), none] rfl (Nat.le_of_ble_eq_true rfl) ?_
  refine g_aload_n (i := 0) dX8_keep_0 rfl rfl ?_
  refine g_iload_n (i := 2) dX8_keep_1 rfl rfl ?_
  refine g_putf (fs' := [_, _, _, _, _, _, _, _, _, _, _, _, _, _]) dX8_keep_2 flX8_51 fp6_11 (hS.1.1.1) rfl rfl (Nat.le_of_ble_eq_true rfl) rfl ?_
  have hS := hS.w8 ac cc total bl
  refine g_aload_n (i := 0) dX8_keep_5 rfl rfl ?_
  refine g_iload_n (i := 1) dX8_keep_6 rfl rfl ?_
  refine g_putf (fs' := [_, _, _, _, _, _, _, _, _, _, _, _, _, _]) dX8_keep_7 flX8_55 fp6_12 (hS.1.1.1) rfl rfl (Nat.le_of_ble_eq_true rfl) rfl ?_
  have hS := hS.w8 ac cc total (nI len)
  refine g_iconst (v := 0) dX8_keep_10 (by decide) ?_
  refine g_istore_n (i := 3) (ls' := [_, _, _, _]) dX8_keep_11 rfl (by decide) rfl rfl ?_
  have e : va_up I 22 (I 22) = I := by funext j; unfold va_up; split <;> simp_all
  exact lp_X8_keep hlen _ len 0 _ (I 22) (by omega) (by rw [e]; exact hS) (fun j hj => absurd hj (by omega))
end CSee
