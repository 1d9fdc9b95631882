/-! the class: acts -/
abbrev cA : Type := aAc × Option Nat
def AcC (σ : gH) (ow : Nat → Nat) (q : Nat) (c : cA) : Prop := Pt σ ow q 51 (gO 0 [.int (nI (c.1.1 - 1)), .int (nI c.1.2.1), .int (nI c.1.2.2.1), .long c.1.2.2.2.1, va_rf c.2])
def acL (σ : gH) (ow : Nat → Nat) (af : Nat → Option Nat) (cs : List cA) : Prop := ∀ (j : Nat) (c : cA), cs[j]? = some c → ∃ q, af j = some q ∧ AcC σ ow q c
def HiC (σ : gH) (ow : Nat → Nat) (hs : Nat) (cs : List cA) : Prop := ∃ aa af, Pt σ ow hs 6 (gO 3 [.ref aa, .int (nI cs.length)]) ∧ Pt σ ow aa 7 (gAq (.object RX0) 50 af) ∧ cs.length ≤ 50 ∧ acL σ ow af cs
abbrev hx67 : Nat → Prop := fun n => n = 6 ∨ n = 7
theorem acL.mono {ex : Nat → Prop} {σ σ' : gH} {ow ow' : Nat → Nat} {af : Nat → Option Nat} {cs : List cA} (h : acL σ ow af cs) (hs : Sm ex σ ow σ' ow') (hx : ¬ ex 51) : acL σ' ow' af cs := fun j c hc => by
  obtain ⟨q, h1, h2⟩ := h j c hc
  exact ⟨q, h1, Pt.mono h2 hs hx⟩
theorem HiC.mono {ex : Nat → Prop} {σ σ' : gH} {ow ow' : Nat → Nat} {hs : Nat} {cs : List cA} (h : HiC σ ow hs cs) (hsm : Sm ex σ ow σ' ow') (h6 : ¬ ex 6) (h7 : ¬ ex 7) (h51 : ¬ ex 51) : HiC σ' ow' hs cs := by
  obtain ⟨aa, af, h1, h2, h3, h4⟩ := h
  exact ⟨aa, af, h1.mono hsm h6, h2.mono hsm h7, h3, h4.mono hsm h51⟩
def noteC (cs : List cA) (c : cA) : List cA := (if 50 ≤ cs.length then cs.drop 1 else cs) ++ [c]
def keepC (n : Nat) (c : cA) : Bool := keepA n c.1
theorem acL_add {σ : gH} {ow : Nat → Nat} {ag : Nat → Option Nat} {kl : List cA} {c : cA} {r : Nat} (h : acL σ ow ag kl) (hr : AcC σ ow r c) : acL σ ow (va_up ag kl.length (some r)) (kl ++ [c]) := by
  intro j d hd
  by_cases e : j < kl.length
  · rw [List.getElem?_append_left e] at hd
    obtain ⟨t, t1, t2⟩ := h j d hd
    exact ⟨t, by rw [va_up_ne _ _ (by omega)]; exact t1, t2⟩
  · have hj : j = kl.length := by
      have := (List.getElem?_eq_some_iff.mp hd).1
      rw [List.length_append] at this
      simp only [List.length_cons, List.length_nil] at this
      omega
    subst hj
    rw [List.getElem?_append_right (Nat.le_refl _), Nat.sub_self] at hd
    cases hd
    exact ⟨r, va_up_self _ _ _, hr⟩
section CHist
variable {l : Launch} {ow : Nat → Nat} {hs : Nat} {cs : List cA} {post : Option Value → gH → Prop}
theorem t47_X4_add {σ : gH} {aa : Nat} {af : Nat → Option Nat} {q : Nat} {c : cA} (h1 : Pt σ ow hs 6 (gO 3 [.ref aa, .int (nI cs.length)])) (h2 : Pt σ ow aa 7 (gAq (.object RX0) 50 af)) (hl : cs.length < 50) (h4 : acL σ ow af cs) (hq : AcC σ ow q c) (x2 : Option Value) (hp : ∀ σ', Sm hx67 σ ow σ' ow → HiC σ' ow hs (cs ++ [c]) → post none σ') : G l mX4_add 1 0 0 post σ 47 [some (.ref hs), some (.ref q), x2] [] := by
  have ne : hs ≠ aa := h1.ne h2 (by decide)
  have hI : vp_in (nI cs.length) 50 := vp_in_nI hl (by decide)
  have hcl : (nI cs.length).toNatClampNeg = cs.length := nI_clamp (by omega)
  refine g_aload_n (i := 0) dX4_add_47 rfl rfl ?_
  refine g_getf dX4_add_48 flX4_11 (by first | exact h1.1 | exact h2.1 | (rw [su_ne _ _ ne]; exact h1.1)) rfl ?_
  refine g_aload_n (i := 0) dX4_add_51 rfl rfl ?_
  refine g_getf dX4_add_52 flX4_17 (by first | exact h1.1 | exact h2.1 | (rw [su_ne _ _ ne]; exact h1.1)) rfl ?_
  refine g_aload_n (i := 1) dX4_add_55 rfl rfl ?_
  refine g_aast dX4_add_56 (by first | exact h1.1 | exact h2.1 | (rw [su_ne _ _ ne]; exact h1.1)) (by decide) (hq.1) rfl (hI) ?_
  refine g_aload_n (i := 0) dX4_add_57 rfl rfl ?_
  refine g_dup dX4_add_58 rfl ?_
  refine g_getf dX4_add_59 flX4_17 (by first | exact h1.1 | exact h2.1 | (rw [su_ne _ _ ne]; exact h1.1)) rfl ?_
  refine g_iconst (v := 1) dX4_add_62 (by decide) ?_
  refine g_iadd dX4_add_63 ?_
  rw [nI_1]
  refine g_putf (fs' := [_, _]) dX4_add_64 flX4_17 fp3_1 (by first | exact h1.1 | exact h2.1 | (rw [su_ne _ _ ne]; exact h1.1)) rfl rfl (Nat.le_of_ble_eq_true rfl) rfl ?_
  refine g_vret dX4_add_67 rfl ?_
  have s1 : Sm hx67 σ ow (su σ aa (gAq (.object RX0) 50 (va_up af (nI cs.length).toNatClampNeg (some q)))) ow := Sm.stp (Or.inr h2.2) _
  have s2 := s1.tr (Sm.stp (b := hs) (Or.inl h1.2) (gO 3 [.ref aa, .int (nI (cs.length + 1))]))
  refine hp _ s2 ⟨aa, va_up af cs.length (some q), ⟨by rw [List.length_append]; exact su_self _ _ _, h1.2⟩, ⟨by rw [su_ne _ _ (Ne.symm ne), hcl]; exact su_self _ _ _, h2.2⟩, by rw [List.length_append]; exact hl, fun j d hd => ?_⟩
  by_cases e : j < cs.length
  · rw [List.getElem?_append_left e] at hd
    obtain ⟨r, r1, r2⟩ := h4 j d hd
    exact ⟨r, by rw [va_up_ne _ _ (by omega)]; exact r1, Pt.mono r2 s2 (by decide)⟩
  · have hj : j = cs.length := by
      have := (List.getElem?_eq_some_iff.mp hd).1
      rw [List.length_append] at this
      simp only [List.length_cons, List.length_nil] at this
      omega
    subst hj
    rw [List.getElem?_append_right (Nat.le_refl _), Nat.sub_self] at hd
    cases hd
    exact ⟨q, va_up_self _ _ _, Pt.mono hq s2 (by decide)⟩
theorem lp_X4_add {σ : gH} {aa : Nat} {af : Nat → Option Nat} {q : Nat} {c : cA} (h1 : Pt σ ow hs 6 (gO 3 [.ref aa, .int (nI 50)])) (h2 : Pt σ ow aa 7 (gAq (.object RX0) 50 af)) (hl : cs.length = 50) (h4 : acL σ ow af cs) (hq : AcC σ ow q c) (hp : ∀ σ', Sm hx67 σ ow σ' ow → HiC σ' ow hs (cs.drop 1 ++ [c]) → post none σ') :
    ∀ (n i : Nat) (ag : Nat → Option Nat), i + 1 + n = 50 → (∀ j, j < i → ag j = af (j + 1)) → (∀ j, i ≤ j → ag j = af j) → G l mX4_add 1 0 0 post (su σ aa (gAq (.object RX0) 50 ag)) 11 [some (.ref hs), some (.ref q), some (.int (nI (i + 1)))] [] := by
  have ne : hs ≠ aa := h1.ne h2 (by decide)
  intro n
  induction n with
  | zero =>
    intro i ag hi g1 g2
    obtain rfl : i = 49 := by omega
    refine g_iload_n (i := 2) dX4_add_11 rfl rfl ?_
    refine g_bipush (v := 50) dX4_add_12 (by decide) ?_
    refine g_icmp_ge (tgt := 37) dX4_add_14 (by decide) (fun zc14 => ?_) (fun zc14 => ?_)
    · refine g_aload_n (i := 0) dX4_add_37 rfl rfl ?_
      refine g_dup dX4_add_38 rfl ?_
      refine g_getf dX4_add_39 flX4_17 (by first | (rw [su_ne _ _ ne]; exact h1.1) | exact su_self _ _ _) rfl ?_
      refine g_iconst (v := 1) dX4_add_42 (by decide) ?_
      refine g_isub dX4_add_43 ?_
      rw [show nI 50 - 1 = nI 49 from nI_pred 49]
      refine g_putf (fs' := [_, _]) dX4_add_44 flX4_17 fp3_1 (by first | (rw [su_ne _ _ ne]; exact h1.1) | exact su_self _ _ _) rfl rfl (Nat.le_of_ble_eq_true rfl) rfl ?_
      have s1 : Sm hx67 σ ow (su σ aa (gAq (.object RX0) 50 ag)) ow := Sm.stp (Or.inr h2.2) _
      have s2 := s1.tr (Sm.stp (b := hs) (Or.inl h1.2) (gO 3 [.ref aa, .int (nI 49)]))
      have hl2 : (cs.drop 1).length = 49 := by rw [List.length_drop]; omega
      refine t47_X4_add (cs := cs.drop 1) (af := ag) ⟨by rw [hl2]; exact su_self _ _ _, h1.2⟩ ⟨by rw [su_ne _ _ (Ne.symm ne)]; exact su_self _ _ _, h2.2⟩ (by omega) (fun j d hd => ?_) (Pt.mono hq s2 (by decide)) _ (fun σ' r1 r2 => hp σ' (s2.tr r1) r2)
      have hj : j < 49 := by rw [← hl2]; exact (List.getElem?_eq_some_iff.mp hd).1
      rw [List.getElem?_drop, Nat.add_comm] at hd
      obtain ⟨r, r1, r2⟩ := h4 (j + 1) d hd
      exact ⟨r, (g1 j hj).trans r1, Pt.mono r2 s2 (by decide)⟩
    · exact absurd (by decide) zc14
  | succ n ih =>
    intro i ag hi g1 g2
    obtain ⟨d, hd⟩ : ∃ d, cs[i + 1]? = some d := ⟨_, List.getElem?_eq_getElem (by omega)⟩
    obtain ⟨r, r1, r2⟩ := h4 (i + 1) d hd
    have hc1 : (nI (i + 1)).toNatClampNeg = i + 1 := nI_clamp (by omega)
    have hc0 : (nI i).toNatClampNeg = i := nI_clamp (by omega)
    have hra : r ≠ aa := Pt.ne r2 h2 (by decide)
    refine g_iload_n (i := 2) dX4_add_11 rfl rfl ?_
    refine g_bipush (v := 50) dX4_add_12 (by decide) ?_
    refine g_icmp_ge (tgt := 37) dX4_add_14 (by decide) (fun zc14 => ?_) (fun zc14 => ?_)
    · exact absurd zc14 (nI_ge (b := 50) (by omega) (by decide))
    · refine g_aload_n (i := 0) dX4_add_17 rfl rfl ?_
      refine g_getf dX4_add_18 flX4_11 (by first | (rw [su_ne _ _ ne]; exact h1.1) | exact su_self _ _ _) rfl ?_
      refine g_iload_n (i := 2) dX4_add_21 rfl rfl ?_
      refine g_iconst (v := 1) dX4_add_22 (by decide) ?_
      refine g_isub dX4_add_23 ?_
      rw [nI_pred]
      refine g_aload_n (i := 0) dX4_add_24 rfl rfl ?_
      refine g_getf dX4_add_25 flX4_11 (by first | (rw [su_ne _ _ ne]; exact h1.1) | exact su_self _ _ _) rfl ?_
      refine g_iload_n (i := 2) dX4_add_28 rfl rfl ?_
      refine g_aald dX4_add_29 (by first | (rw [su_ne _ _ ne]; exact h1.1) | exact su_self _ _ _) (by decide) ((vp_in_nI (show i + 1 < 50 by omega) (by decide) : vp_in (nI (i + 1)) 50)) ?_
      refine g_tor r (by rw [hc1, g2 _ (by omega)]; exact r1) ?_
      refine g_aast dX4_add_30 (by first | (rw [su_ne _ _ ne]; exact h1.1) | exact su_self _ _ _) (by decide) ((su_ne _ _ hra).trans r2.1) rfl ((vp_in_nI (show i < 50 by omega) (by decide) : vp_in (nI i) 50)) ?_
      refine g_iinc (v := _ + 1) (ls' := [_, _, _]) dX4_add_31 rfl rfl (by decide) rfl rfl ?_
      refine g_goto (tgt := 11) dX4_add_34 (by decide) ?_
      rw [su_su, hc0]
      refine g_cl (by rw [nI_1]) (ih (i + 1) _ (by omega) (fun j hj => ?_) (fun j hj => ?_))
      · by_cases e : j = i
        · subst e; rw [va_up_self]; exact r1.symm
        · rw [va_up_ne _ _ e]; exact g1 j (by omega)
      · rw [va_up_ne _ _ (by omega)]; exact g2 j (by omega)
theorem c_X4_add {σ : gH} {q : Nat} {c : cA} (hH : HiC σ ow hs cs) (hq : AcC σ ow q c) : Ct l mX4_add 1 0 0 [.ref hs, .ref q] σ (pV fun σ' => Sm hx67 σ ow σ' ow ∧ HiC σ' ow hs (noteC cs c)) := by
  obtain ⟨aa, af, h1, h2, h3, h4⟩ := hH
  refine Ct_of moX4_add [some (.ref hs), some (.ref q), none] rfl (Nat.le_of_ble_eq_true rfl) ?_
  by_cases hl : cs.length = 50
  · have hn : noteC cs c = cs.drop 1 ++ [c] := by unfold noteC; rw [if_pos (by omega)]
    rw [hn]
    have h1' := h1
    rw [hl] at h1'
    refine g_aload_n (i := 0) dX4_add_0 rfl rfl ?_
    refine g_getf dX4_add_1 flX4_17 (h1'.1) rfl ?_
    refine g_bipush (v := 50) dX4_add_4 (by decide) ?_
    refine g_icmp_ne (tgt := 47) dX4_add_6 (by decide) (fun zc6 => ?_) (fun zc6 => ?_)
    · exact absurd rfl zc6
    · refine g_iconst (v := 1) dX4_add_9 (by decide) ?_
      refine g_istore_n (i := 2) (ls' := [_, _, _]) dX4_add_10 rfl (by decide) rfl rfl ?_
      have e := lp_X4_add h1' h2 hl h4 hq (post := pV fun σ' => Sm hx67 σ ow σ' ow ∧ HiC σ' ow hs (cs.drop 1 ++ [c])) (l := l) (fun σ' r1 r2 => ⟨rfl, r1, r2⟩) 49 0 af (by omega) (fun j hj => absurd hj (Nat.not_lt_zero _)) (fun _ _ => rfl)
      rw [su_id h2.1] at e
      exact e
  · have hn : noteC cs c = cs ++ [c] := by unfold noteC; rw [if_neg (by omega)]
    rw [hn]
    refine g_aload_n (i := 0) dX4_add_0 rfl rfl ?_
    refine g_getf dX4_add_1 flX4_17 (h1.1) rfl ?_
    refine g_bipush (v := 50) dX4_add_4 (by decide) ?_
    refine g_icmp_ne (tgt := 47) dX4_add_6 (by decide) (fun zc6 => ?_) (fun zc6 => ?_)
    · exact t47_X4_add h1 h2 (by omega) h4 hq _ (fun σ' r1 r2 => ⟨rfl, r1, r2⟩)
    · exact absurd ((nI_eq (b := 50) (by omega) (by decide)).mp zc6) hl
theorem c_X4_takeLatest {σ : gH} (hH : HiC σ ow hs cs) : Ct l mX4_takeLatest 1 0 0 [.ref hs] σ (pQ fun r σ' => (cs = [] ∧ r = none ∧ σ' = σ) ∨ ∃ cs' c q, cs = cs' ++ [c] ∧ r = some q ∧ AcC σ' ow q c ∧ Sm hx67 σ ow σ' ow ∧ HiC σ' ow hs cs') := by
  obtain ⟨aa, af, h1, h2, h3, h4⟩ := hH
  have ne : hs ≠ aa := h1.ne h2 (by decide)
  refine Ct_of moX4_takeLatest [some (.ref hs), none] rfl (Nat.le_of_ble_eq_true rfl) ?_
  rcases List.eq_nil_or_concat cs with hc | ⟨cs', c, hc⟩
  · subst hc
    refine g_aload_n (i := 0) dX4_takeLatest_0 rfl rfl ?_
    refine g_getf dX4_takeLatest_1 flX4_17 (h1.1) rfl ?_
    refine g_if_ne (tgt := 9) dX4_takeLatest_4 (by decide) (fun zc4 => ?_) (fun zc4 => ?_)
    · exact absurd rfl zc4
    · refine g_null dX4_takeLatest_7 ?_
      refine g_aret (r := none) dX4_takeLatest_8 rfl ?_
      exact ⟨_, rfl, Or.inl ⟨rfl, rfl, rfl⟩⟩
  · rw [List.concat_eq_append] at hc
    subst hc
    have hl : (cs' ++ [c]).length = cs'.length + 1 := by rw [List.length_append]; rfl
    rw [hl] at h1 h3
    obtain ⟨r, r1, r2⟩ := h4 cs'.length c (by rw [List.getElem?_append_right (Nat.le_refl _), Nat.sub_self]; rfl)
    have hcl : (nI cs'.length).toNatClampNeg = cs'.length := nI_clamp (by omega)
    have hI : vp_in (nI cs'.length) 50 := vp_in_nI (by omega) (by decide)
    refine g_aload_n (i := 0) dX4_takeLatest_0 rfl rfl ?_
    refine g_getf dX4_takeLatest_1 flX4_17 (by first | exact h1.1 | exact su_self _ _ _ | (rw [su_ne _ _ (Ne.symm ne)]; exact h2.1)) rfl ?_
    refine g_if_ne (tgt := 9) dX4_takeLatest_4 (by decide) (fun zc4 => ?_) (fun zc4 => ?_)
    · refine g_aload_n (i := 0) dX4_takeLatest_9 rfl rfl ?_
      refine g_dup dX4_takeLatest_10 rfl ?_
      refine g_getf dX4_takeLatest_11 flX4_17 (by first | exact h1.1 | exact su_self _ _ _ | (rw [su_ne _ _ (Ne.symm ne)]; exact h2.1)) rfl ?_
      refine g_iconst (v := 1) dX4_takeLatest_14 (by decide) ?_
      refine g_isub dX4_takeLatest_15 ?_
      rw [nI_pred]
      refine g_putf (fs' := [_, _]) dX4_takeLatest_16 flX4_17 fp3_1 (by first | exact h1.1 | exact su_self _ _ _ | (rw [su_ne _ _ (Ne.symm ne)]; exact h2.1)) rfl rfl (Nat.le_of_ble_eq_true rfl) rfl ?_
      refine g_aload_n (i := 0) dX4_takeLatest_19 rfl rfl ?_
      refine g_getf dX4_takeLatest_20 flX4_11 (by first | exact h1.1 | exact su_self _ _ _ | (rw [su_ne _ _ (Ne.symm ne)]; exact h2.1)) rfl ?_
      refine g_aload_n (i := 0) dX4_takeLatest_23 rfl rfl ?_
      refine g_getf dX4_takeLatest_24 flX4_17 (by first | exact h1.1 | exact su_self _ _ _ | (rw [su_ne _ _ (Ne.symm ne)]; exact h2.1)) rfl ?_
      refine g_aald dX4_takeLatest_27 (by first | exact h1.1 | exact su_self _ _ _ | (rw [su_ne _ _ (Ne.symm ne)]; exact h2.1)) (by decide) (hI) ?_
      refine g_tor r (by rw [hcl]; exact r1) ?_
      refine g_astore_n (i := 1) (ls' := [_, _]) dX4_takeLatest_28 rfl (by decide) rfl rfl ?_
      refine g_aload_n (i := 0) dX4_takeLatest_29 rfl rfl ?_
      refine g_getf dX4_takeLatest_30 flX4_11 (by first | exact h1.1 | exact su_self _ _ _ | (rw [su_ne _ _ (Ne.symm ne)]; exact h2.1)) rfl ?_
      refine g_aload_n (i := 0) dX4_takeLatest_33 rfl rfl ?_
      refine g_getf dX4_takeLatest_34 flX4_17 (by first | exact h1.1 | exact su_self _ _ _ | (rw [su_ne _ _ (Ne.symm ne)]; exact h2.1)) rfl ?_
      refine g_null dX4_takeLatest_37 ?_
      refine g_aastN dX4_takeLatest_38 (by first | exact h1.1 | exact su_self _ _ _ | (rw [su_ne _ _ (Ne.symm ne)]; exact h2.1)) (by decide) (hI) ?_
      refine g_aload_n (i := 1) dX4_takeLatest_39 rfl rfl ?_
      refine g_aret (r := some r) dX4_takeLatest_40 rfl ?_
      have s1 : Sm hx67 σ ow (su σ hs (gO 3 [.ref aa, .int (nI cs'.length)])) ow := Sm.stp (Or.inl h1.2) _
      have s2 := s1.tr (Sm.stp (b := aa) (Or.inr h2.2) (gAq (.object RX0) 50 (va_up af (nI cs'.length).toNatClampNeg none)))
      refine ⟨_, rfl, Or.inr ⟨cs', c, r, rfl, rfl, Pt.mono r2 s2 (by decide), s2, aa, _, ⟨by rw [su_ne _ _ ne]; exact su_self _ _ _, h1.2⟩, ⟨su_self _ _ _, h2.2⟩, by omega, fun j d hd => ?_⟩⟩
      have hj : j < cs'.length := (List.getElem?_eq_some_iff.mp hd).1
      obtain ⟨t, t1, t2⟩ := h4 j d (by rw [List.getElem?_append_left hj]; exact hd)
      exact ⟨t, by rw [hcl, va_up_ne _ _ (by omega)]; exact t1, Pt.mono t2 s2 (by decide)⟩
    · exact absurd zc4 (nI_ne0 (by omega) (by omega))
theorem l2_X4_forget {σ : gH} {aa : Nat} (f x4 : Option Value) {kl : List cA} {m : Nat} (hm : m ≤ 50) (h1 : Pt σ ow hs 6 (gO 3 [.ref aa, .int (nI m)])) {ag : Nat → Option Nat} (h2 : Pt σ ow aa 7 (gAq (.object RX0) 50 ag)) (hkm : kl.length ≤ m) (h4 : acL σ ow ag kl) (hp : ∀ σ', Sm hx67 σ ow σ' ow → HiC σ' ow hs kl → post none σ') :
    ∀ (n i : Nat) (ah : Nat → Option Nat), i + n = m → kl.length ≤ i → (∀ j, j < kl.length → ah j = ag j) → G l mX4_forgetForm 2 0 0 post (su σ aa (gAq (.object RX0) 50 ah)) 48 [some (.ref hs), f, some (.int (nI kl.length)), some (.int (nI i)), x4] [] := by
  have ne : hs ≠ aa := h1.ne h2 (by decide)
  intro n
  induction n with
  | zero =>
    intro i ah hi hki hg
    obtain rfl : i = m := by omega
    refine g_iload_n (i := 3) dX4_forgetForm_48 rfl rfl ?_
    refine g_aload_n (i := 0) dX4_forgetForm_49 rfl rfl ?_
    refine g_getf dX4_forgetForm_50 flX4_17 (by first | (rw [su_ne _ _ ne]; exact h1.1) | exact su_self _ _ _) rfl ?_
    refine g_icmp_ge (tgt := 69) dX4_forgetForm_53 (by decide) (fun zc53 => ?_) (fun zc53 => ?_)
    · refine g_aload_n (i := 0) dX4_forgetForm_69 rfl rfl ?_
      refine g_iload_n (i := 2) dX4_forgetForm_70 rfl rfl ?_
      refine g_putf (fs' := [_, _]) dX4_forgetForm_71 flX4_17 fp3_1 (by first | (rw [su_ne _ _ ne]; exact h1.1) | exact su_self _ _ _) rfl rfl (Nat.le_of_ble_eq_true rfl) rfl ?_
      refine g_vret dX4_forgetForm_74 rfl ?_
      have s1 : Sm hx67 σ ow (su σ aa (gAq (.object RX0) 50 ah)) ow := Sm.stp (Or.inr h2.2) _
      have s2 := s1.tr (Sm.stp (b := hs) (Or.inl h1.2) (gO 3 [.ref aa, .int (nI kl.length)]))
      refine hp _ s2 ⟨aa, ah, ⟨su_self _ _ _, h1.2⟩, ⟨by rw [su_ne _ _ (Ne.symm ne)]; exact su_self _ _ _, h2.2⟩, by omega, fun j d hd => ?_⟩
      have hj := (List.getElem?_eq_some_iff.mp hd).1
      obtain ⟨t, t1, t2⟩ := h4 j d hd
      exact ⟨t, (hg j hj).trans t1, Pt.mono t2 s2 (by decide)⟩
    · exact absurd (nI_le (Nat.le_refl _) (by omega)) zc53
  | succ n ih =>
    intro i ah hi hki hg
    refine g_iload_n (i := 3) dX4_forgetForm_48 rfl rfl ?_
    refine g_aload_n (i := 0) dX4_forgetForm_49 rfl rfl ?_
    refine g_getf dX4_forgetForm_50 flX4_17 (by first | (rw [su_ne _ _ ne]; exact h1.1) | exact su_self _ _ _) rfl ?_
    refine g_icmp_ge (tgt := 69) dX4_forgetForm_53 (by decide) (fun zc53 => ?_) (fun zc53 => ?_)
    · exact absurd zc53 (nI_ge (by omega) (by omega))
    · refine g_aload_n (i := 0) dX4_forgetForm_56 rfl rfl ?_
      refine g_getf dX4_forgetForm_57 flX4_11 (by first | (rw [su_ne _ _ ne]; exact h1.1) | exact su_self _ _ _) rfl ?_
      refine g_iload_n (i := 3) dX4_forgetForm_60 rfl rfl ?_
      refine g_null dX4_forgetForm_61 ?_
      refine g_aastN dX4_forgetForm_62 (by first | (rw [su_ne _ _ ne]; exact h1.1) | exact su_self _ _ _) (by decide) ((vp_in_nI (show i < 50 by omega) (by decide) : vp_in (nI i) 50)) ?_
      refine g_iinc (v := _ + 1) (ls' := [_, _, _, _, _]) dX4_forgetForm_63 rfl rfl (by decide) rfl rfl ?_
      refine g_goto (tgt := 48) dX4_forgetForm_66 (by decide) ?_
      rw [su_su, nI_clamp (show i < 2 ^ 31 by omega)]
      refine g_cl (by rw [nI_1]) (ih (i + 1) _ (by omega) (by omega) (fun j hj => ?_))
      rw [va_up_ne _ _ (by omega)]
      exact hg j hj
theorem l1_X4_forget {σ : gH} {aa : Nat} {af : Nat → Option Nat} {f : Nat} (hf : f < 60) (h1 : Pt σ ow hs 6 (gO 3 [.ref aa, .int (nI cs.length)])) (h2 : Pt σ ow aa 7 (gAq (.object RX0) 50 af)) (hl : cs.length ≤ 50) (h4 : acL σ ow af cs) (hk : ∀ c ∈ cs, 1 ≤ c.1.1 ∧ c.1.1 ≤ 6 ∧ c.1.2.1 < 2 ^ 31) (hp : ∀ σ', Sm hx67 σ ow σ' ow → HiC σ' ow hs (cs.filter (keepC f)) → post none σ') :
    ∀ (n i : Nat) (ag : Nat → Option Nat) (x4 : Option Value), i + n = cs.length → acL σ ow ag ((cs.take i).filter (keepC f)) → (∀ j, i ≤ j → ag j = af j) → G l mX4_forgetForm 2 0 0 post (su σ aa (gAq (.object RX0) 50 ag)) 4 [some (.ref hs), some (.int (nI f)), some (.int (nI ((cs.take i).filter (keepC f)).length)), some (.int (nI i)), x4] [] := by
  have ne : hs ≠ aa := h1.ne h2 (by decide)
  intro n
  induction n with
  | zero =>
    intro i ag x4 hi g1 g2
    obtain rfl : i = cs.length := by omega
    rw [List.take_length] at g1 ⊢
    have hle : (cs.filter (keepC f)).length ≤ cs.length := List.length_filter_le _ _
    refine g_iload_n (i := 3) dX4_forgetForm_4 rfl rfl ?_
    refine g_aload_n (i := 0) dX4_forgetForm_5 rfl rfl ?_
    refine g_getf dX4_forgetForm_6 flX4_17 (by first | (rw [su_ne _ _ ne]; exact h1.1) | exact su_self _ _ _) rfl ?_
    refine g_icmp_ge (tgt := 46) dX4_forgetForm_9 (by decide) (fun zc9 => ?_) (fun zc9 => ?_)
    · refine g_iload_n (i := 2) dX4_forgetForm_46 rfl rfl ?_
      refine g_istore_n (i := 3) (ls' := [_, _, _, _, _]) dX4_forgetForm_47 rfl (by decide) rfl rfl ?_
      have s1 : Sm hx67 σ ow (su σ aa (gAq (.object RX0) 50 ag)) ow := Sm.stp (Or.inr h2.2) _
      have e := l2_X4_forget (l := l) (post := post) (some (.int (nI f))) x4 hl (⟨(su_ne _ _ ne).trans h1.1, h1.2⟩ : Pt (su σ aa (gAq (.object RX0) 50 ag)) ow hs 6 _) ⟨su_self _ _ _, h2.2⟩ hle (g1.mono s1 (by decide)) (fun σ' r1 r2 => hp σ' (s1.tr r1) r2) (cs.length - (cs.filter (keepC f)).length) (cs.filter (keepC f)).length ag (by omega) (Nat.le_refl _) (fun _ _ => rfl)
      rw [su_su] at e
      exact e
    · exact absurd (nI_le (Nat.le_refl _) (by omega)) zc9
  | succ n ih =>
    intro i ag x4 hi g1 g2
    obtain ⟨c, hc⟩ : ∃ c, cs[i]? = some c := ⟨_, List.getElem?_eq_getElem (by omega)⟩
    obtain ⟨r, r1, r2⟩ := h4 i c hc
    obtain ⟨k1, k2, k3⟩ := hk c (List.mem_of_getElem? hc)
    have hci : (nI i).toNatClampNeg = i := nI_clamp (by omega)
    have hra : r ≠ aa := Pt.ne r2 h2 (by decide)
    have htk : cs.take (i + 1) = cs.take i ++ [c] := by rw [List.take_add_one, hc]; rfl
    have hle : ((cs.take i).filter (keepC f)).length ≤ i := Nat.le_trans (List.length_filter_le _ _) (by rw [List.length_take]; omega)
    generalize hkl : (cs.take i).filter (keepC f) = kl at *
    have hckl : (nI kl.length).toNatClampNeg = kl.length := nI_clamp (by omega)
    have hon : (nI c.1.2.1 = nI f ∧ (nI (c.1.1 - 1) = 0 ∨ nI (c.1.1 - 1) = 1)) ↔ keepC f c = false := by
      rw [nI_eq (by omega) (by omega), show (nI (c.1.1 - 1) = 0 ↔ c.1.1 - 1 = 0) from nI_eq (b := 0) (by omega) (by decide), show (nI (c.1.1 - 1) = 1 ↔ c.1.1 - 1 = 1) from nI_eq (b := 1) (by omega) (by decide)]
      unfold keepC keepA
      simp only [Bool.not_eq_false', Bool.and_eq_true, decide_eq_true_eq]
      omega
    have t4a : keepC f c = false → G l mX4_forgetForm 2 0 0 post (su σ aa (gAq (.object RX0) 50 ag)) 4 [some (.ref hs), some (.int (nI f)), some (.int (nI kl.length)), some (.int (nI (i + 1))), some (.ref r)] [] := by
      intro hkt
      have hfl : (cs.take (i + 1)).filter (keepC f) = kl := by
        rw [htk, List.filter_append, hkl, List.filter_cons_of_neg (by rw [hkt]; decide)]
        simp
      have q := ih (i + 1) ag (some (.ref r)) (by omega) (by rw [hfl]; exact g1) (fun j hj => g2 j (by omega))
      rw [hfl] at q
      exact q
    have t4b : keepC f c = true → G l mX4_forgetForm 2 0 0 post (su σ aa (gAq (.object RX0) 50 (va_up ag kl.length (some r)))) 4 [some (.ref hs), some (.int (nI f)), some (.int (nI (kl.length + 1))), some (.int (nI (i + 1))), some (.ref r)] [] := by
      intro hkt
      have hfl : (cs.take (i + 1)).filter (keepC f) = kl ++ [c] := by
        rw [htk, List.filter_append, hkl, List.filter_cons_of_pos hkt]
        rfl
      have hll : (kl ++ [c]).length = kl.length + 1 := by
        rw [List.length_append]
        rfl
      have q := ih (i + 1) (va_up ag kl.length (some r)) (some (.ref r)) (by omega) (by rw [hfl]; exact acL_add g1 r2) (fun j hj => by rw [va_up_ne _ _ (by omega)]; exact g2 j (by omega))
      rw [hfl, hll] at q
      exact q
    refine g_iload_n (i := 3) dX4_forgetForm_4 rfl rfl ?_
    refine g_aload_n (i := 0) dX4_forgetForm_5 rfl rfl ?_
    refine g_getf dX4_forgetForm_6 flX4_17 (by first | (rw [su_ne _ _ ne]; exact h1.1) | exact su_self _ _ _ | (rw [su_ne _ _ hra]; exact r2.1)) rfl ?_
    refine g_icmp_ge (tgt := 46) dX4_forgetForm_9 (by decide) (fun zc9 => ?_) (fun zc9 => ?_)
    · exact absurd zc9 (nI_ge (by omega) (by omega))
    · refine g_aload_n (i := 0) dX4_forgetForm_12 rfl rfl ?_
      refine g_getf dX4_forgetForm_13 flX4_11 (by first | (rw [su_ne _ _ ne]; exact h1.1) | exact su_self _ _ _ | (rw [su_ne _ _ hra]; exact r2.1)) rfl ?_
      refine g_iload_n (i := 3) dX4_forgetForm_16 rfl rfl ?_
      refine g_aald dX4_forgetForm_17 (by first | (rw [su_ne _ _ ne]; exact h1.1) | exact su_self _ _ _ | (rw [su_ne _ _ hra]; exact r2.1)) (by decide) ((vp_in_nI (show i < 50 by omega) (by decide) : vp_in (nI i) 50)) ?_
      refine g_tor r (by rw [hci, g2 i (Nat.le_refl _)]; exact r1) ?_
      refine g_astore (ls' := [_, _, _, _, _]) dX4_forgetForm_18 (by decide) rfl rfl ?_
      refine g_aload dX4_forgetForm_20 rfl ?_
      refine g_iload_n (i := 1) dX4_forgetForm_22 rfl rfl ?_
      refine g_callVi (My := mX0_isOnForm) [_] dX4_forgetForm_23 lkX4_21 mvX0_isOnForm rfl (by first | (rw [su_ne _ _ ne]; exact h1.1) | exact su_self _ _ _ | (rw [su_ne _ _ hra]; exact r2.1)) rfl (c_X0_isOnForm ((su_ne _ _ hra).trans r2.1) _) (by decide) (by decide) (by decide) rfl (Nat.le_of_ble_eq_true rfl) (fun zr23 σ zh23 => ?_)
      obtain ⟨ze23, zf23⟩ := zh23
      rw [ze23, zf23]
      refine g_if_ne (tgt := 40) dX4_forgetForm_26 (by decide) (fun zc26 => ?_) (fun zc26 => ?_)
      · refine g_iinc (v := _ + 1) (ls' := [_, _, _, _, _]) dX4_forgetForm_40 rfl rfl (by decide) rfl rfl ?_
        refine g_goto (tgt := 4) dX4_forgetForm_43 (by decide) ?_
        rw [nI_1]
        first
        | exact t4a (hon.mp (bI_ne0.mp zc26))
        | (have hne : ¬ keepC f c = false := fun z => bI_eq0.mp zc26 (hon.mpr z); rw [su_su, hckl, nI_1]; exact t4b (by simpa using hne))
      · refine g_aload_n (i := 0) dX4_forgetForm_29 rfl rfl ?_
        refine g_getf dX4_forgetForm_30 flX4_11 (by first | (rw [su_ne _ _ ne]; exact h1.1) | exact su_self _ _ _ | (rw [su_ne _ _ hra]; exact r2.1)) rfl ?_
        refine g_iload_n (i := 2) dX4_forgetForm_33 rfl rfl ?_
        refine g_aload dX4_forgetForm_34 rfl ?_
        refine g_aast dX4_forgetForm_36 (by first | (rw [su_ne _ _ ne]; exact h1.1) | exact su_self _ _ _ | (rw [su_ne _ _ hra]; exact r2.1)) (by decide) ((su_ne _ _ hra).trans r2.1) rfl ((vp_in_nI (show kl.length < 50 by omega) (by decide) : vp_in (nI kl.length) 50)) ?_
        refine g_iinc (v := _ + 1) (ls' := [_, _, _, _, _]) dX4_forgetForm_37 rfl rfl (by decide) rfl rfl ?_
        refine g_iinc (v := _ + 1) (ls' := [_, _, _, _, _]) dX4_forgetForm_40 rfl rfl (by decide) rfl rfl ?_
        refine g_goto (tgt := 4) dX4_forgetForm_43 (by decide) ?_
        rw [nI_1]
        first
        | exact t4a (hon.mp (bI_ne0.mp zc26))
        | (have hne : ¬ keepC f c = false := fun z => bI_eq0.mp zc26 (hon.mpr z); rw [su_su, hckl, nI_1]; exact t4b (by simpa using hne))
theorem c_X4_forgetForm {σ : gH} {f : Nat} (hf : f < 60) (hH : HiC σ ow hs cs) (hk : ∀ c ∈ cs, 1 ≤ c.1.1 ∧ c.1.1 ≤ 6 ∧ c.1.2.1 < 2 ^ 31) : Ct l mX4_forgetForm 2 0 0 [.ref hs, .int (nI f)] σ (pV fun σ' => Sm hx67 σ ow σ' ow ∧ HiC σ' ow hs (cs.filter (keepC f))) := by
  obtain ⟨aa, af, h1, h2, h3, h4⟩ := hH
  refine Ct_of moX4_forgetForm [some (.ref hs), some (.int (nI f)), none, none, none] rfl (Nat.le_of_ble_eq_true rfl) ?_
  refine g_iconst (v := 0) dX4_forgetForm_0 (by decide) ?_
  refine g_istore_n (i := 2) (ls' := [_, _, _, _, _]) dX4_forgetForm_1 rfl (by decide) rfl rfl ?_
  refine g_iconst (v := 0) dX4_forgetForm_2 (by decide) ?_
  refine g_istore_n (i := 3) (ls' := [_, _, _, _, _]) dX4_forgetForm_3 rfl (by decide) rfl rfl ?_
  have e := l1_X4_forget (l := l) (post := pV fun σ' => Sm hx67 σ ow σ' ow ∧ HiC σ' ow hs (cs.filter (keepC f))) hf h1 h2 h3 h4 hk (fun σ' r1 r2 => ⟨rfl, r1, r2⟩) cs.length 0 af none (by omega) (fun j c hc => by simp at hc) (fun _ _ => rfl)
  rw [su_id h2.1] at e
  exact e
end CHist
