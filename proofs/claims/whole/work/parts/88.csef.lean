/-! the class's search: extend -/
def bsR (f : Nat → Int64) (b : bB) (bc bl : Int32) (I : Nat → Nat → Int32) : Prop := bc = nI b.1 ∧ b.1 ≤ 1000 ∧ bl = nI b.2.length ∧ b.2.length ≤ 3 ∧ ∃ B : List cT, b.2 = B.map (stT f) ∧ ∀ (k : Nat) (t : cT), B[k]? = some t → ∃ c, I 22 k = nI c ∧ (chL f)[c]? = some t
def TE (τ : gH) (ow : Nat → Nat) (sr : Nat) (ad : Nat → Nat) (f : Nat → Int64) (q : List Nat) (dq : Nat → Int64) (pr : Nat → Nat) (P : List cT) (b : bB) (σ : gH) : Prop := ∃ ac cc bc bl I J fl, SeY τ σ ow sr ad (ac, cc, bc, bl) I J ∧ TEc f q dq pr ac cc I J ∧ pkR f P I ∧ rwX f q P fl I J ∧ bsR f b bc bl I
theorem TEc.eq {f : Nat → Int64} {q : List Nat} {dq : Nat → Int64} {pr : Nat → Nat} {ac cc : Int32} {I I' : Nat → Nat → Int32} {J : Nat → Nat → Int64} (h : TEc f q dq pr ac cc I J) (e : ∀ k ∈ [10, 17, 18, 20], I' k = I k) (e16 : I' 16 0 = I 16 0) : TEc f q dq pr ac cc I' J := by
  obtain ⟨⟨h1, h2, h3⟩, h4, h7, h8⟩ := h
  refine ⟨⟨h1, h2, fun i t ht => ?_⟩, h4, fun k hk => ?_, ?_⟩
  · rw [e 17 (by decide), e 18 (by decide), e 20 (by decide)]
    exact h3 i t ht
  · rw [e 10 (by decide)]
    exact h7 k hk
  · rw [e16]
    exact h8
theorem rwX.eq {f : Nat → Int64} {q : List Nat} {P : List cT} {fl : Nat → Nat} {I I' : Nat → Nat → Int32} {J : Nat → Nat → Int64} (h : rwX f q P fl I J) (e : I' 16 = I 16) : rwX f q P fl I' J := by
  refine ⟨h.1, fun k hk => ?_, h.2.2⟩
  rw [e]
  exact h.2.1 k hk
theorem pre_some {P : List cT} {t s : cT} {k : Nat} (h : P[k]? = some s) : (P ++ [t])[k]? = some s := by
  rw [List.getElem?_append_left ((List.getElem?_eq_some_iff.mp h).1)]
  exact h
theorem app_cases {P : List cT} {t s : cT} {k : Nat} (h : (P ++ [t])[k]? = some s) : P[k]? = some s ∨ (k = P.length ∧ s = t) := by
  by_cases e : k < P.length
  · rw [List.getElem?_append_left e] at h
    exact Or.inl h
  · have hk : k = P.length := by
      have := (List.getElem?_eq_some_iff.mp h).1
      simp at this
      omega
    subst hk
    simp at h
    exact Or.inr ⟨rfl, h.symm⟩
theorem pkR.app {f : Nat → Int64} {P : List cT} {I I' : Nat → Nat → Int32} (h : pkR f P I) {t : cT} {c : Nat} (hc : (chL f)[c]? = some t) (e : I' 21 = upd (I 21) P.length (nI c)) : pkR f (P ++ [t]) I' := by
  intro k s hs
  rw [e]
  rcases app_cases hs with h1 | ⟨rfl, rfl⟩
  · obtain ⟨c', h2, h3⟩ := h k s h1
    have := (List.getElem?_eq_some_iff.mp h1).1
    exact ⟨c', (pk_un (by omega)).trans h2, h3⟩
  · exact ⟨c, pk_us, hc⟩
theorem rwX.app {f : Nat → Int64} {q : List Nat} {P : List cT} {fl : Nat → Nat} {I I' : Nat → Nat → Int32} {J : Nat → Nat → Int64} (h : rwX f q P fl I J) (t : cT) (e : I' 16 = upd (I 16) (P.length + 1) 0) : rwX f q (P ++ [t]) (va_up fl (P.length + 1) 0) I' J := by
  refine ⟨(va_up_ne _ _ (by omega)).trans h.1, fun k hk => ?_, fun k hk => ?_⟩
  · rw [List.length_append] at hk
    have hk' : k ≤ P.length + 1 := hk
    rw [e]
    by_cases e1 : k = P.length + 1
    · subst e1
      rw [va_up_self]
      exact ⟨pk_us, Nat.zero_le _, fun i v hi => absurd hi (Nat.not_lt_zero _)⟩
    · obtain ⟨h1, h2, h3⟩ := h.2.1 k (by omega)
      rw [va_up_ne _ _ e1]
      refine ⟨(pk_un e1).trans h1, h2, fun i v hi hv => ?_⟩
      rw [List.map_append, opA_app _ _ _ _ (by rw [List.length_map]; omega)]
      exact h3 i v hi hv
  · rw [List.length_append] at hk
    have hk' : k < P.length + 1 := hk
    by_cases e1 : k = P.length
    · subst e1
      rw [va_up_self]
      exact Nat.zero_le _
    · rw [va_up_ne _ _ (show k + 1 ≠ P.length + 1 by omega), va_up_ne _ _ (show k ≠ P.length + 1 by omega)]
      exact h.2.2 k (by omega)
theorem rwX.pre {f : Nat → Int64} {q : List Nat} {P : List cT} {fl : Nat → Nat} {I : Nat → Nat → Int32} {J : Nat → Nat → Int64} {t : cT} (h : rwX f q (P ++ [t]) fl I J) : rwX f q P fl I J := by
  refine ⟨h.1, fun k hk => ?_, fun k hk => h.2.2 k (by rw [List.length_append]; omega)⟩
  obtain ⟨h1, h2, h3⟩ := h.2.1 k (by rw [List.length_append]; omega)
  refine ⟨h1, h2, fun i v hi hv => ?_⟩
  rw [h3 i v hi hv, List.map_append, opA_app _ _ _ _ (by rw [List.length_map]; omega)]
theorem TE.pre {τ : gH} {ow : Nat → Nat} {sr : Nat} {ad : Nat → Nat} {f : Nat → Int64} {q : List Nat} {dq : Nat → Int64} {pr : Nat → Nat} {P : List cT} {t : cT} {b : bB} {σ : gH} (h : TE τ ow sr ad f q dq pr (P ++ [t]) b σ) : TE τ ow sr ad f q dq pr P b σ := by
  obtain ⟨ac, cc, bc, bl, I, J, fl, h1, h2, h3, h4, h5⟩ := h
  exact ⟨ac, cc, bc, bl, I, J, fl, h1, h2, fun k s hs => h3 k s (pre_some hs), h4.pre, h5⟩
theorem shB.le {Rt : List aSt → Prop} {pr : Nat → Nat} {tl : Nat → Int64} {n B B' : Nat} (h : shB Rt pr tl n B) (hB : B' ≤ B) : shB Rt pr tl n B' := fun f h1 h2 h3 h4 => Nat.le_trans hB (h f h1 h2 h3 h4)
theorem rt_q {cn : Nat → Prop} {dq : Nat → Int64} {f : Nat → Int64} {P : List cT} {t : cT} : (∀ v ∈ qL cn 256, opA 8 ((P ++ [t]).map (stT f)) (lN v) (P.length + 1) (P.length + 1) = dq v) ↔ rtF cn dq ((P ++ [t]).map (stT f)) := by
  unfold rtF
  rw [show ((P ++ [t]).map (stT f)).length = P.length + 1 by simp]
  exact ⟨fun h v hv hc => h v (qL_mem.mpr ⟨hv, hc⟩), fun h v hv => h v (qL_mem.mp hv).1 (qL_mem.mp hv).2⟩
theorem map_snoc (f : Nat → Int64) (P : List cT) (t : cT) : P.map (stT f) ++ [stT f t] = (P ++ [t]).map (stT f) := by simp
theorem cN_snoc {pr : Nat → Nat} {f : Nat → Int64} {P : List cT} {t : cT} (h : t.1 < 13) : cN pr ((P ++ [t]).map (stT f)) = cN pr (P.map (stT f)) + pr t.1 := by
  rw [← map_snoc]
  exact cN_mk _ h
section CSef
variable {l : Launch} {τ : gH} {ow : Nat → Nat} {sr : Nat} {ad : Nat → Nat} {f : Nat → Int64} {dq : Nat → Int64} {cn : Nat → Prop} {pr : Nat → Nat}
def exC (l : Launch) (τ : gH) (ow : Nat → Nat) (sr : Nat) (ad : Nat → Nat) (f : Nat → Int64) (dq : Nat → Int64) (cn : Nat → Prop) (pr : Nat → Nat) (goal r : Nat) : Prop := ∀ (P : List cT) (b : bB) (σ : gH), P.length + 1 + r = goal → gdP f P → cN pr (P.map (stT f)) ≤ 50 * P.length → TE τ ow sr ad f (qL cn 256) dq pr P b σ → shB (rtF cn dq) pr f goal b.1 → Ct l mX8_extend (r + 7) 0 0 [.ref sr, .int (nI goal), .int (nI P.length), .int (nI (cN pr (P.map (stT f)))), .int (idl P)] σ (pV fun σ' => TE τ ow sr ad f (qL cn 256) dq pr P (sc (rtF cn dq) pr f (r + 1) (P.map (stT f)) b) σ')
theorem lp_X8_extend (hpr : ∀ i, i < 13 → 1 ≤ pr i ∧ pr i ≤ 50) {goal r : Nat} (hg3 : goal ≤ 3) (hrec : ∀ r', r = r' + 1 → exC l τ ow sr ad f dq cn pr goal r') {P : List cT} (hgo : P.length + 1 + r = goal) (hP : gdP f P) (hcN : cN pr (P.map (stT f)) ≤ 50 * P.length) : ∀ (n c : Nat) (b : bB) (σ : gH) (v7 v8 : Option Value), c + n = (chL f).length → TE τ ow sr ad f (qL cn 256) dq pr P b σ → shB (rtF cn dq) pr f goal b.1 → G l mX8_extend (r + 7) 0 0 (pV fun σ' => TE τ ow sr ad f (qL cn 256) dq pr P (fL (sc (rtF cn dq) pr f r) f (P.map (stT f)) ((chL f).drop c) b) σ') σ 21 [some (.ref sr), some (.int (nI goal)), some (.int (nI P.length)), some (.int (nI (cN pr (P.map (stT f))))), some (.int (idl P)), some (.int (nI r)), some (.int (nI c)), v7, v8] [] := by
  have h144 := len_chL (tl := f)
  intro n
  induction n with
  | zero =>
    intro c b σ v7 v8 hc hT hsh
    obtain ⟨ac, cc, bc, bl, I, J, fl, hS, hTc, hpk, hR, hB⟩ := hT
    obtain rfl : c = (chL f).length := by omega
    obtain rfl := hTc.1.1
    rw [List.drop_length]
    refine g_iload dX8_extend_21 rfl ?_
    refine g_aload_n (i := 0) dX8_extend_23 rfl rfl ?_
    refine g_getf dX8_extend_24 flX8_75 (hS.1.1.1) rfl ?_
    refine g_icmp_ge (tgt := 158) dX8_extend_27 (by decide) (fun zc27 => ?_) (fun zc27 => ?_)
    · refine g_vret dX8_extend_158 rfl ?_
      exact ⟨rfl, _, _, _, _, I, J, fl, hS, hTc, hpk, hR, hB⟩
    · exact absurd (nI_le (Nat.le_refl _) (by omega)) zc27
  | succ n ih =>
    intro c b σ v7 v8 hc hT hsh
    have hcl : c < (chL f).length := by omega
    have hct : ∃ t, (chL f)[c]? = some t := ⟨(chL f)[c], List.getElem?_eq_getElem hcl⟩
    obtain ⟨t, ht⟩ := hct
    have hdr : (chL f).drop c = t :: (chL f).drop (c + 1) := by
      rw [List.drop_eq_getElem_cons hcl]
      rw [List.getElem?_eq_getElem hcl] at ht
      cases ht
      rfl
    rw [hdr]
    have hm := List.mem_of_getElem? ht
    have hmm := mem_chL hm
    have hb3 := chL_b3 hm
    have hD : P.length < 3 := by omega
    have hml : (P.map (stT f)).length = P.length := List.length_map ..
    have hcc : (nI c).toNatClampNeg = c := nI_clamp (by omega)
    have hIc : vp_in (nI c) 144 := vp_in_nI (by omega) (by decide)
    have hkc : (nI t.1).toNatClampNeg = t.1 := nI_clamp (by omega)
    have hIk : vp_in (nI t.1) 13 := vp_in_nI hmm.1 (by decide)
    have hDc : (nI P.length).toNatClampNeg = P.length := nI_clamp (by omega)
    have hID : vp_in (nI P.length) 3 := vp_in_nI hD (by decide)
    have hprt := hpr t.1 hmm.1
    have hok := us_ok hb3.1 hb3.2 hD
    obtain ⟨ac, cc, bc, bl, I, J, fl, hS, hTc, hpk, hR, hB⟩ := id hT
    obtain ⟨e17, e18, e19, e20⟩ := hTc.1.2.2 c t ht
    have e10 := hTc.2.2.1 t.1 hmm.1
    obtain rfl := hTc.1.1
    obtain rfl := hB.1
    have hb1 := hB.2.1
    have hsk : ∀ (σ' : gH) (b' : bB) (v7 v8 : Option Value), TE τ ow sr ad f (qL cn 256) dq pr P b' σ' → b'.1 ≤ b.1 → G l mX8_extend (r + 7) 0 0 (pV fun σ' => TE τ ow sr ad f (qL cn 256) dq pr P (fL (sc (rtF cn dq) pr f r) f (P.map (stT f)) ((chL f).drop (c + 1)) b') σ') σ' 21 [some (.ref sr), some (.int (nI goal)), some (.int (nI P.length)), some (.int (nI (cN pr (P.map (stT f))))), some (.int (idl P)), some (.int (nI r)), some (.int (nI c + 1)), v7, v8] [] := fun σ' b' v7 v8 h1 h2 => g_cl (by rw [nI_1]) (ih (c + 1) b' σ' v7 v8 (by omega) h1 (hsh.le h2))
    by_cases hk : okd P.length t
    · rw [fL_t (by rw [hml]; exact hk), map_snoc]
      have hcN2 := cN_snoc (pr := pr) (f := f) (P := P) hmm.1
      by_cases hlt : cN pr (P.map (stT f)) + pr t.1 + r < b.1
      · have hgt := okd_gd hD hm hk
        have hgP := hP.app hgt
        have hpk1 : pkR f (P ++ [t]) (va_up I 21 (upd (I 21) P.length (nI c))) := hpk.app ht rfl
        cases r with
        | zero =>
          obtain rfl : goal = P.length + 1 := by omega
          have hTc1 : TEc f (qL cn 256) dq pr ac (nI (chL f).length) (va_up I 21 (upd (I 21) P.length (nI c))) J := hTc.eq (fun k hk => va_up_ne _ _ (fun e => by rw [e] at hk; exact absurd hk (by decide))) rfl
          have hR1 : rwX f (qL cn 256) P fl (va_up I 21 (upd (I 21) P.length (nI c))) J := hR.eq rfl
          have hB1 : bsR f b (nI b.1) bl (va_up I 21 (upd (I 21) P.length (nI c))) := hB
          have hT1 : ∀ (σ' : gH) (I2 : Nat → Nat → Int32) (J2 : Nat → Nat → Int64) (fl2 : Nat → Nat), SeY τ σ' ow sr ad (ac, nI (chL f).length, nI b.1, bl) I2 J2 → noF (va_up I 21 (upd (I 21) P.length (nI c))) I2 J J2 → rwX f (qL cn 256) P fl2 I2 J2 → TE τ ow sr ad f (qL cn 256) dq pr P b σ' := by
            intro σ' I2 J2 fl2 h1 h2 h3
            refine ⟨_, _, _, _, I2, J2, fl2, h1, hTc1.noF h2, fun k s hs => (hpk1.eq (h2.1 21 (by decide))) k s (pre_some hs), h3, hB1.1, hB1.2.1, hB1.2.2.1, hB1.2.2.2.1, ?_⟩
            rw [h2.1 22 (by decide)]
            exact hB1.2.2.2.2
          have kA : ∀ (σ' : gH) (v7 v8 : Option Value), SeY τ σ' ow sr ad (ac, nI (chL f).length, nI b.1, bl) (va_up I 21 (upd (I 21) P.length (nI c))) J → ¬ idl P &&& (us t ^^^ -1) = 0 → G l mX8_extend (0 + 7) 0 0 (pV fun σ' => TE τ ow sr ad f (qL cn 256) dq pr P (fL (sc (rtF cn dq) pr f 0) f (P.map (stT f)) ((chL f).drop (c + 1)) (sc (rtF cn dq) pr f 0 ((P ++ [t]).map (stT f)) b)) σ') σ' 21 [some (.ref sr), some (.int (nI (P.length + 1))), some (.int (nI P.length)), some (.int (nI (cN pr (P.map (stT f))))), some (.int (idl P)), some (.int (nI 0)), some (.int (nI c + 1)), v7, v8] [] := by
            intro σ' v7 v8 h1 h2
            have eb : sc (rtF cn dq) pr f 0 ((P ++ [t]).map (stT f)) b = b := if_neg (fun z => absurd (leafB (fun i hi => (hpr i hi).1) hD hgP hsh z.2 h2) (Nat.not_le.mpr z.1))
            rw [eb]
            exact hsk _ b _ _ (hT1 σ' _ _ fl h1 (noF.rf _ _) hR1) (Nat.le_refl _)
          have kB : ∀ (σ' : gH) (I2 : Nat → Nat → Int32) (J2 : Nat → Nat → Int64) (fl2 : Nat → Nat) (v7 v8 : Option Value), SeY τ σ' ow sr ad (ac, nI (chL f).length, nI b.1, bl) I2 J2 → noF (va_up I 21 (upd (I 21) P.length (nI c))) I2 J J2 → rwX f (qL cn 256) P fl2 I2 J2 → ¬ rtF cn dq ((P ++ [t]).map (stT f)) → G l mX8_extend (0 + 7) 0 0 (pV fun σ' => TE τ ow sr ad f (qL cn 256) dq pr P (fL (sc (rtF cn dq) pr f 0) f (P.map (stT f)) ((chL f).drop (c + 1)) (sc (rtF cn dq) pr f 0 ((P ++ [t]).map (stT f)) b)) σ') σ' 21 [some (.ref sr), some (.int (nI (P.length + 1))), some (.int (nI P.length)), some (.int (nI (cN pr (P.map (stT f))))), some (.int (idl P)), some (.int (nI 0)), some (.int (nI c + 1)), v7, v8] [] := by
            intro σ' I2 J2 fl2 v7 v8 h1 h2 h3 h4
            have eb : sc (rtF cn dq) pr f 0 ((P ++ [t]).map (stT f)) b = b := acN_f h4
            rw [eb]
            exact hsk _ b _ _ (hT1 σ' _ _ fl2 h1 h2 h3) (Nat.le_refl _)
          have kC : ∀ (σ' : gH) (I2 : Nat → Nat → Int32) (J2 : Nat → Nat → Int64) (fl2 : Nat → Nat) (g : Nat → Int32) (v7 v8 : Option Value), SeY τ σ' ow sr ad (ac, nI (chL f).length, nI (cN pr (P.map (stT f)) + pr t.1), nI (P.length + 1)) (va_up I2 22 g) J2 → noF (va_up I 21 (upd (I 21) P.length (nI c))) I2 J J2 → rwX f (qL cn 256) P fl2 I2 J2 → (∀ j, j < P.length + 1 → g j = I2 21 j) → rtF cn dq ((P ++ [t]).map (stT f)) → G l mX8_extend (0 + 7) 0 0 (pV fun σ' => TE τ ow sr ad f (qL cn 256) dq pr P (fL (sc (rtF cn dq) pr f 0) f (P.map (stT f)) ((chL f).drop (c + 1)) (sc (rtF cn dq) pr f 0 ((P ++ [t]).map (stT f)) b)) σ') σ' 21 [some (.ref sr), some (.int (nI (P.length + 1))), some (.int (nI P.length)), some (.int (nI (cN pr (P.map (stT f))))), some (.int (idl P)), some (.int (nI 0)), some (.int (nI c + 1)), v7, v8] [] := by
            intro σ' I2 J2 fl2 g v7 v8 h1 h2 h3 h4 h5
            have eb : sc (rtF cn dq) pr f 0 ((P ++ [t]).map (stT f)) b = (cN pr ((P ++ [t]).map (stT f)), (P ++ [t]).map (stT f)) := acN_t (by rw [hcN2]; omega) h5
            rw [eb]
            have hpk2 := hpk1.eq (h2.1 21 (by decide))
            refine hsk _ _ _ _ ⟨_, _, _, _, _, J2, fl2, h1, (hTc1.noF h2).eq (fun k hk => va_up_ne _ _ (fun e => by rw [e] at hk; exact absurd hk (by decide))) rfl, fun k s hs => ?_, h3.eq rfl, by rw [hcN2], by show cN pr _ ≤ 1000; rw [hcN2]; omega, by show nI (P.length + 1) = nI ((P ++ [t]).map (stT f)).length; simp, by simp; omega, P ++ [t], rfl, fun k s hs => ?_⟩ (by show cN pr _ ≤ b.1; rw [hcN2]; omega)
            · exact hpk2 k s (pre_some hs)
            · obtain ⟨c', q1, q2⟩ := hpk2 k s hs
              have hkl : k < P.length + 1 := by
                have := (List.getElem?_eq_some_iff.mp hs).1
                simpa using this
              exact ⟨c', (h4 k hkl).trans q1, q2⟩
          refine g_iload dX8_extend_21 rfl ?_
          refine g_aload_n (i := 0) dX8_extend_23 rfl rfl ?_
          refine g_getf dX8_extend_24 flX8_75 (by first | exact hS.1.1.1 | exact hS2.1.1.1 | exact hS.1.2.1.1.1 | exact hS.1.2.2.2.2.1.1 | exact hS.1.2.2.2.2.2.2.2.1.1 | exact hS.1.2.2.2.2.2.2.2.2.1.1) rfl ?_
          refine g_icmp_ge (tgt := 158) dX8_extend_27 (by decide) (fun zc27 => ?_) (fun zc27 => ?_)
          · exact absurd zc27 (nI_ge hcl (by omega))
          · refine g_iload_n (i := 3) dX8_extend_30 rfl rfl ?_
            refine g_aload_n (i := 0) dX8_extend_31 rfl rfl ?_
            refine g_getf dX8_extend_32 flX8_9 (by first | exact hS.1.1.1 | exact hS2.1.1.1 | exact hS.1.2.1.1.1 | exact hS.1.2.2.2.2.1.1 | exact hS.1.2.2.2.2.2.2.2.1.1 | exact hS.1.2.2.2.2.2.2.2.2.1.1) rfl ?_
            refine g_aload_n (i := 0) dX8_extend_35 rfl rfl ?_
            refine g_getf dX8_extend_36 flX8_27 (by first | exact hS.1.1.1 | exact hS2.1.1.1 | exact hS.1.2.1.1.1 | exact hS.1.2.2.2.2.1.1 | exact hS.1.2.2.2.2.2.2.2.1.1 | exact hS.1.2.2.2.2.2.2.2.2.1.1) rfl ?_
            refine g_iload dX8_extend_39 rfl ?_
            refine g_iald dX8_extend_41 (by first | exact hS.1.1.1 | exact hS2.1.1.1 | exact hS.1.2.1.1.1 | exact hS.1.2.2.2.2.1.1 | exact hS.1.2.2.2.2.2.2.2.1.1 | exact hS.1.2.2.2.2.2.2.2.2.1.1) (by first | exact hIc | exact hIk | exact hID) ?_
            rw [hcc, e17]
            refine g_iald dX8_extend_42 (by first | exact hS.1.1.1 | exact hS2.1.1.1 | exact hS.1.2.1.1.1 | exact hS.1.2.2.2.2.1.1 | exact hS.1.2.2.2.2.2.2.2.1.1 | exact hS.1.2.2.2.2.2.2.2.2.1.1) (by first | exact hIc | exact hIk | exact hID) ?_
            rw [hkc, e10]
            refine g_iadd dX8_extend_43 ?_
            rw [nI_add]
            refine g_istore (ls' := [_, _, _, _, _, _, _, _, _]) dX8_extend_44 (by decide) rfl rfl ?_
            refine g_aload_n (i := 0) dX8_extend_46 rfl rfl ?_
            refine g_getf dX8_extend_47 flX8_36 (by first | exact hS.1.1.1 | exact hS2.1.1.1 | exact hS.1.2.1.1.1 | exact hS.1.2.2.2.2.1.1 | exact hS.1.2.2.2.2.2.2.2.1.1 | exact hS.1.2.2.2.2.2.2.2.2.1.1) rfl ?_
            refine g_iload dX8_extend_50 rfl ?_
            refine g_iald dX8_extend_52 (by first | exact hS.1.1.1 | exact hS2.1.1.1 | exact hS.1.2.1.1.1 | exact hS.1.2.2.2.2.1.1 | exact hS.1.2.2.2.2.2.2.2.1.1 | exact hS.1.2.2.2.2.2.2.2.2.1.1) (by first | exact hIc | exact hIk | exact hID) ?_
            rw [hcc, e20]
            refine g_iload_n (i := 2) dX8_extend_53 rfl rfl ?_
            refine g_iconst (v := 1) dX8_extend_54 (by decide) ?_
            refine g_iadd dX8_extend_55 ?_
            refine g_ishr dX8_extend_56 ?_
            refine g_if_ne (tgt := 152) dX8_extend_57 (by decide) (fun zc57 => ?_) (fun zc57 => ?_)
            · exact absurd (hok.mpr hk) zc57
            · refine g_iload dX8_extend_60 rfl ?_
              refine g_iload dX8_extend_62 rfl ?_
              refine g_iadd dX8_extend_64 ?_
              rw [nI_add]
              refine g_aload_n (i := 0) dX8_extend_65 rfl rfl ?_
              refine g_getf dX8_extend_66 flX8_51 (by first | exact hS.1.1.1 | exact hS2.1.1.1 | exact hS.1.2.1.1.1 | exact hS.1.2.2.2.2.1.1 | exact hS.1.2.2.2.2.2.2.2.1.1 | exact hS.1.2.2.2.2.2.2.2.2.1.1) rfl ?_
              refine g_icmp_lt (tgt := 75) dX8_extend_69 (by decide) (fun zc69 => ?_) (fun zc69 => ?_)
              · refine g_iload dX8_extend_75 rfl ?_
                refine g_aload_n (i := 0) dX8_extend_77 rfl rfl ?_
                refine g_getf dX8_extend_78 flX8_36 (by first | exact hS.1.1.1 | exact hS2.1.1.1 | exact hS.1.2.1.1.1 | exact hS.1.2.2.2.2.1.1 | exact hS.1.2.2.2.2.2.2.2.1.1 | exact hS.1.2.2.2.2.2.2.2.2.1.1) rfl ?_
                refine g_iload dX8_extend_81 rfl ?_
                refine g_iald dX8_extend_83 (by first | exact hS.1.1.1 | exact hS2.1.1.1 | exact hS.1.2.1.1.1 | exact hS.1.2.2.2.2.1.1 | exact hS.1.2.2.2.2.2.2.2.1.1 | exact hS.1.2.2.2.2.2.2.2.2.1.1) (by first | exact hIc | exact hIk | exact hID) ?_
                rw [hcc, e20]
                refine g_iconst (v := (-1)) dX8_extend_84 (by decide) ?_
                refine g_ixor dX8_extend_85 ?_
                refine g_iand dX8_extend_86 ?_
                refine g_istore (ls' := [_, _, _, _, _, _, _, _, _]) dX8_extend_87 (by decide) rfl rfl ?_
                refine g_aload_n (i := 0) dX8_extend_89 rfl rfl ?_
                refine g_getf dX8_extend_90 flX8_39 (by first | exact hS.1.1.1 | exact hS2.1.1.1 | exact hS.1.2.1.1.1 | exact hS.1.2.2.2.2.1.1 | exact hS.1.2.2.2.2.2.2.2.1.1 | exact hS.1.2.2.2.2.2.2.2.2.1.1) rfl ?_
                refine g_iload_n (i := 2) dX8_extend_93 rfl rfl ?_
                refine g_iload dX8_extend_94 rfl ?_
                refine g_iast dX8_extend_96 (by first | exact hS.1.1.1 | exact hS2.1.1.1 | exact hS.1.2.1.1.1 | exact hS.1.2.2.2.2.1.1 | exact hS.1.2.2.2.2.2.2.2.1.1 | exact hS.1.2.2.2.2.2.2.2.2.1.1) (by first | exact hIc | exact hIk | exact hID) ?_
                rw [hDc]
                have hS := hS.w21 (upd (I 21) P.length (nI c))
                refine g_iload dX8_extend_97 rfl ?_
                refine g_if_le (tgt := 132) dX8_extend_99 (by decide) (fun zc99 => ?_) (fun zc99 => ?_)
                · refine g_iload dX8_extend_132 rfl ?_
                  refine g_if_ne (tgt := 152) dX8_extend_134 (by decide) (fun zc134 => ?_) (fun zc134 => ?_)
                  · refine g_iinc (v := _ + 1) (ls' := [_, _, _, _, _, _, _, _, _]) dX8_extend_152 rfl rfl (by decide) rfl rfl ?_
                    refine g_goto (tgt := 21) dX8_extend_155 (by decide) ?_
                    first
                    | exact kC _ _ _ _ _ _ _ hS3 hF2 hR2 hg3' (rt_q.mp (bI_ne0.mp zc142))
                    | exact kB _ _ _ _ _ _ hS2 hF2 hR2 (fun z => bI_eq0.mp zc142 (rt_q.mpr z))
                    | exact kA _ _ _ hS zc134
                  · refine g_aload_n (i := 0) dX8_extend_137 rfl rfl ?_
                    refine g_iload_n (i := 2) dX8_extend_138 rfl rfl ?_
                    refine g_callVi (My := mX8_isRight) [_] dX8_extend_139 lkX8_111 mvX8_isRight rfl (by first | exact hS.1.1.1 | exact hS2.1.1.1 | exact hS.1.2.1.1.1 | exact hS.1.2.2.2.2.1.1 | exact hS.1.2.2.2.2.2.2.2.1.1 | exact hS.1.2.2.2.2.2.2.2.2.1.1) rfl (c_X8_isRight hTc1 hpk1 hgP hD hS hR1) (by first | decide | omega) (by first | decide | omega) (by first | decide | omega) rfl (Nat.le_of_ble_eq_true rfl) (fun zr139 σ zh139 => ?_)
                    obtain ⟨ze139, I2, J2, fl2, hS2, hF2, hR2⟩ := zh139
                    rw [ze139]
                    refine g_if_eq (tgt := 152) dX8_extend_142 (by decide) (fun zc142 => ?_) (fun zc142 => ?_)
                    · refine g_iinc (v := _ + 1) (ls' := [_, _, _, _, _, _, _, _, _]) dX8_extend_152 rfl rfl (by decide) rfl rfl ?_
                      refine g_goto (tgt := 21) dX8_extend_155 (by decide) ?_
                      first
                      | exact kC _ _ _ _ _ _ _ hS3 hF2 hR2 hg3' (rt_q.mp (bI_ne0.mp zc142))
                      | exact kB _ _ _ _ _ _ hS2 hF2 hR2 (fun z => bI_eq0.mp zc142 (rt_q.mpr z))
                      | exact kA _ _ _ hS zc134
                    · refine g_aload_n (i := 0) dX8_extend_145 rfl rfl ?_
                      refine g_iload_n (i := 1) dX8_extend_146 rfl rfl ?_
                      refine g_iload dX8_extend_147 rfl ?_
                      refine g_callVv (My := mX8_keep) [_, _] dX8_extend_149 lkX8_114 mvX8_keep rfl (by first | exact hS.1.1.1 | exact hS2.1.1.1 | exact hS.1.2.1.1.1 | exact hS.1.2.2.2.2.1.1 | exact hS.1.2.2.2.2.2.2.2.1.1 | exact hS.1.2.2.2.2.2.2.2.2.1.1) rfl (c_X8_keep (show P.length + 1 ≤ 3 by omega) hS2 _) (by first | decide | omega) (by first | decide | omega) (by first | decide | omega) rfl (Nat.le_of_ble_eq_true rfl) (fun σ zh149 => ?_)
                      obtain ⟨g, hS3, hg3'⟩ := zh149
                      refine g_iinc (v := _ + 1) (ls' := [_, _, _, _, _, _, _, _, _]) dX8_extend_152 rfl rfl (by decide) rfl rfl ?_
                      refine g_goto (tgt := 21) dX8_extend_155 (by decide) ?_
                      first
                      | exact kC _ _ _ _ _ _ _ hS3 hF2 hR2 hg3' (rt_q.mp (bI_ne0.mp zc142))
                      | exact kB _ _ _ _ _ _ hS2 hF2 hR2 (fun z => bI_eq0.mp zc142 (rt_q.mpr z))
                      | exact kA _ _ _ hS zc134
                · exact absurd (by decide) zc99
              · exact absurd ((nI_ltI (by omega) (by omega)).mpr hlt) zc69
        | succ r =>
          have hD1 : P.length + 1 < 3 := by omega
          have hD1c : (nI (P.length + 1)).toNatClampNeg = P.length + 1 := nI_clamp (by omega)
          have hID1 : vp_in (nI (P.length + 1)) 3 := vp_in_nI hD1 (by decide)
          have hl1 : (P ++ [t]).length = P.length + 1 := by simp
          refine g_iload dX8_extend_21 rfl ?_
          refine g_aload_n (i := 0) dX8_extend_23 rfl rfl ?_
          refine g_getf dX8_extend_24 flX8_75 (by first | exact hS.1.1.1 | exact hS.1.2.1.1.1 | exact hS.1.2.2.2.1.1 | exact hS.1.2.2.2.2.1.1 | exact hS.1.2.2.2.2.2.2.2.1.1 | exact hS.1.2.2.2.2.2.2.2.2.1.1) rfl ?_
          refine g_icmp_ge (tgt := 158) dX8_extend_27 (by decide) (fun zc27 => ?_) (fun zc27 => ?_)
          · exact absurd zc27 (nI_ge hcl (by omega))
          · refine g_iload_n (i := 3) dX8_extend_30 rfl rfl ?_
            refine g_aload_n (i := 0) dX8_extend_31 rfl rfl ?_
            refine g_getf dX8_extend_32 flX8_9 (by first | exact hS.1.1.1 | exact hS.1.2.1.1.1 | exact hS.1.2.2.2.1.1 | exact hS.1.2.2.2.2.1.1 | exact hS.1.2.2.2.2.2.2.2.1.1 | exact hS.1.2.2.2.2.2.2.2.2.1.1) rfl ?_
            refine g_aload_n (i := 0) dX8_extend_35 rfl rfl ?_
            refine g_getf dX8_extend_36 flX8_27 (by first | exact hS.1.1.1 | exact hS.1.2.1.1.1 | exact hS.1.2.2.2.1.1 | exact hS.1.2.2.2.2.1.1 | exact hS.1.2.2.2.2.2.2.2.1.1 | exact hS.1.2.2.2.2.2.2.2.2.1.1) rfl ?_
            refine g_iload dX8_extend_39 rfl ?_
            refine g_iald dX8_extend_41 (by first | exact hS.1.1.1 | exact hS.1.2.1.1.1 | exact hS.1.2.2.2.1.1 | exact hS.1.2.2.2.2.1.1 | exact hS.1.2.2.2.2.2.2.2.1.1 | exact hS.1.2.2.2.2.2.2.2.2.1.1) (by first | exact hIc | exact hIk | exact hID | exact hID1) ?_
            rw [hcc, e17]
            refine g_iald dX8_extend_42 (by first | exact hS.1.1.1 | exact hS.1.2.1.1.1 | exact hS.1.2.2.2.1.1 | exact hS.1.2.2.2.2.1.1 | exact hS.1.2.2.2.2.2.2.2.1.1 | exact hS.1.2.2.2.2.2.2.2.2.1.1) (by first | exact hIc | exact hIk | exact hID | exact hID1) ?_
            rw [hkc, e10]
            refine g_iadd dX8_extend_43 ?_
            rw [nI_add]
            refine g_istore (ls' := [_, _, _, _, _, _, _, _, _]) dX8_extend_44 (by decide) rfl rfl ?_
            refine g_aload_n (i := 0) dX8_extend_46 rfl rfl ?_
            refine g_getf dX8_extend_47 flX8_36 (by first | exact hS.1.1.1 | exact hS.1.2.1.1.1 | exact hS.1.2.2.2.1.1 | exact hS.1.2.2.2.2.1.1 | exact hS.1.2.2.2.2.2.2.2.1.1 | exact hS.1.2.2.2.2.2.2.2.2.1.1) rfl ?_
            refine g_iload dX8_extend_50 rfl ?_
            refine g_iald dX8_extend_52 (by first | exact hS.1.1.1 | exact hS.1.2.1.1.1 | exact hS.1.2.2.2.1.1 | exact hS.1.2.2.2.2.1.1 | exact hS.1.2.2.2.2.2.2.2.1.1 | exact hS.1.2.2.2.2.2.2.2.2.1.1) (by first | exact hIc | exact hIk | exact hID | exact hID1) ?_
            rw [hcc, e20]
            refine g_iload_n (i := 2) dX8_extend_53 rfl rfl ?_
            refine g_iconst (v := 1) dX8_extend_54 (by decide) ?_
            refine g_iadd dX8_extend_55 ?_
            refine g_ishr dX8_extend_56 ?_
            refine g_if_ne (tgt := 152) dX8_extend_57 (by decide) (fun zc57 => ?_) (fun zc57 => ?_)
            · exact absurd (hok.mpr hk) zc57
            · refine g_iload dX8_extend_60 rfl ?_
              refine g_iload dX8_extend_62 rfl ?_
              refine g_iadd dX8_extend_64 ?_
              rw [nI_add]
              refine g_aload_n (i := 0) dX8_extend_65 rfl rfl ?_
              refine g_getf dX8_extend_66 flX8_51 (by first | exact hS.1.1.1 | exact hS.1.2.1.1.1 | exact hS.1.2.2.2.1.1 | exact hS.1.2.2.2.2.1.1 | exact hS.1.2.2.2.2.2.2.2.1.1 | exact hS.1.2.2.2.2.2.2.2.2.1.1) rfl ?_
              refine g_icmp_lt (tgt := 75) dX8_extend_69 (by decide) (fun zc69 => ?_) (fun zc69 => ?_)
              · refine g_iload dX8_extend_75 rfl ?_
                refine g_aload_n (i := 0) dX8_extend_77 rfl rfl ?_
                refine g_getf dX8_extend_78 flX8_36 (by first | exact hS.1.1.1 | exact hS.1.2.1.1.1 | exact hS.1.2.2.2.1.1 | exact hS.1.2.2.2.2.1.1 | exact hS.1.2.2.2.2.2.2.2.1.1 | exact hS.1.2.2.2.2.2.2.2.2.1.1) rfl ?_
                refine g_iload dX8_extend_81 rfl ?_
                refine g_iald dX8_extend_83 (by first | exact hS.1.1.1 | exact hS.1.2.1.1.1 | exact hS.1.2.2.2.1.1 | exact hS.1.2.2.2.2.1.1 | exact hS.1.2.2.2.2.2.2.2.1.1 | exact hS.1.2.2.2.2.2.2.2.2.1.1) (by first | exact hIc | exact hIk | exact hID | exact hID1) ?_
                rw [hcc, e20]
                refine g_iconst (v := (-1)) dX8_extend_84 (by decide) ?_
                refine g_ixor dX8_extend_85 ?_
                refine g_iand dX8_extend_86 ?_
                refine g_istore (ls' := [_, _, _, _, _, _, _, _, _]) dX8_extend_87 (by decide) rfl rfl ?_
                refine g_aload_n (i := 0) dX8_extend_89 rfl rfl ?_
                refine g_getf dX8_extend_90 flX8_39 (by first | exact hS.1.1.1 | exact hS.1.2.1.1.1 | exact hS.1.2.2.2.1.1 | exact hS.1.2.2.2.2.1.1 | exact hS.1.2.2.2.2.2.2.2.1.1 | exact hS.1.2.2.2.2.2.2.2.2.1.1) rfl ?_
                refine g_iload_n (i := 2) dX8_extend_93 rfl rfl ?_
                refine g_iload dX8_extend_94 rfl ?_
                refine g_iast dX8_extend_96 (by first | exact hS.1.1.1 | exact hS.1.2.1.1.1 | exact hS.1.2.2.2.1.1 | exact hS.1.2.2.2.2.1.1 | exact hS.1.2.2.2.2.2.2.2.1.1 | exact hS.1.2.2.2.2.2.2.2.2.1.1) (by first | exact hIc | exact hIk | exact hID | exact hID1) ?_
                rw [hDc]
                have hS := hS.w21 (upd (I 21) P.length (nI c))
                refine g_iload dX8_extend_97 rfl ?_
                refine g_if_le (tgt := 132) dX8_extend_99 (by decide) (fun zc99 => ?_) (fun zc99 => ?_)
                · exact absurd zc99 (nI_nle (Nat.succ_pos r) (by omega))
                · refine g_aload_n (i := 0) dX8_extend_102 rfl rfl ?_
                  refine g_getf dX8_extend_103 flX8_24 (by first | exact hS.1.1.1 | exact hS.1.2.1.1.1 | exact hS.1.2.2.2.1.1 | exact hS.1.2.2.2.2.1.1 | exact hS.1.2.2.2.2.2.2.2.1.1 | exact hS.1.2.2.2.2.2.2.2.2.1.1) rfl ?_
                  refine g_iload_n (i := 2) dX8_extend_106 rfl rfl ?_
                  refine g_iconst (v := 1) dX8_extend_107 (by decide) ?_
                  refine g_iadd dX8_extend_108 ?_
                  rw [nI_1]
                  refine g_iconst (v := 0) dX8_extend_109 (by decide) ?_
                  refine g_iast dX8_extend_110 (by first | exact hS.1.1.1 | exact hS.1.2.1.1.1 | exact hS.1.2.2.2.1.1 | exact hS.1.2.2.2.2.1.1 | exact hS.1.2.2.2.2.2.2.2.1.1 | exact hS.1.2.2.2.2.2.2.2.2.1.1) (by first | exact hIc | exact hIk | exact hID | exact hID1) ?_
                  rw [hD1c]
                  have hS := hS.w16 (upd (I 16) (P.length + 1) 0)
                  refine g_aload_n (i := 0) dX8_extend_111 rfl rfl ?_
                  refine g_iload_n (i := 1) dX8_extend_112 rfl rfl ?_
                  refine g_iload_n (i := 2) dX8_extend_113 rfl rfl ?_
                  refine g_iconst (v := 1) dX8_extend_114 (by decide) ?_
                  refine g_iadd dX8_extend_115 ?_
                  rw [nI_1]
                  refine g_iload dX8_extend_116 rfl ?_
                  refine g_iload dX8_extend_118 rfl ?_
                  refine g_iconst (v := 1) dX8_extend_120 (by decide) ?_
                  refine g_iload_n (i := 2) dX8_extend_121 rfl rfl ?_
                  refine g_iconst (v := 1) dX8_extend_122 (by decide) ?_
                  refine g_iadd dX8_extend_123 ?_
                  refine g_ishl dX8_extend_124 ?_
                  refine g_ior dX8_extend_125 ?_
                  rw [idl_next (by omega)]
                  have hx := hrec r rfl (P ++ [t]) b _ (by rw [hl1]; omega) hgP (by rw [hcN2, hl1]; omega) ⟨_, _, _, _, _, J, _, hS, hTc.eq (fun k hk => by rw [va_up_ne _ _ (fun e => by rw [e] at hk; exact absurd hk (by decide)), va_up_ne _ _ (fun e => by rw [e] at hk; exact absurd hk (by decide))]) (by rw [va_up_self]; exact pk_un (by omega)), hpk.app ht rfl, hR.app t rfl, hB⟩ hsh
                  rw [hl1, hcN2] at hx
                  refine g_callVv (My := mX8_extend) [_, _, _, _] dX8_extend_126 lkX8_107 mvX8_extend rfl (by first | exact hS.1.1.1 | exact hS.1.2.1.1.1 | exact hS.1.2.2.2.1.1 | exact hS.1.2.2.2.2.1.1 | exact hS.1.2.2.2.2.2.2.2.1.1 | exact hS.1.2.2.2.2.2.2.2.2.1.1) rfl (hx) (by first | decide | omega) (by first | decide | omega) (by first | decide | omega) rfl (Nat.le_of_ble_eq_true rfl) (fun σ zh126 => ?_)
                  refine g_goto (tgt := 152) dX8_extend_129 (by decide) ?_
                  refine g_iinc (v := _ + 1) (ls' := [_, _, _, _, _, _, _, _, _]) dX8_extend_152 rfl rfl (by decide) rfl rfl ?_
                  refine g_goto (tgt := 21) dX8_extend_155 (by decide) ?_
                  exact hsk _ _ _ _ zh126.pre (sc_le _ _ _)
              · exact absurd ((nI_ltI (by omega) (by omega)).mpr hlt) zc69
      · rw [sc_skip2 (fun i hi => (hpr i hi).1) r _ b (by rw [hcN2]; omega)]
        refine g_iload dX8_extend_21 rfl ?_
        refine g_aload_n (i := 0) dX8_extend_23 rfl rfl ?_
        refine g_getf dX8_extend_24 flX8_75 (by first | exact hS.1.1.1 | exact hS.1.2.1.1.1 | exact hS.1.2.2.2.2.1.1 | exact hS.1.2.2.2.2.2.2.2.1.1) rfl ?_
        refine g_icmp_ge (tgt := 158) dX8_extend_27 (by decide) (fun zc27 => ?_) (fun zc27 => ?_)
        · exact absurd zc27 (nI_ge hcl (by omega))
        · refine g_iload_n (i := 3) dX8_extend_30 rfl rfl ?_
          refine g_aload_n (i := 0) dX8_extend_31 rfl rfl ?_
          refine g_getf dX8_extend_32 flX8_9 (by first | exact hS.1.1.1 | exact hS.1.2.1.1.1 | exact hS.1.2.2.2.2.1.1 | exact hS.1.2.2.2.2.2.2.2.1.1) rfl ?_
          refine g_aload_n (i := 0) dX8_extend_35 rfl rfl ?_
          refine g_getf dX8_extend_36 flX8_27 (by first | exact hS.1.1.1 | exact hS.1.2.1.1.1 | exact hS.1.2.2.2.2.1.1 | exact hS.1.2.2.2.2.2.2.2.1.1) rfl ?_
          refine g_iload dX8_extend_39 rfl ?_
          refine g_iald dX8_extend_41 (by first | exact hS.1.1.1 | exact hS.1.2.1.1.1 | exact hS.1.2.2.2.2.1.1 | exact hS.1.2.2.2.2.2.2.2.1.1) (by first | exact hIc | exact hIk) ?_
          rw [hcc, e17]
          refine g_iald dX8_extend_42 (by first | exact hS.1.1.1 | exact hS.1.2.1.1.1 | exact hS.1.2.2.2.2.1.1 | exact hS.1.2.2.2.2.2.2.2.1.1) (by first | exact hIc | exact hIk) ?_
          rw [hkc, e10]
          refine g_iadd dX8_extend_43 ?_
          rw [nI_add]
          refine g_istore (ls' := [_, _, _, _, _, _, _, _, _]) dX8_extend_44 (by decide) rfl rfl ?_
          refine g_aload_n (i := 0) dX8_extend_46 rfl rfl ?_
          refine g_getf dX8_extend_47 flX8_36 (by first | exact hS.1.1.1 | exact hS.1.2.1.1.1 | exact hS.1.2.2.2.2.1.1 | exact hS.1.2.2.2.2.2.2.2.1.1) rfl ?_
          refine g_iload dX8_extend_50 rfl ?_
          refine g_iald dX8_extend_52 (by first | exact hS.1.1.1 | exact hS.1.2.1.1.1 | exact hS.1.2.2.2.2.1.1 | exact hS.1.2.2.2.2.2.2.2.1.1) (by first | exact hIc | exact hIk) ?_
          rw [hcc, e20]
          refine g_iload_n (i := 2) dX8_extend_53 rfl rfl ?_
          refine g_iconst (v := 1) dX8_extend_54 (by decide) ?_
          refine g_iadd dX8_extend_55 ?_
          refine g_ishr dX8_extend_56 ?_
          refine g_if_ne (tgt := 152) dX8_extend_57 (by decide) (fun zc57 => ?_) (fun zc57 => ?_)
          · exact absurd (hok.mpr hk) zc57
          · refine g_iload dX8_extend_60 rfl ?_
            refine g_iload dX8_extend_62 rfl ?_
            refine g_iadd dX8_extend_64 ?_
            rw [nI_add]
            refine g_aload_n (i := 0) dX8_extend_65 rfl rfl ?_
            refine g_getf dX8_extend_66 flX8_51 (by first | exact hS.1.1.1 | exact hS.1.2.1.1.1 | exact hS.1.2.2.2.2.1.1 | exact hS.1.2.2.2.2.2.2.2.1.1) rfl ?_
            refine g_icmp_lt (tgt := 75) dX8_extend_69 (by decide) (fun zc69 => ?_) (fun zc69 => ?_)
            · exact absurd ((nI_ltI (by omega) (by omega)).mp zc69) hlt
            · refine g_goto (tgt := 152) dX8_extend_72 (by decide) ?_
              refine g_iinc (v := _ + 1) (ls' := [_, _, _, _, _, _, _, _, _]) dX8_extend_152 rfl rfl (by decide) rfl rfl ?_
              refine g_goto (tgt := 21) dX8_extend_155 (by decide) ?_
              exact hsk _ b _ _ hT (Nat.le_refl _)
    · rw [fL_f (by rw [hml]; exact hk)]
      refine g_iload dX8_extend_21 rfl ?_
      refine g_aload_n (i := 0) dX8_extend_23 rfl rfl ?_
      refine g_getf dX8_extend_24 flX8_75 (by first | exact hS.1.1.1 | exact hS.1.2.1.1.1 | exact hS.1.2.2.2.2.1.1 | exact hS.1.2.2.2.2.2.2.2.1.1) rfl ?_
      refine g_icmp_ge (tgt := 158) dX8_extend_27 (by decide) (fun zc27 => ?_) (fun zc27 => ?_)
      · exact absurd zc27 (nI_ge hcl (by omega))
      · refine g_iload_n (i := 3) dX8_extend_30 rfl rfl ?_
        refine g_aload_n (i := 0) dX8_extend_31 rfl rfl ?_
        refine g_getf dX8_extend_32 flX8_9 (by first | exact hS.1.1.1 | exact hS.1.2.1.1.1 | exact hS.1.2.2.2.2.1.1 | exact hS.1.2.2.2.2.2.2.2.1.1) rfl ?_
        refine g_aload_n (i := 0) dX8_extend_35 rfl rfl ?_
        refine g_getf dX8_extend_36 flX8_27 (by first | exact hS.1.1.1 | exact hS.1.2.1.1.1 | exact hS.1.2.2.2.2.1.1 | exact hS.1.2.2.2.2.2.2.2.1.1) rfl ?_
        refine g_iload dX8_extend_39 rfl ?_
        refine g_iald dX8_extend_41 (by first | exact hS.1.1.1 | exact hS.1.2.1.1.1 | exact hS.1.2.2.2.2.1.1 | exact hS.1.2.2.2.2.2.2.2.1.1) (by first | exact hIc | exact hIk) ?_
        rw [hcc, e17]
        refine g_iald dX8_extend_42 (by first | exact hS.1.1.1 | exact hS.1.2.1.1.1 | exact hS.1.2.2.2.2.1.1 | exact hS.1.2.2.2.2.2.2.2.1.1) (by first | exact hIc | exact hIk) ?_
        rw [hkc, e10]
        refine g_iadd dX8_extend_43 ?_
        rw [nI_add]
        refine g_istore (ls' := [_, _, _, _, _, _, _, _, _]) dX8_extend_44 (by decide) rfl rfl ?_
        refine g_aload_n (i := 0) dX8_extend_46 rfl rfl ?_
        refine g_getf dX8_extend_47 flX8_36 (by first | exact hS.1.1.1 | exact hS.1.2.1.1.1 | exact hS.1.2.2.2.2.1.1 | exact hS.1.2.2.2.2.2.2.2.1.1) rfl ?_
        refine g_iload dX8_extend_50 rfl ?_
        refine g_iald dX8_extend_52 (by first | exact hS.1.1.1 | exact hS.1.2.1.1.1 | exact hS.1.2.2.2.2.1.1 | exact hS.1.2.2.2.2.2.2.2.1.1) (by first | exact hIc | exact hIk) ?_
        rw [hcc, e20]
        refine g_iload_n (i := 2) dX8_extend_53 rfl rfl ?_
        refine g_iconst (v := 1) dX8_extend_54 (by decide) ?_
        refine g_iadd dX8_extend_55 ?_
        refine g_ishr dX8_extend_56 ?_
        refine g_if_ne (tgt := 152) dX8_extend_57 (by decide) (fun zc57 => ?_) (fun zc57 => ?_)
        · refine g_iinc (v := _ + 1) (ls' := [_, _, _, _, _, _, _, _, _]) dX8_extend_152 rfl rfl (by decide) rfl rfl ?_
          refine g_goto (tgt := 21) dX8_extend_155 (by decide) ?_
          exact hsk _ b _ _ hT (Nat.le_refl _)
        · exact absurd (hok.mp zc57) hk
theorem c_X8_extend (hpr : ∀ i, i < 13 → 1 ≤ pr i ∧ pr i ≤ 50) {goal : Nat} (hg3 : goal ≤ 3) : ∀ r, exC l τ ow sr ad f dq cn pr goal r := by
  have main : ∀ r, (∀ r', r = r' + 1 → exC l τ ow sr ad f dq cn pr goal r') → exC l τ ow sr ad f dq cn pr goal r := by
    intro r hrec P b σ hgo hP hcN hT hsh
    have hD : P.length < 3 := by omega
    have hml : (P.map (stT f)).length = P.length := List.length_map ..
    have key := lp_X8_extend (l := l) hpr hg3 hrec hgo hP hcN (chL f).length 0 b σ none none (by omega) hT hsh
    rw [List.drop_zero, show fL (sc (rtF cn dq) pr f r) f (P.map (stT f)) (chL f) b = sc (rtF cn dq) pr f (r + 1) (P.map (stT f)) b from fL_lK (by rw [hml]; exact hD) _ _] at key
    have hsub : nI goal - nI P.length - 1 = nI r := by
      rw [← hgo, show P.length + 1 + r = (r + 1) + P.length by omega, ← nI_add, Int32.add_sub_cancel, nI_pred]
    have hlt1 : P.length < goal := by omega
    generalize nI (cN pr (P.map (stT f))) = z3 at key ⊢
    generalize idl P = z4 at key ⊢
    obtain ⟨D, hDe⟩ : ∃ D, D = P.length := ⟨_, rfl⟩
    rw [← hDe] at key hsub hD hlt1 ⊢
    refine Ct_of moX8_extend [some (.ref sr), some (.int (nI goal)), some (.int (nI D)), some (.int z3), some (.int z4), none, none, none, none] rfl (Nat.le_of_ble_eq_true rfl) ?_
    refine g_iload_n (i := 2) dX8_extend_0 rfl rfl ?_
    refine g_iconst (v := 3) dX8_extend_1 (by decide) ?_
    refine g_icmp_ge (tgt := 10) dX8_extend_2 (by decide) (fun zc2 => ?_) (fun zc2 => ?_)
    · exact absurd zc2 (nI_ge (b := 3) hD (by decide))
    · refine g_iload_n (i := 2) dX8_extend_5 rfl rfl ?_
      refine g_iload_n (i := 1) dX8_extend_6 rfl rfl ?_
      refine g_icmp_lt (tgt := 11) dX8_extend_7 (by decide) (fun zc7 => ?_) (fun zc7 => ?_)
      · refine g_iload_n (i := 1) dX8_extend_11 rfl rfl ?_
        refine g_iload_n (i := 2) dX8_extend_12 rfl rfl ?_
        refine g_isub dX8_extend_13 ?_
        refine g_iconst (v := 1) dX8_extend_14 (by decide) ?_
        refine g_isub dX8_extend_15 ?_
        rw [hsub]
        refine g_istore (ls' := [_, _, _, _, _, _, _, _, _]) dX8_extend_16 (by decide) rfl rfl ?_
        refine g_iconst (v := 0) dX8_extend_18 (by decide) ?_
        refine g_istore (ls' := [_, _, _, _, _, _, _, _, _]) dX8_extend_19 (by decide) rfl rfl ?_
        exact key
      · exact absurd (nI_lt hlt1 (by omega)) zc7
  intro r
  induction r with
  | zero => exact main 0 (fun r' h => by omega)
  | succ r ih => exact main (r + 1) (fun r' h => by cases h; exact ih)
end CSef
