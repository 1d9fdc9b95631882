/-! the class: writeBest, least -/
theorem RCx.sea {σ σ' : gH} {ow : Nat → Nat} {x : Nat} {A : aA} {ad hk : Nat → Nat} {cs : List cA} {ff : Nat → Option Nat} (q : RCx σ ow x A ad hk cs ff) (hs : Sm exS σ ow σ' ow) (hX : SeC σ' ow (ad 8)) : RCx σ' ow x A ad hk cs ff := by
  obtain ⟨h1, h2, h3, h4, h5, h6, ⟨h7, h8, h9⟩, h10, h11, h12, h13⟩ := q
  exact ⟨h1.mono hs (by decide), h2.mono hs (by decide) (fun m _ _ => by omega), h3.mono hs (by decide), h4.mono hs (by decide), h5.mono hs (by decide) (by decide) (fun m _ => by omega), h6.mono hs (by decide) (by omega), ⟨h7.mono hs (by decide) (by decide) (by decide), h8, h9.mono hs (by decide) (fun m _ => by omega)⟩, h10, hX, h12.mono hs (by decide), h13⟩
theorem RCx.look {σ : gH} {ow : Nat → Nat} {x : Nat} {A : aA} {ad hk : Nat → Nat} {cs : List cA} {ff : Nat → Option Nat} (q : RCx σ ow x A ad hk cs ff) (hl : A.2.2.2.2.2 < 12) : RCx (su σ x (xO ad A.1.length (A.2.2.2.2.2 + 1))) ow x (aLook A) ad hk cs ff := by
  obtain ⟨h1, h2, h3, h4, h5, h6, ⟨h7, h8, h9⟩, h10, h11, h12, h13⟩ := q
  have hs : Sm (fun i => i = 0) σ ow (su σ x (xO ad A.1.length (A.2.2.2.2.2 + 1))) ow := Sm.stp h1.2 _
  exact ⟨h1.up _, h2.mono hs (by decide) (fun m _ _ => by omega), h3.mono hs (by decide), h4.mono hs (by decide), h5.mono hs (by decide) (by decide) (fun m _ => by omega), h6.mono hs (by decide) (by omega), ⟨h7.mono hs (by decide) (by decide) (by decide), h8, h9.mono hs (by decide) (fun m _ => by omega)⟩, h10, h11.mono hs (fun m _ _ _ => by omega), h12.mono hs (by decide), hl⟩
def b0 (b : bB) : Prop := b.1 ≤ 1000 ∧ (b.1 = 1000 → b.2 = [])
theorem sc_b0 {Rt : List aSt → Prop} {pr : Nat → Nat} {tl : Nat → Int64} : ∀ (r : Nat) (pre : List aSt) (b : bB), b0 b → b0 (sc Rt pr tl r pre b) := by
  intro r
  induction r with
  | zero =>
    intro pre b hb
    show b0 (acN Rt pr pre b)
    unfold acN
    split
    · rename_i h
      have h1 : cN pr pre < b.1 := h.1
      have h2 := hb.1
      exact ⟨by show cN pr pre ≤ 1000; omega, fun e => by have e' : cN pr pre = 1000 := e; omega⟩
    · exact hb
  | succ r ih =>
    intro pre b hb
    exact fK_in (P := b0) _ _ (fun i hi x _ y _ _ b' hb' => ih _ _ hb') hb
theorem scAll_b0 {Rt : List aSt → Prop} {pr : Nat → Nat} {tl : Nat → Int64} : ∀ (n : Nat), b0 (scAll Rt pr tl n) := by
  intro n
  induction n with
  | zero => exact ⟨Nat.le_refl _, fun _ => rfl⟩
  | succ n ih => exact sc_b0 _ _ _ ih
section CLeast
variable {l : Launch} {x : Nat} {A : aA} {ow : Nat → Nat} {ad hk : Nat → Nat} {cs : List cA} {ff : Nat → Option Nat} {sr : Nat} {adS : Nat → Nat} {ac cc bc bl : Int32} {I : Nat → Nat → Int32} {J : Nat → Nat → Int64} {f : Nat → Int64}
theorem lp_X8_wb (hc : chR f (chL f) cc I J) {B : List cT} (hbl : bl = nI B.length) (hB3 : B.length ≤ 3) (hBk : ∀ (k : Nat) (t : cT), B[k]? = some t → ∃ c, I 22 k = nI c ∧ (chL f)[c]? = some t) {j b : Nat} {w : Int32} (hj : j < A.1.length) (hb : ff j = some b) : ∀ (n k : Nat) (σ : gH) (v3 : Option Value), k + n = B.length → SeX σ ow sr adS (ac, cc, bc, bl) I J → RCx σ ow x (A.1.set j (w, (B.take k).map (stT f)), A.2) ad hk cs ff → G l mX8_writeBest 2 0 0 (pV fun σ' => RCx σ' ow x (A.1.set j (w, B.map (stT f)), A.2) ad hk cs ff) σ 2 [some (.ref sr), some (.ref b), some (.int (nI k)), v3] [] := by
  have h144 := len_chL (tl := f)
  intro n
  induction n with
  | zero =>
    intro k σ v3 hk hX hR
    obtain rfl : k = B.length := by omega
    rw [List.take_length] at hR
    subst hbl
    refine g_iload_n (i := 2) dX8_writeBest_2 rfl rfl ?_
    refine g_aload_n (i := 0) dX8_writeBest_3 rfl rfl ?_
    refine g_getf dX8_writeBest_4 flX8_55 (hX.1.1) rfl ?_
    refine g_icmp_ge (tgt := 46) dX8_writeBest_7 (by decide) (fun zc7 => ?_) (fun zc7 => ?_)
    · refine g_vret dX8_writeBest_46 rfl ?_
      exact ⟨rfl, hR⟩
    · exact absurd (nI_le (Nat.le_refl _) (by omega)) zc7
  | succ n ih =>
    intro k σ v3 hk hX hR
    have hkB : k < B.length := by omega
    have hBt : ∃ t, B[k]? = some t := ⟨B[k], List.getElem?_eq_getElem hkB⟩
    obtain ⟨t, ht⟩ := hBt
    obtain ⟨c, hc1, hc2⟩ := hBk k t ht
    have hcl := (List.getElem?_eq_some_iff.mp hc2).1
    obtain ⟨e17, e18, e19, e20⟩ := hc.2.2 c t hc2
    have hkc : (nI k).toNatClampNeg = k := nI_clamp (by omega)
    have hIk : vp_in (nI k) 3 := vp_in_nI (by omega) (by decide)
    have hcc : (nI c).toNatClampNeg = c := nI_clamp (by omega)
    have hIc : vp_in (nI c) 144 := vp_in_nI (by omega) (by decide)
    have hgj : (A.1.set j (w, (B.take k).map (stT f)))[j]? = some (w, (B.take k).map (stT f)) := by simp [hj]
    have htk : B.take (k + 1) = B.take k ++ [t] := by
      rw [List.take_succ, ht]
      rfl
    have hj60 : j < 60 := by have := hR.2.1.2.1; simp at this; omega
    subst hbl
    refine g_iload_n (i := 2) dX8_writeBest_2 rfl rfl ?_
    refine g_aload_n (i := 0) dX8_writeBest_3 rfl rfl ?_
    refine g_getf dX8_writeBest_4 flX8_55 (by first | exact hX.1.1 | exact hX.2.2.2.2.1.1 | exact hX.2.2.2.2.2.1.1 | exact hX.2.2.2.2.2.2.1.1 | exact hX.2.2.2.2.2.2.2.2.2.1) rfl ?_
    refine g_icmp_ge (tgt := 46) dX8_writeBest_7 (by decide) (fun zc7 => ?_) (fun zc7 => ?_)
    · exact absurd zc7 (nI_ge hkB (by omega))
    · refine g_aload_n (i := 0) dX8_writeBest_10 rfl rfl ?_
      refine g_getf dX8_writeBest_11 flX8_42 (by first | exact hX.1.1 | exact hX.2.2.2.2.1.1 | exact hX.2.2.2.2.2.1.1 | exact hX.2.2.2.2.2.2.1.1 | exact hX.2.2.2.2.2.2.2.2.2.1) rfl ?_
      refine g_iload_n (i := 2) dX8_writeBest_14 rfl rfl ?_
      refine g_iald dX8_writeBest_15 (by first | exact hX.1.1 | exact hX.2.2.2.2.1.1 | exact hX.2.2.2.2.2.1.1 | exact hX.2.2.2.2.2.2.1.1 | exact hX.2.2.2.2.2.2.2.2.2.1) (by first | exact hIk | exact hIc) ?_
      rw [hkc, hc1]
      refine g_istore_n (i := 3) (ls' := [_, _, _, _]) dX8_writeBest_16 rfl (by decide) rfl rfl ?_
      refine g_aload_n (i := 1) dX8_writeBest_17 rfl rfl ?_
      refine g_aload_n (i := 0) dX8_writeBest_18 rfl rfl ?_
      refine g_getf dX8_writeBest_19 flX8_27 (by first | exact hX.1.1 | exact hX.2.2.2.2.1.1 | exact hX.2.2.2.2.2.1.1 | exact hX.2.2.2.2.2.2.1.1 | exact hX.2.2.2.2.2.2.2.2.2.1) rfl ?_
      refine g_iload_n (i := 3) dX8_writeBest_22 rfl rfl ?_
      refine g_iald dX8_writeBest_23 (by first | exact hX.1.1 | exact hX.2.2.2.2.1.1 | exact hX.2.2.2.2.2.1.1 | exact hX.2.2.2.2.2.2.1.1 | exact hX.2.2.2.2.2.2.2.2.2.1) (by first | exact hIk | exact hIc) ?_
      rw [hcc, e17]
      refine g_aload_n (i := 0) dX8_writeBest_24 rfl rfl ?_
      refine g_getf dX8_writeBest_25 flX8_30 (by first | exact hX.1.1 | exact hX.2.2.2.2.1.1 | exact hX.2.2.2.2.2.1.1 | exact hX.2.2.2.2.2.2.1.1 | exact hX.2.2.2.2.2.2.2.2.2.1) rfl ?_
      refine g_iload_n (i := 3) dX8_writeBest_28 rfl rfl ?_
      refine g_iald dX8_writeBest_29 (by first | exact hX.1.1 | exact hX.2.2.2.2.1.1 | exact hX.2.2.2.2.2.1.1 | exact hX.2.2.2.2.2.2.1.1 | exact hX.2.2.2.2.2.2.2.2.2.1) (by first | exact hIk | exact hIc) ?_
      rw [hcc, e18]
      refine g_aload_n (i := 0) dX8_writeBest_30 rfl rfl ?_
      refine g_getf dX8_writeBest_31 flX8_33 (by first | exact hX.1.1 | exact hX.2.2.2.2.1.1 | exact hX.2.2.2.2.2.1.1 | exact hX.2.2.2.2.2.2.1.1 | exact hX.2.2.2.2.2.2.2.2.2.1) rfl ?_
      refine g_iload_n (i := 3) dX8_writeBest_34 rfl rfl ?_
      refine g_lald dX8_writeBest_35 (by first | exact hX.1.1 | exact hX.2.2.2.2.1.1 | exact hX.2.2.2.2.2.1.1 | exact hX.2.2.2.2.2.2.1.1 | exact hX.2.2.2.2.2.2.2.2.2.1) (by first | exact hIk | exact hIc) ?_
      rw [hcc, e19]
      obtain ⟨b', ka, xa, ya, kf, xf, yf, hb', p1, p2, p3, p4, hst, h12⟩ := hR.form hgj
      obtain rfl : b = b' := Option.some.inj (hb.symm.trans hb')
      refine g_callVi (My := mX3_add) [_, _, _] dX8_writeBest_36 lkX8_129 mvX3_add rfl (p1.1) rfl (c_addF hR hgj hb (by simp; omega) _ _ _) (by decide) (by decide) (by decide) rfl (Nat.le_of_ble_eq_true rfl) (fun zr36 σ zh36 => ?_)
      obtain ⟨ze36, hs36, hR2⟩ := zh36
      refine g_pop dX8_writeBest_39 rfl ?_
      refine g_iinc (v := _ + 1) (ls' := [_, _, _, _]) dX8_writeBest_40 rfl rfl (by decide) rfl rfl ?_
      refine g_goto (tgt := 2) dX8_writeBest_43 (by decide) ?_
      rw [List.set_set] at hR2
      refine g_cl (by rw [nI_1]) (ih (k + 1) _ _ (by omega) (hX.mono hs36 (fun m _ _ _ => by omega)) ?_)
      rw [htk, List.map_append]
      exact hR2
theorem c_X8_writeBest {σ : gH} (hc : chR f (chL f) cc I J) {B : List cT} (hbl : bl = nI B.length) (hB3 : B.length ≤ 3) (hBk : ∀ (k : Nat) (t : cT), B[k]? = some t → ∃ c, I 22 k = nI c ∧ (chL f)[c]? = some t) {j b : Nat} {w : Int32} (hb : ff j = some b) (hX : SeX σ ow sr adS (ac, cc, bc, bl) I J) (hR : RCx σ ow x A ad hk cs ff) (hg : A.1[j]? = some (w, [])) : Ct l mX8_writeBest 2 0 0 [.ref sr, .ref b] σ (pV fun σ' => RCx σ' ow x (A.1.set j (w, B.map (stT f)), A.2) ad hk cs ff) := by
  obtain ⟨hj, he⟩ := List.getElem?_eq_some_iff.mp hg
  have e : A.1.set j (w, []) = A.1 := by
    rw [← he]
    exact List.set_getElem_self hj
  refine Ct_of moX8_writeBest [some (.ref sr), some (.ref b), none, none] rfl (Nat.le_of_ble_eq_true rfl) ?_
  refine g_iconst (v := 0) dX8_writeBest_0 (by decide) ?_
  refine g_istore_n (i := 2) (ls' := [_, _, _, _]) dX8_writeBest_1 rfl (by decide) rfl rfl ?_
  exact lp_X8_wb hc hbl hB3 hBk hj hb B.length 0 σ _ (by omega) hX (by rw [List.take_zero, List.map_nil, e]; exact hR)
theorem RdY.te {τ σ : gH} {pf : Nat → Int32} {q : List Nat} {dq : Nat → Int64} {pr : Nat → Nat} (h : RdY τ ow sr adS f pf q dq σ) (hp : ∀ k, k < 13 → pf k = nI (pr k)) : TE τ ow sr adS f q dq pr [] (1000, []) σ := by
  obtain ⟨ac, cc, I, J, h1, h2, h3, h4, h5⟩ := h
  refine ⟨ac, cc, 1000, 0, I, J, fun _ => q.length, h1, ⟨h2, h3, fun k hk => (h4 k hk).trans (hp k hk), h5⟩, fun k t ht => by simp at ht, ⟨rfl, fun k hk => ?_, fun k hk => absurd hk (Nat.not_lt_zero _)⟩, rfl, Nat.le_refl _, rfl, Nat.zero_le _, [], rfl, fun k t ht => by simp at ht⟩
  obtain rfl : k = 0 := Nat.le_zero.mp hk
  refine ⟨h5.trans h3.1, Nat.le_refl _, fun i v hi hv => ?_⟩
  obtain ⟨g1, g2, g3⟩ := h3.2.2 i v hv
  show J 13 i = mLow (lN v) 8
  rw [g1]
  exact (mLow_id (N := 8) (Or.inl rfl) (by rw [uN_lN (by omega)]; exact g3)).symm
theorem lp_X10_least {τ : gH} {sg ws : Int32} {d : Int64} {most : Nat} (hm3 : most ≤ 3) {pr : Nat → Nat} (hpr : ∀ i, i < 13 → 1 ≤ pr i ∧ pr i ≤ 50) (hR : RCx τ ow x A ad hk cs ff) {post : Option Value → gH → Prop} {mc ms : Nat} (K : ∀ (σ : gH) (v6 : Option Value), TE τ ow (ad 8) adS f (qL (cnF sg ws d) 256) (dqF sg ws d) pr [] (scAll (rtF (cnF sg ws d) (dqF sg ws d)) pr f most) σ → G l mX10_least 12 mc ms post σ 111 [some (.ref x), some (.int sg), some (.int ws), some (.long d), none, some (.int (nI most)), v6] []) : ∀ (n g : Nat) (σ : gH), g + n = most → TE τ ow (ad 8) adS f (qL (cnF sg ws d) 256) (dqF sg ws d) pr [] (scAll (rtF (cnF sg ws d) (dqF sg ws d)) pr f g) σ → G l mX10_least 12 mc ms post σ 86 [some (.ref x), some (.int sg), some (.int ws), some (.long d), none, some (.int (nI most)), some (.int (nI (g + 1)))] [] := by
  intro n
  induction n with
  | zero =>
    intro g σ hg hT
    obtain rfl : g = most := by omega
    refine g_iload dX10_least_86 rfl ?_
    refine g_iload dX10_least_88 rfl ?_
    refine g_icmp_gt (tgt := 111) dX10_least_90 (by decide) (fun zc90 => ?_) (fun zc90 => ?_)
    · exact K _ _ hT
    · exact absurd (nI_lt (Nat.lt_succ_self _) (by omega)) zc90
  | succ n ih =>
    intro g σ hg hT
    have hx := c_X8_extend (l := l) (τ := τ) (ow := ow) (sr := ad 8) (ad := adS) (f := f) (dq := dqF sg ws d) (cn := cnF sg ws d) hpr (goal := g + 1) (by omega) g [] _ σ (by show 0 + 1 + g = g + 1; omega) (fun k t ht => by simp at ht) (Nat.zero_le _) hT (fun h h1 h2 h3 h4 => scAll_min g h h1 h2 (by omega) h4)
    obtain ⟨ac, cc, bc, bl, I, J, fl, hS, -⟩ := id hT
    have hR' := hR.sea hS.2 ⟨_, _, _, _, hS.1⟩
    have hx' : Ct l mX8_extend (g + 7) 0 0 [.ref (ad 8), .int (nI (g + 1)), .int 0, .int 0, .int 0] σ _ := hx
    refine g_iload dX10_least_86 rfl ?_
    refine g_iload dX10_least_88 rfl ?_
    refine g_icmp_gt (tgt := 111) dX10_least_90 (by decide) (fun zc90 => ?_) (fun zc90 => ?_)
    · exact absurd zc90 (nI_nlt (by omega) (by omega))
    · refine g_aload_n (i := 0) dX10_least_93 rfl rfl ?_
      refine g_getf dX10_least_94 flX10_46 (by first | exact hR'.1.1 | exact hS.1.1.1) rfl ?_
      refine g_iload dX10_least_97 rfl ?_
      refine g_iconst (v := 0) dX10_least_99 (by decide) ?_
      refine g_iconst (v := 0) dX10_least_100 (by decide) ?_
      refine g_iconst (v := 0) dX10_least_101 (by decide) ?_
      refine g_callVv (My := mX8_extend) [_, _, _, _] dX10_least_102 lkX10_200 mvX8_extend rfl (by first | exact hR'.1.1 | exact hS.1.1.1) rfl (hx') (by first | decide | omega) (by first | decide | omega) (by first | decide | omega) rfl (Nat.le_of_ble_eq_true rfl) (fun σ zh102 => ?_)
      refine g_iinc (v := _ + 1) (ls' := [_, _, _, _, _, _, _]) dX10_least_105 rfl rfl (by decide) rfl rfl ?_
      refine g_goto (tgt := 86) dX10_least_108 (by decide) ?_
      exact g_cl (by rw [nI_1]) (ih (g + 1) _ (by omega) zh102)
theorem c_X10_least {τ : gH} (hR : RC τ x A) (hpr : prOk A) (sg ws : Int32) (d : Int64) (most : Int32) : Ct l mX10_least 12 6 50 [.ref x, .int sg, .int ws, .long d, .int most] τ (pI (cP x (sLeast A sg ws d most))) := by
  obtain ⟨ow, ad, hk, cs, ff, hR⟩ := hR
  have h60 := hR.2.1.2.1
  have h12 := hR.2.2.2.2.2.2.2.2.2.2
  refine Ct_of moX10_least [some (.ref x), some (.int sg), some (.int ws), some (.long d), none, some (.int most), none] rfl (Nat.le_of_ble_eq_true rfl) ?_
  by_cases hv : (¬ most < 1 ∧ most ≤ 3) ∧ mIsA 8 sg ws d
  · obtain ⟨⟨hm1, hm3⟩, hi⟩ := id hv
    by_cases hf : A.1.length = 60 ∨ A.2.2.2.2.2 = 12
    · have he : sLeast A sg ws d most = (-2, A) := by unfold sLeast; rw [if_pos hv, if_pos hf]
      rw [he]
      refine g_iload dX10_least_0 rfl ?_
      refine g_iconst (v := 1) dX10_least_2 (by decide) ?_
      refine g_icmp_lt (tgt := 23) dX10_least_3 (by decide) (fun zc3 => ?_) (fun zc3 => ?_)
      · exact absurd zc3 hm1
      · refine g_iload dX10_least_6 rfl ?_
        refine g_iconst (v := 3) dX10_least_8 (by decide) ?_
        refine g_icmp_gt (tgt := 23) dX10_least_9 (by decide) (fun zc9 => ?_) (fun zc9 => ?_)
        · exact absurd hm3 (Int32.not_le.mpr zc9)
        · refine g_bipush (v := 8) dX10_least_12 (by decide) ?_
          refine g_iload_n (i := 1) dX10_least_14 rfl rfl ?_
          refine g_iload_n (i := 2) dX10_least_15 rfl rfl ?_
          refine g_lload_n (i := 3) dX10_least_16 rfl rfl ?_
          refine g_callSi (My := mX1_isAsking) [_, _, _, _] dX10_least_17 lkX10_108 mvX1_isAsking rfl (c_X1_isAsking _ _ _ _) (by decide) (by decide) (by decide) rfl (Nat.le_of_ble_eq_true rfl) (fun zr17 σ zh17 => ?_)
          obtain ⟨ze17, zf17⟩ := zh17
          rw [ze17, zf17]
          refine g_if_ne (tgt := 25) dX10_least_20 (by decide) (fun zc20 => ?_) (fun zc20 => ?_)
          · refine g_aload_n (i := 0) dX10_least_25 rfl rfl ?_
            refine g_getf dX10_least_26 flX10_68 (hR.1.1) rfl ?_
            refine g_bipush (v := 60) dX10_least_29 (by decide) ?_
            refine g_icmp_ge (tgt := 43) dX10_least_31 (by decide) (fun zc31 => ?_) (fun zc31 => ?_)
            · refine g_bipush (v := (-2)) dX10_least_43 (by decide) ?_
              refine g_iret dX10_least_45 rfl ?_
              exact ⟨_, rfl, rfl, hR.rc⟩
            · refine g_aload_n (i := 0) dX10_least_34 rfl rfl ?_
              refine g_getf dX10_least_35 flX10_193 (hR.1.1) rfl ?_
              refine g_bipush (v := 12) dX10_least_38 (by decide) ?_
              refine g_icmp_lt (tgt := 46) dX10_least_40 (by decide) (fun zc40 => ?_) (fun zc40 => ?_)
              · exact absurd zc40 (hf.elim (fun q => absurd (nI_le (show 60 ≤ A.1.length by omega) (by omega)) zc31) (fun q => by rw [q]; decide))
              · refine g_bipush (v := (-2)) dX10_least_43 (by decide) ?_
                refine g_iret dX10_least_45 rfl ?_
                exact ⟨_, rfl, rfl, hR.rc⟩
          · exact absurd hi (bI_eq0.mp zc20)
    · have hlt : A.1.length < 60 := by omega
      have hlk : A.2.2.2.2.2 < 12 := by omega
      obtain ⟨m, hmm, rfl⟩ : ∃ m : Nat, m ≤ 3 ∧ most = nI m := by
        have h0 : ¬ most < 0 := by
          intro q
          refine hm1 (Int32.lt_iff_toInt_lt.mpr ?_)
          have q1 := Int32.lt_iff_toInt_lt.mp q
          have e0 : (0 : Int32).toInt = 0 := by decide
          have e1 : (1 : Int32).toInt = 1 := by decide
          omega
        obtain ⟨j, hj, rfl⟩ := ixle 3 (by decide) h0 hm3
        exact ⟨j, hj, rfl⟩
      have hcm : (nI m).toNatClampNeg = m := nI_clamp (by omega)
      have he : sLeast A sg ws d (nI m) = (if (lsB A sg ws d m).1 = 1000 then (-3, aLook A) else (nI A.1.length, aNote ((aLook A).1 ++ [(8, (lsB A sg ws d m).2)], (aLook A).2) (1, A.1.length, 0, 0, (0, [])))) := by
        unfold sLeast
        rw [if_pos hv, if_neg hf, hcm]
      rw [he]
      have hpr' : ∀ i, i < 13 → 1 ≤ (A.2.1 i).toNatClampNeg ∧ (A.2.1 i).toNatClampNeg ≤ 50 := by
        intro i hi13
        obtain ⟨p, p1, p2, p3⟩ := hpr i hi13
        rw [p3, nI_clamp (by omega)]
        exact ⟨p1, p2⟩
      have hpn : ∀ i, i < 13 → A.2.1 i = nI (A.2.1 i).toNatClampNeg := by
        intro i hi13
        obtain ⟨p, p1, p2, p3⟩ := hpr i hi13
        rw [p3, nI_clamp (by omega)]
      have hset : ∀ X Y : List aSt, (A.1 ++ [((8 : Int32), X)]).set A.1.length ((8 : Int32), Y) = A.1 ++ [((8 : Int32), Y)] := by
        intro X Y
        rw [List.set_append_right _ _ (Nat.le_refl _), Nat.sub_self]
        rfl
      have t111 : ∀ (σ2 : gH) (ow2 : Nat → Nat) (f : Nat → Int64) (adS : Nat → Nat), RCx σ2 ow2 x (aLook A) ad hk cs ff → (∀ k, k < 4 → f k = A.2.2.1 k) → ∀ (σ : gH) (v6 : Option Value), TE σ2 ow2 (ad 8) adS f (qL (cnF sg ws d) 256) (dqF sg ws d) (fun i => (A.2.1 i).toNatClampNeg) [] (scAll (rtF (cnF sg ws d) (dqF sg ws d)) (fun i => (A.2.1 i).toNatClampNeg) f m) σ → G l mX10_least 12 5 46 (pI (cP x (if (lsB A sg ws d m).1 = 1000 then (-3, aLook A) else (nI A.1.length, aNote ((aLook A).1 ++ [(8, (lsB A sg ws d m).2)], (aLook A).2) (1, A.1.length, 0, 0, (0, [])))))) σ 111 [some (.ref x), some (.int sg), some (.int ws), some (.long d), none, some (.int (nI m)), v6] [] := by
        intro σ2 ow2 f adS hR2 hfe σ v6 hT
        have hls : scAll (rtF (cnF sg ws d) (dqF sg ws d)) (fun i => (A.2.1 i).toNatClampNeg) f m = lsB A sg ws d m := scAll_tl hfe _ _ m
        have h0 : b0 (lsB A sg ws d m) := scAll_b0 m
        have hok : bbOk A.2.2.1 (lsB A sg ws d m) := scAll_ok m hmm
        rw [hls] at hT
        obtain ⟨ac, cc, bc, bl, I, J, fl, hS, hTc, hpk, hRw, hb1, hb2, hb3, hb4, B, hBe, hBk⟩ := hT
        have hR3 := hR2.sea hS.2 ⟨_, _, _, _, hS.1⟩
        by_cases h1000 : (lsB A sg ws d m).1 = 1000
        · rw [if_pos h1000]
          have hbl0 : bl = 0 := by
            rw [hb3, h0.2 h1000]
            rfl
          refine g_aload_n (i := 0) dX10_least_111 rfl rfl ?_
          refine g_getf dX10_least_112 flX10_46 (by first | exact hR3.1.1 | exact hS.1.1.1) rfl ?_
          refine g_getf dX10_least_115 flX10_204 (by first | exact hR3.1.1 | exact hS.1.1.1) rfl ?_
          refine g_if_ne (tgt := 124) dX10_least_118 (by decide) (fun zc118 => ?_) (fun zc118 => ?_)
          · exact absurd hbl0 zc118
          · refine g_bipush (v := (-3)) dX10_least_121 (by decide) ?_
            refine g_iret dX10_least_123 rfl ?_
            exact ⟨_, rfl, rfl, hR3.rc⟩
        · rw [if_neg h1000]
          have hlen := (hok.2 (by have := h0.1; omega)).2.1
          have hBl : (lsB A sg ws d m).2.length = B.length := by rw [hBe, List.length_map]
          have hbl0 : ¬ bl = 0 := by
            rw [hb3]
            exact fun z => absurd ((nI_eq (b := 0) (by omega) (by omega)).mp z) (by omega)
          have t137 : ∀ (bc bs : Nat) (σ : gH) (ow' : Nat → Nat) (cs' : List cA) (ff' : Nat → Option Nat), RCx σ ow' x (aNote ((aLook A).1 ++ [(8, (lsB A sg ws d m).2)], (aLook A).2) (1, A.1.length, 0, 0, (0, []))) ad hk cs' ff' → G l mX10_least 12 bc bs (pI (cP x (nI A.1.length, aNote ((aLook A).1 ++ [(8, (lsB A sg ws d m).2)], (aLook A).2) (1, A.1.length, 0, 0, (0, []))))) σ 137 [some (.ref x), some (.int sg), some (.int ws), some (.long d), none, some (.int (nI m)), v6] [] := by
            intro bc bs σ ow' cs' ff' hR5
            refine g_aload_n (i := 0) dX10_least_137 rfl rfl ?_
            refine g_getf dX10_least_138 flX10_68 (hR5.1.1) rfl ?_
            refine g_iconst (v := 1) dX10_least_141 (by decide) ?_
            refine g_isub dX10_least_142 ?_
            rw [show nI (aNote ((aLook A).1 ++ [(8, (lsB A sg ws d m).2)], (aLook A).2) (1, A.1.length, 0, 0, (0, []))).1.length - 1 = nI A.1.length from by (show nI (A.1 ++ [(8, (lsB A sg ws d m).2)]).length - 1 = _; rw [List.length_append]; exact nI_pred _)]
            refine g_iret dX10_least_143 rfl ?_
            exact ⟨_, rfl, rfl, hR5.rc⟩
          refine g_aload_n (i := 0) dX10_least_111 rfl rfl ?_
          refine g_getf dX10_least_112 flX10_46 (by first | exact hR3.1.1 | exact hS.1.1.1) rfl ?_
          refine g_getf dX10_least_115 flX10_204 (by first | exact hR3.1.1 | exact hS.1.1.1) rfl ?_
          refine g_if_ne (tgt := 124) dX10_least_118 (by decide) (fun zc118 => ?_) (fun zc118 => ?_)
          · refine g_aload_n (i := 0) dX10_least_124 rfl rfl ?_
            refine g_getf dX10_least_125 flX10_46 (by first | exact hR3.1.1 | exact hS.1.1.1) rfl ?_
            refine g_aload_n (i := 0) dX10_least_128 rfl rfl ?_
            refine g_bipush (v := 8) dX10_least_129 (by decide) ?_
            refine g_callVq (My := mX10_openForm) [_] dX10_least_131 lkX10_72 mvX10_openForm rfl (by first | exact hR3.1.1 | exact hS.1.1.1) rfl (c_X10_openForm hR3 hlt 8) (by decide) (by decide) (by decide) rfl (Nat.le_of_ble_eq_true rfl) (fun zr131 σ zh131 => ?_)
            obtain ⟨b, ow4, ff4, ze131, hb4', hs4, hR4⟩ := zh131
            rw [ze131]
            refine g_tor b rfl ?_
            have hX4 := hS.1.mono hs4 (fun m _ _ _ => by omega)
            refine g_callVv (My := mX8_writeBest) [_] dX10_least_134 lkX10_207 mvX8_writeBest rfl (hX4.1.1) rfl (c_X8_writeBest (w := 8) hTc.1 (by rw [hb3, hBl]) (by omega) hBk hb4' hX4 hR4 (by show (A.1 ++ [((8 : Int32), ([] : List aSt))])[A.1.length]? = _; simp)) (by decide) (by decide) (by decide) rfl (Nat.le_of_ble_eq_true rfl) (fun σ zh134 => ?_)
            have hR5 := zh134
            rw [← hBe, show ((aNote ((aLook A).1 ++ [((8 : Int32), ([] : List aSt))], (aLook A).2) (1, (aLook A).1.length, 0, 0, (0, []))).1.set (aLook A).1.length ((8 : Int32), (lsB A sg ws d m).2)) = A.1 ++ [(8, (lsB A sg ws d m).2)] from hset _ _] at hR5
            exact t137 _ _ _ _ _ _ hR5
          · exact absurd zc118 hbl0
      refine g_iload dX10_least_0 rfl ?_
      refine g_iconst (v := 1) dX10_least_2 (by decide) ?_
      refine g_icmp_lt (tgt := 23) dX10_least_3 (by decide) (fun zc3 => ?_) (fun zc3 => ?_)
      · exact absurd zc3 hm1
      · refine g_iload dX10_least_6 rfl ?_
        refine g_iconst (v := 3) dX10_least_8 (by decide) ?_
        refine g_icmp_gt (tgt := 23) dX10_least_9 (by decide) (fun zc9 => ?_) (fun zc9 => ?_)
        · exact absurd hm3 (Int32.not_le.mpr zc9)
        · refine g_bipush (v := 8) dX10_least_12 (by decide) ?_
          refine g_iload_n (i := 1) dX10_least_14 rfl rfl ?_
          refine g_iload_n (i := 2) dX10_least_15 rfl rfl ?_
          refine g_lload_n (i := 3) dX10_least_16 rfl rfl ?_
          refine g_callSi (My := mX1_isAsking) [_, _, _, _] dX10_least_17 lkX10_108 mvX1_isAsking rfl (c_X1_isAsking _ _ _ _) (by decide) (by decide) (by decide) rfl (Nat.le_of_ble_eq_true rfl) (fun zr17 σ zh17 => ?_)
          obtain ⟨ze17, zf17⟩ := zh17
          rw [ze17, zf17]
          refine g_if_ne (tgt := 25) dX10_least_20 (by decide) (fun zc20 => ?_) (fun zc20 => ?_)
          · refine g_aload_n (i := 0) dX10_least_25 rfl rfl ?_
            refine g_getf dX10_least_26 flX10_68 (hR.1.1) rfl ?_
            refine g_bipush (v := 60) dX10_least_29 (by decide) ?_
            refine g_icmp_ge (tgt := 43) dX10_least_31 (by decide) (fun zc31 => ?_) (fun zc31 => ?_)
            · exact absurd zc31 (nI_ge (b := 60) hlt (by decide))
            · refine g_aload_n (i := 0) dX10_least_34 rfl rfl ?_
              refine g_getf dX10_least_35 flX10_193 (hR.1.1) rfl ?_
              refine g_bipush (v := 12) dX10_least_38 (by decide) ?_
              refine g_icmp_lt (tgt := 46) dX10_least_40 (by decide) (fun zc40 => ?_) (fun zc40 => ?_)
              · refine g_aload_n (i := 0) dX10_least_46 rfl rfl ?_
                refine g_dup dX10_least_47 rfl ?_
                refine g_getf dX10_least_48 flX10_193 (hR.1.1) rfl ?_
                refine g_iconst (v := 1) dX10_least_51 (by decide) ?_
                refine g_iadd dX10_least_52 ?_
                rw [nI_1]
                refine g_putf (fs' := [_, _, _, _, _, _, _, _, _, _]) dX10_least_53 flX10_193 fp8_8 (hR.1.1) rfl rfl (Nat.le_of_ble_eq_true rfl) rfl ?_
                have hR1 := hR.look hlk
                refine g_aload_n (i := 0) dX10_least_56 rfl rfl ?_
                refine g_getf dX10_least_57 flX10_46 (hR1.1.1) rfl ?_
                refine g_new dX10_least_60 nwX10_109 (by decide) (by decide) (fun zq60 zhq60 => ?_)
                refine g_dup dX10_least_63 rfl ?_
                refine g_bipush (v := 8) dX10_least_64 (by decide) ?_
                refine g_iload_n (i := 1) dX10_least_66 rfl rfl ?_
                refine g_iload_n (i := 2) dX10_least_67 rfl rfl ?_
                refine g_lload_n (i := 3) dX10_least_68 rfl rfl ?_
                refine g_callIv (My := mX1_init) [_, _, _, _] dX10_least_69 lkX10_116 mvX1_init rfl (c_X1_init (su_self _ _ _) _ _ _ _) (by decide) (by decide) (by decide) rfl (Nat.le_of_ble_eq_true rfl) (fun σ zh69 => ?_)
                rw [zh69, su_su]
                have hs2 := Sm.none (ow := ow) zhq60 (gO 1 [.int 8, .int (bI (sg = 1)), .int ws, .long (cDv 8 sg d)]) 400
                have hR2 := hR1.new hs2
                have hA2 : Pt (su (su τ x (xO ad A.1.length (A.2.2.2.2.2 + 1))) zq60 (gO 1 [.int 8, .int (bI (sg = 1)), .int ws, .long (cDv 8 sg d)])) (va_up ow zq60 400) zq60 400 (gO 1 [.int 8, .int (bI (sg = 1)), .int ws, .long (cDv 8 sg d)]) := ⟨su_self _ _ _, va_up_self _ _ _⟩
                obtain ⟨pf, hpa, hpe⟩ := hR2.2.2.1
                obtain ⟨f, hb, hfe⟩ := hR2.2.2.2.1
                obtain ⟨adS, s4, I, J, hX⟩ := hR2.2.2.2.2.2.2.2.2.1
                refine g_aload_n (i := 0) dX10_least_72 rfl rfl ?_
                refine g_getf dX10_least_73 flX10_19 (hR2.1.1) rfl ?_
                refine g_aload_n (i := 0) dX10_least_76 rfl rfl ?_
                refine g_getf dX10_least_77 flX10_15 (hR2.1.1) rfl ?_
                refine g_callVv (My := mX8_prepare) [_, _, _] dX10_least_80 lkX10_196 mvX8_prepare rfl (hX.1.1) rfl (c_X8_prepare hi hb hA2 hpa hX) (by decide) (by decide) (by decide) rfl (Nat.le_of_ble_eq_true rfl) (fun σ zh80 => ?_)
                have hT0 := zh80.te (pr := fun i => (A.2.1 i).toNatClampNeg) (fun k hk => (hpe k hk).trans (hpn k hk))
                refine g_iconst (v := 1) dX10_least_83 (by decide) ?_
                refine g_istore (ls' := [_, _, _, _, _, _, _]) dX10_least_84 (by decide) rfl rfl ?_
                exact lp_X10_least hmm hpr' hR2 (fun σ v6 hT => t111 _ _ f adS hR2 hfe σ v6 hT) m 0 _ (by omega) hT0
              · exact absurd (nI_lt (b := 12) hlk (by decide)) zc40
          · exact absurd hi (bI_eq0.mp zc20)
  · have he : sLeast A sg ws d most = (-1, A) := by unfold sLeast; rw [if_neg hv]
    rw [he]
    refine g_iload dX10_least_0 rfl ?_
    refine g_iconst (v := 1) dX10_least_2 (by decide) ?_
    refine g_icmp_lt (tgt := 23) dX10_least_3 (by decide) (fun zc3 => ?_) (fun zc3 => ?_)
    · refine g_iconst (v := (-1)) dX10_least_23 (by decide) ?_
      refine g_iret dX10_least_24 rfl ?_
      exact ⟨_, rfl, rfl, hR.rc⟩
    · refine g_iload dX10_least_6 rfl ?_
      refine g_iconst (v := 3) dX10_least_8 (by decide) ?_
      refine g_icmp_gt (tgt := 23) dX10_least_9 (by decide) (fun zc9 => ?_) (fun zc9 => ?_)
      · refine g_iconst (v := (-1)) dX10_least_23 (by decide) ?_
        refine g_iret dX10_least_24 rfl ?_
        exact ⟨_, rfl, rfl, hR.rc⟩
      · refine g_bipush (v := 8) dX10_least_12 (by decide) ?_
        refine g_iload_n (i := 1) dX10_least_14 rfl rfl ?_
        refine g_iload_n (i := 2) dX10_least_15 rfl rfl ?_
        refine g_lload_n (i := 3) dX10_least_16 rfl rfl ?_
        refine g_callSi (My := mX1_isAsking) [_, _, _, _] dX10_least_17 lkX10_108 mvX1_isAsking rfl (c_X1_isAsking _ _ _ _) (by decide) (by decide) (by decide) rfl (Nat.le_of_ble_eq_true rfl) (fun zr17 σ zh17 => ?_)
        obtain ⟨ze17, zf17⟩ := zh17
        rw [ze17, zf17]
        refine g_if_ne (tgt := 25) dX10_least_20 (by decide) (fun zc20 => ?_) (fun zc20 => ?_)
        · exact absurd ⟨⟨zc3, Int32.not_lt.mp zc9⟩, bI_ne0.mp zc20⟩ hv
        · refine g_iconst (v := (-1)) dX10_least_23 (by decide) ?_
          refine g_iret dX10_least_24 rfl ?_
          exact ⟨_, rfl, rfl, hR.rc⟩
end CLeast
