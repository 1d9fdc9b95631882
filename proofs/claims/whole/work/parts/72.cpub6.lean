/-! the class: step, drop, undo -/
theorem y_low {w : Int32} (hw : isW w) {y : Int64} (h0 : ¬ y < 0) (h : y.toInt ≤ 64) : mLow y w = y := by
  obtain ⟨N, hN, rfl⟩ := isW_N hw
  refine mLow_id hN ?_
  have h1 : ¬ 9223372036854775808 ≤ uN y := fun z => h0 (neg_N.mpr z)
  rw [lz_uN (by omega)] at h
  rcases hN with rfl | rfl | rfl | rfl
  · simp only [Nat.reducePow]; omega
  · simp only [Nat.reducePow]; omega
  · simp only [Nat.reducePow]; omega
  · simp only [Nat.reducePow]; omega
theorem aY_ok {g : aF} (hw : isW g.1) (h12 : g.2.length ≤ 12) {k x : Int32} {y : Int64} (h : okStep g k x y) : mLow y g.1 = aY k y g.1 := by
  unfold aY
  by_cases hc : isOp k ∨ isCt k
  · rw [if_pos hc]
    rcases hc with q | q
    · obtain ⟨q1, q2⟩ := h.2.2.1 q
      refine y_low hw q1 ?_
      have := Int64.le_iff_toInt_le.mp (Int64.not_lt.mp q2)
      rw [nI_l (by omega), lN_toInt (by omega)] at this
      omega
    · obtain ⟨q1, q2⟩ := h.2.2.2 q
      refine y_low hw q1 ?_
      have := Int64.lt_iff_toInt_lt.mp q2
      obtain ⟨N, hN, e⟩ := isW_N hw
      rw [e, nI_l (by omega), lN_toInt (by omega)] at this
      omega
  · rw [if_neg hc]
theorem RCx.shrink {σ : gH} {ow : Nat → Nat} {x : Nat} {A : aA} {ad hk : Nat → Nat} {cs : List cA} {ff : Nat → Option Nat} (q : RCx σ ow x A ad hk cs ff) {m : Nat} (hm : m ≤ A.1.length) : RCx (su σ x (xO ad m A.2.2.2.2.2)) ow x (A.1.take m, A.2) ad hk cs ff := by
  obtain ⟨h1, ⟨h2a, h2b, h2c, h2d⟩, h3, h4, h5, h6, ⟨h7, h8, h9⟩, h10, h11, h12, h13⟩ := q
  have hs : Sm (fun i => i = 0) σ ow (su σ x (xO ad m A.2.2.2.2.2)) ow := Sm.stp h1.2 _
  have hll : (A.1.take m).length = m := by rw [List.length_take]; omega
  refine ⟨by rw [hll]; exact h1.up _, ⟨h2a.mono hs (by decide), by rw [hll]; omega, fun f hf60 c hc => ?_, fun f hfl => h2d f (by rw [hll] at hfl; omega)⟩, h3.mono hs (by decide), h4.mono hs (by decide), h5.mono hs (by decide) (by decide) (fun m _ => by omega), h6.mono hs (by decide) (by omega), ⟨h7.mono hs (by decide) (by decide) (by decide), h8, h9.mono hs (by decide) (fun m _ => by omega)⟩, h10, h11.mono hs (fun m _ _ _ => by omega), h12.mono hs (by decide), h13⟩
  obtain ⟨w', cnt, kf', xf', yf', g1, g2⟩ := (h2c f hf60 c hc).mono hs hf60 (fun m _ _ => by omega)
  refine ⟨w', cnt, kf', xf', yf', g1, fun g hg => g2 g ?_⟩
  have hlt : f < m := by
    have := (List.getElem?_eq_some_iff.mp hg).1
    rw [hll] at this
    exact this
  rw [List.getElem?_take_of_lt hlt] at hg
  exact hg
theorem ckL_filter {p : cA → Bool} (hp : ∀ c, p c = false → c.1.1 < 3) : ∀ {t : List cA} {hk : Nat → Nat}, ckL hk t → ckL hk (t.filter p) := by
  intro t
  induction t with
  | nil => intro hk h; exact h
  | cons c t ih =>
    intro hk h
    cases hc : p c with
    | false =>
      rw [List.filter_cons_of_neg (by rw [hc]; decide)]
      have := hp c hc
      exact ih (h.2 (by omega)).2
    | true =>
      rw [List.filter_cons_of_pos hc]
      refine ⟨fun h5 => ?_, fun h5 => ⟨(h.2 h5).1, ih (h.2 h5).2⟩⟩
      obtain ⟨b, b1, b2⟩ := h.1 h5
      exact ⟨b, b1, ih b2⟩
/-- a cell of a hook's row changes -/
theorem RCx.cell {σ : gH} {ow : Nat → Nat} {x : Nat} {A : aA} {ad hk : Nat → Nat} {cs : List cA} {ff : Nat → Option Nat} (q : RCx σ ow x A ad hk cs ff) {w p : Nat} (hw : w < 8) (hp : p < (A.2.2.2.1 w).2.length) (h1 : ¬ (A.2.2.2.1 w).1 = 1) : ∃ (sk : Int32) (sy : Int64) (c : Nat) (f : Nat → Int64), σ (hk w) = some (gO 4 [.int (A.2.2.2.1 w).1, .int sk, .long sy, .ref c]) ∧ σ c = some (gAl (A.2.2.2.1 w).2.length f) ∧ (A.2.2.2.1 w).2.length ≤ 12 ∧ (∀ (i : Nat) (v : Int64), (A.2.2.2.1 w).2[i]? = some v → f i = v) ∧ ∀ v, RCx (su σ c (gAl (A.2.2.2.1 w).2.length (vp_updL f p v))) ow x (A.1, A.2.1, A.2.2.1, va_up A.2.2.2.1 w ((A.2.2.2.1 w).1, (A.2.2.2.1 w).2.set p v), A.2.2.2.2) ad hk cs ff := by
  obtain ⟨q1, q2, q3, q4, ⟨hf, q5, q6⟩, q7, ⟨q8, q9, q10⟩, q11, q12, q13, q14⟩ := q
  obtain ⟨e1, sk, sy, c, n, f, p1, p2, p3, p4⟩ := q6 w hw
  rcases p4 with p4 | ⟨-, p5, p6⟩
  · exact absurd p4.1 h1
  subst p5
  refine ⟨sk, sy, c, f, p1.1, p2.1, p3, p6, fun v => ?_⟩
  have hs : Sm (fun m => m = 1000 + hk w) σ ow (su σ c (gAl (A.2.2.2.1 w).2.length (vp_updL f p v))) ow := Sm.stp (ex := fun m => m = 1000 + hk w) (b := c) p2.2 _
  have hna : hk w ≠ ad 5 := by
    intro e
    obtain ⟨sk0, sy0, c0, n0, f0, r1, r2, r3, r4⟩ := q7
    have e2 := p1.1
    rw [e, r1.1] at e2
    have hcc : c0 = c := congrArg (fun o : Option gC => match o with
      | some (.inr (_, [_, _, _, .ref r])) => r
      | _ => 0) e2
    have e3 := p2.1
    rw [← hcc, r2.1] at e3
    have hn0 : n0 = 0 := by
      rcases r4 with r4 | r4
      · exact r4.2.1
      · exact r4.2.1
    rw [hn0] at e3
    injection e3 with e3
    injection e3 with e3
    injection e3 with _ e3
    injection e3 with e3 _
    omega
  refine ⟨q1.mono hs (by omega), q2.mono hs (by omega) (fun m _ _ => by omega), q3.mono hs (by omega), q4.mono hs (by omega), ⟨hf, q5.mono hs (by omega), fun h hh => ⟨(q6 h hh).1, ?_⟩⟩, q7.mono hs (by omega) (fun z => hna (by omega)), ⟨q8.mono hs (by omega) (by omega) (by omega), q9, fun d hd h5 => ?_⟩, q11, q12.mono hs (fun m _ _ _ => by omega), q13.mono hs (by omega), q14⟩
  · by_cases e : h = w
    · subst e
      show HoC _ _ _ (va_up A.2.2.2.1 h _ h)
      rw [va_up_self]
      refine ⟨sk, sy, c, _, _, p1.mono hs (by omega), p2.up _, p3, Or.inr ⟨h1, by rw [List.length_set], fun i u hu => ?_⟩⟩
      by_cases ei : i = p
      · subst ei
        rw [List.getElem?_set_self hp] at hu
        cases hu
        exact pk_uLs
      · rw [List.getElem?_set_ne (Ne.symm ei)] at hu
        rw [pk_uLn ei]
        exact p6 i u hu
    · show HoC _ _ _ (va_up A.2.2.2.1 w _ h)
      rw [va_up_ne _ _ e]
      refine (q6 h hh).2.mono hs (by omega) (fun z => ?_)
      rcases q11.1.1 w h hw hh (by omega) with y | y
      · exact e y.symm
      · exact hna y
  · obtain ⟨b, b1, b2⟩ := q10 d hd h5
    refine ⟨b, b1, b2.mono hs (by omega) (fun z => ?_)⟩
    have : b = hk w := by omega
    exact hna (q11.1.2.1 w hw d hd h5 (by rw [b1, this]))
section CPub6
variable {l : Launch} {τ : gH} {x : Nat} {A : aA}
theorem c_X10_step (hR : RC τ x A) (hw : wfA A) (f k xx : Int32) (y : Int64) : Ct l mX10_step 3 1 5 [.ref x, .int f, .int k, .int xx, .long y] τ (pI (cP x (sStep A f k xx y))) := by
  obtain ⟨ow, ad, hk, cs, ff, hR⟩ := hR
  have h60 := hR.2.1.2.1
  have k12 : ¬ 12 < k ↔ k ≤ 12 := Int32.not_lt
  refine Ct_of moX10_step [some (.ref x), some (.int f), some (.int k), some (.int xx), some (.long y), none, none] rfl (Nat.le_of_ble_eq_true rfl) ?_
  rcases aForm_cases A hR.2.1.2.1 f with ⟨hh, hn⟩ | ⟨j, g, hj, rfl, hg, ha⟩
  · have hv : sStep A f k xx y = (-1, A) := by simp only [sStep, hn]
    rw [hv]
    refine g_aload_n (i := 0) dX10_step_0 rfl rfl ?_
    refine g_iload_n (i := 1) dX10_step_1 rfl rfl ?_
    refine g_callVq (My := mX10_formAt) [_] dX10_step_2 lkX10_76 mvX10_formAt rfl (hR.1.1) rfl (c_X10_formAt0 hR hh) (by decide) (by decide) (by decide) rfl (Nat.le_of_ble_eq_true rfl) (fun zr2 σ zh2 => ?_)
    obtain ⟨rfl, rfl⟩ := zh2
    refine g_astoreN (ls' := [_, _, _, _, _, _, _]) dX10_step_5 (by decide) rfl rfl ?_
    refine g_aloadN dX10_step_7 rfl ?_
    refine g_ifnullN (tgt := 43) dX10_step_9 (by decide) ?_
    refine g_iconst (v := (-1)) dX10_step_43 (by decide) ?_
    refine g_iret dX10_step_44 rfl ?_
    exact ⟨_, rfl, rfl, hR.rc⟩
  · obtain ⟨b, ka, xa, ya, kf, xf, yf, hb, p1, p2, p3, p4, hst, h12⟩ := hR.form hg
    have hcj : (nI j).toNatClampNeg = j := nI_clamp (by omega)
    by_cases hk' : okStep g k xx y
    · have hv : sStep A (nI j) k xx y = (if g.2.length = 12 then (-2, A) else (nI g.2.length, aNote (A.1.set j (g.1, g.2 ++ [(k, xx, aY k y g.1)]), A.2) (2, j, 0, 0, (0, [])))) := by
        simp only [sStep, ha, if_pos hk', hcj]
      rw [hv]
      by_cases hl : g.2.length = 12
      · rw [if_pos hl]
        refine g_aload_n (i := 0) dX10_step_0 rfl rfl ?_
        refine g_iload_n (i := 1) dX10_step_1 rfl rfl ?_
        refine g_callVq (My := mX10_formAt) [_] dX10_step_2 lkX10_76 mvX10_formAt rfl (by first | exact hR.1.1 | exact p1.1) rfl (c_X10_formAt1 hR hj hb) (by decide) (by decide) (by decide) rfl (Nat.le_of_ble_eq_true rfl) (fun zr2 σ zh2 => ?_)
        obtain ⟨ze2, zf2⟩ := zh2
        rw [ze2, zf2]
        refine g_tor b rfl ?_
        refine g_astore (ls' := [_, _, _, _, _, _, _]) dX10_step_5 (by decide) rfl rfl ?_
        refine g_aload dX10_step_7 rfl ?_
        refine g_ifnull dX10_step_9 ?_
        refine g_iload_n (i := 2) dX10_step_12 rfl rfl ?_
        refine g_callSi (My := mX10_isKind) [_] dX10_step_13 lkX10_79 mvX10_isKind rfl (c_X10_isKind _) (by decide) (by decide) (by decide) rfl (Nat.le_of_ble_eq_true rfl) (fun zr13 σ zh13 => ?_)
        obtain ⟨ze13, zf13⟩ := zh13
        rw [ze13, zf13]
        refine g_if_eq (tgt := 43) dX10_step_16 (by decide) (fun zc16 => ?_) (fun zc16 => ?_)
        · exact absurd ⟨hk'.1.1, k12.mp hk'.1.2⟩ (bI_eq0.mp zc16)
        · refine g_iload_n (i := 3) dX10_step_19 rfl rfl ?_
          refine g_if_lt (tgt := 43) dX10_step_20 (by decide) (fun zc20 => ?_) (fun zc20 => ?_)
          · exact absurd zc20 hk'.2.1.1
          · refine g_iload_n (i := 3) dX10_step_23 rfl rfl ?_
            refine g_aload dX10_step_24 rfl ?_
            refine g_getf dX10_step_26 flX10_82 (by first | exact hR.1.1 | exact p1.1) rfl ?_
            refine g_icmp_gt (tgt := 43) dX10_step_29 (by decide) (fun zc29 => ?_) (fun zc29 => ?_)
            · exact absurd zc29 (Int32.not_lt.mpr hk'.2.1.2)
            · refine g_aload dX10_step_32 rfl ?_
              refine g_iload_n (i := 2) dX10_step_34 rfl rfl ?_
              refine g_lload dX10_step_35 rfl ?_
              refine g_callSi (My := mX10_fitsAsY) [_, _, _] dX10_step_37 lkX10_85 mvX10_fitsAsY rfl (c_X10_fitsAsY p1.1 _ _) (by decide) (by decide) (by decide) rfl (Nat.le_of_ble_eq_true rfl) (fun zr37 σ zh37 => ?_)
              obtain ⟨ze37, zf37⟩ := zh37
              rw [ze37, zf37]
              refine g_if_ne (tgt := 45) dX10_step_40 (by decide) (fun zc40 => ?_) (fun zc40 => ?_)
              · refine g_aload dX10_step_45 rfl ?_
                refine g_getf dX10_step_47 flX10_82 (by first | exact hR.1.1 | exact p1.1) rfl ?_
                refine g_bipush (v := 12) dX10_step_50 (by decide) ?_
                refine g_icmp_lt (tgt := 58) dX10_step_52 (by decide) (fun zc52 => ?_) (fun zc52 => ?_)
                · exact absurd zc52 (by rw [hl]; decide)
                · refine g_bipush (v := (-2)) dX10_step_55 (by decide) ?_
                  refine g_iret dX10_step_57 rfl ?_
                  exact ⟨_, rfl, rfl, hR.rc⟩
              · exact absurd hk'.2.2 (bI_eq0.mp zc40)
      · rw [if_neg hl]
        refine g_aload_n (i := 0) dX10_step_0 rfl rfl ?_
        refine g_iload_n (i := 1) dX10_step_1 rfl rfl ?_
        refine g_callVq (My := mX10_formAt) [_] dX10_step_2 lkX10_76 mvX10_formAt rfl (by first | exact hR.1.1 | exact p1.1) rfl (c_X10_formAt1 hR hj hb) (by decide) (by decide) (by decide) rfl (Nat.le_of_ble_eq_true rfl) (fun zr2 σ zh2 => ?_)
        obtain ⟨ze2, zf2⟩ := zh2
        rw [ze2, zf2]
        refine g_tor b rfl ?_
        refine g_astore (ls' := [_, _, _, _, _, _, _]) dX10_step_5 (by decide) rfl rfl ?_
        refine g_aload dX10_step_7 rfl ?_
        refine g_ifnull dX10_step_9 ?_
        refine g_iload_n (i := 2) dX10_step_12 rfl rfl ?_
        refine g_callSi (My := mX10_isKind) [_] dX10_step_13 lkX10_79 mvX10_isKind rfl (c_X10_isKind _) (by decide) (by decide) (by decide) rfl (Nat.le_of_ble_eq_true rfl) (fun zr13 σ zh13 => ?_)
        obtain ⟨ze13, zf13⟩ := zh13
        rw [ze13, zf13]
        refine g_if_eq (tgt := 43) dX10_step_16 (by decide) (fun zc16 => ?_) (fun zc16 => ?_)
        · exact absurd ⟨hk'.1.1, k12.mp hk'.1.2⟩ (bI_eq0.mp zc16)
        · refine g_iload_n (i := 3) dX10_step_19 rfl rfl ?_
          refine g_if_lt (tgt := 43) dX10_step_20 (by decide) (fun zc20 => ?_) (fun zc20 => ?_)
          · exact absurd zc20 hk'.2.1.1
          · refine g_iload_n (i := 3) dX10_step_23 rfl rfl ?_
            refine g_aload dX10_step_24 rfl ?_
            refine g_getf dX10_step_26 flX10_82 (by first | exact hR.1.1 | exact p1.1) rfl ?_
            refine g_icmp_gt (tgt := 43) dX10_step_29 (by decide) (fun zc29 => ?_) (fun zc29 => ?_)
            · exact absurd zc29 (Int32.not_lt.mpr hk'.2.1.2)
            · refine g_aload dX10_step_32 rfl ?_
              refine g_iload_n (i := 2) dX10_step_34 rfl rfl ?_
              refine g_lload dX10_step_35 rfl ?_
              refine g_callSi (My := mX10_fitsAsY) [_, _, _] dX10_step_37 lkX10_85 mvX10_fitsAsY rfl (c_X10_fitsAsY p1.1 _ _) (by decide) (by decide) (by decide) rfl (Nat.le_of_ble_eq_true rfl) (fun zr37 σ zh37 => ?_)
              obtain ⟨ze37, zf37⟩ := zh37
              rw [ze37, zf37]
              refine g_if_ne (tgt := 45) dX10_step_40 (by decide) (fun zc40 => ?_) (fun zc40 => ?_)
              · refine g_aload dX10_step_45 rfl ?_
                refine g_getf dX10_step_47 flX10_82 (by first | exact hR.1.1 | exact p1.1) rfl ?_
                refine g_bipush (v := 12) dX10_step_50 (by decide) ?_
                refine g_icmp_lt (tgt := 58) dX10_step_52 (by decide) (fun zc52 => ?_) (fun zc52 => ?_)
                · refine g_aload dX10_step_58 rfl ?_
                  refine g_iload_n (i := 2) dX10_step_60 rfl rfl ?_
                  refine g_iload_n (i := 3) dX10_step_61 rfl rfl ?_
                  refine g_lload dX10_step_62 rfl ?_
                  refine g_aload dX10_step_64 rfl ?_
                  refine g_getf dX10_step_66 flX10_89 (by first | exact hR.1.1 | exact p1.1) rfl ?_
                  refine g_callSl (My := mX2_mask) [_] dX10_step_69 lkX10_92 mvX2_mask rfl (c_X2_mask _) (by decide) (by decide) (by decide) rfl (Nat.le_of_ble_eq_true rfl) (fun zr69 σ zh69 => ?_)
                  obtain ⟨ze69, zf69⟩ := zh69
                  rw [ze69, zf69]
                  refine g_land dX10_step_72 ?_
                  rw [low_eq _ (hw j g hg).1, aY_ok (hw j g hg).1 h12 hk']
                  refine g_callVi (My := mX3_add) [_, _, _] dX10_step_73 lkX10_96 mvX3_add rfl (by first | exact hR.1.1 | exact p1.1) rfl (c_addF hR hg hb (by omega) k xx _) (by decide) (by decide) (by decide) rfl (Nat.le_of_ble_eq_true rfl) (fun zr73 σ1 zh73 => ?_)
                  obtain ⟨ze73, hs1, hR1⟩ := zh73
                  rw [ze73]
                  refine g_pop dX10_step_76 rfl ?_
                  refine g_aload_n (i := 0) dX10_step_77 rfl rfl ?_
                  refine g_getf dX10_step_78 flX10_39 (hR1.1.1) rfl ?_
                  refine g_new dX10_step_81 nwX10_100 (by decide) (by decide) (fun zq81 zhq81 => ?_)
                  refine g_dup dX10_step_84 rfl ?_
                  refine g_iconst (v := 1) dX10_step_85 (by decide) ?_
                  refine g_iload_n (i := 1) dX10_step_86 rfl rfl ?_
                  refine g_iconst (v := 0) dX10_step_87 (by decide) ?_
                  refine g_lconst (v := 0) dX10_step_88 (by decide) ?_
                  refine g_null dX10_step_89 ?_
                  refine g_callIv (My := mX0_init) [_, _, _, _, _] dX10_step_90 lkX10_102 mvX0_init rfl (c_X0_initN (su_self _ _ _) _ _ _ _) (by decide) (by decide) (by decide) rfl (Nat.le_of_ble_eq_true rfl) (fun σ zh90 => ?_)
                  rw [zh90, su_su]
                  have hs4 := Sm.none (ow := ow) zhq81 (gO 0 [.int 1, .int (nI j), .int 0, .long 0, .null]) 51
                  have hR4 := hR1.new hs4
                  have hq := AcC.mk (σ := σ1) (ow := ow) (q := zq81) ((2, j, 0, 0, (0, [])), none)
                  refine g_callVv (My := mX4_add) [_] dX10_step_93 lkX10_105 mvX4_add rfl (hR4.hs.choose_spec) rfl (c_note hR4 hq (show ¬ (2 : Nat) = 5 by decide) (fun z : (2 : Nat) = 6 => absurd z (by decide))) (by decide) (by decide) (by decide) rfl (Nat.le_of_ble_eq_true rfl) (fun σ zh93 => ?_)
                  obtain ⟨hs5, hR5⟩ := zh93
                  obtain ⟨b2, ka2, xa2, ya2, kf2, xf2, yf2, hb2, r1, -⟩ := hR5.form (j := j) (g := (g.1, g.2 ++ [(k, xx, aY k y g.1)])) (List.getElem?_set_self hj)
                  obtain rfl : b = b2 := Option.some.inj (hb.symm.trans hb2)
                  refine g_aload dX10_step_96 rfl ?_
                  refine g_getf dX10_step_98 flX10_82 (r1.1) rfl ?_
                  refine g_iconst (v := 1) dX10_step_101 (by decide) ?_
                  refine g_isub dX10_step_102 ?_
                  rw [show nI (g.2 ++ [(k, xx, aY k y g.1)]).length - 1 = nI g.2.length from by (rw [List.length_append]; exact nI_pred _)]
                  refine g_iret dX10_step_103 rfl ?_
                  exact ⟨_, rfl, rfl, hR5.rc⟩
                · exact absurd (nI_lt (b := 12) (by omega) (by decide)) zc52
              · exact absurd hk'.2.2 (bI_eq0.mp zc40)
    · have hv : sStep A (nI j) k xx y = (-1, A) := by simp only [sStep, ha, if_neg hk']
      rw [hv]
      refine g_aload_n (i := 0) dX10_step_0 rfl rfl ?_
      refine g_iload_n (i := 1) dX10_step_1 rfl rfl ?_
      refine g_callVq (My := mX10_formAt) [_] dX10_step_2 lkX10_76 mvX10_formAt rfl (by first | exact hR.1.1 | exact p1.1) rfl (c_X10_formAt1 hR hj hb) (by decide) (by decide) (by decide) rfl (Nat.le_of_ble_eq_true rfl) (fun zr2 σ zh2 => ?_)
      obtain ⟨ze2, zf2⟩ := zh2
      rw [ze2, zf2]
      refine g_tor b rfl ?_
      refine g_astore (ls' := [_, _, _, _, _, _, _]) dX10_step_5 (by decide) rfl rfl ?_
      refine g_aload dX10_step_7 rfl ?_
      refine g_ifnull dX10_step_9 ?_
      refine g_iload_n (i := 2) dX10_step_12 rfl rfl ?_
      refine g_callSi (My := mX10_isKind) [_] dX10_step_13 lkX10_79 mvX10_isKind rfl (c_X10_isKind _) (by decide) (by decide) (by decide) rfl (Nat.le_of_ble_eq_true rfl) (fun zr13 σ zh13 => ?_)
      obtain ⟨ze13, zf13⟩ := zh13
      rw [ze13, zf13]
      refine g_if_eq (tgt := 43) dX10_step_16 (by decide) (fun zc16 => ?_) (fun zc16 => ?_)
      · refine g_iconst (v := (-1)) dX10_step_43 (by decide) ?_
        refine g_iret dX10_step_44 rfl ?_
        exact ⟨_, rfl, rfl, hR.rc⟩
      · refine g_iload_n (i := 3) dX10_step_19 rfl rfl ?_
        refine g_if_lt (tgt := 43) dX10_step_20 (by decide) (fun zc20 => ?_) (fun zc20 => ?_)
        · refine g_iconst (v := (-1)) dX10_step_43 (by decide) ?_
          refine g_iret dX10_step_44 rfl ?_
          exact ⟨_, rfl, rfl, hR.rc⟩
        · refine g_iload_n (i := 3) dX10_step_23 rfl rfl ?_
          refine g_aload dX10_step_24 rfl ?_
          refine g_getf dX10_step_26 flX10_82 (by first | exact hR.1.1 | exact p1.1) rfl ?_
          refine g_icmp_gt (tgt := 43) dX10_step_29 (by decide) (fun zc29 => ?_) (fun zc29 => ?_)
          · refine g_iconst (v := (-1)) dX10_step_43 (by decide) ?_
            refine g_iret dX10_step_44 rfl ?_
            exact ⟨_, rfl, rfl, hR.rc⟩
          · refine g_aload dX10_step_32 rfl ?_
            refine g_iload_n (i := 2) dX10_step_34 rfl rfl ?_
            refine g_lload dX10_step_35 rfl ?_
            refine g_callSi (My := mX10_fitsAsY) [_, _, _] dX10_step_37 lkX10_85 mvX10_fitsAsY rfl (c_X10_fitsAsY p1.1 _ _) (by decide) (by decide) (by decide) rfl (Nat.le_of_ble_eq_true rfl) (fun zr37 σ zh37 => ?_)
            obtain ⟨ze37, zf37⟩ := zh37
            rw [ze37, zf37]
            refine g_if_ne (tgt := 45) dX10_step_40 (by decide) (fun zc40 => ?_) (fun zc40 => ?_)
            · exact absurd ⟨⟨(bI_ne0.mp zc16).1, k12.mpr (bI_ne0.mp zc16).2⟩, ⟨zc20, Int32.not_lt.mp zc29⟩, bI_ne0.mp zc40⟩ hk'
            · refine g_iconst (v := (-1)) dX10_step_43 (by decide) ?_
              refine g_iret dX10_step_44 rfl ?_
              exact ⟨_, rfl, rfl, hR.rc⟩
theorem c_X10_drop (hR : RC τ x A) (hk' : ∀ c ∈ A.2.2.2.2.1, 1 ≤ c.1 ∧ c.1 ≤ 6 ∧ c.2.1 < 2 ^ 31) : Ct l mX10_drop 3 0 0 [.ref x] τ (pI (cP x (sDrop A))) := by
  obtain ⟨ow, ad, hk, cs, ff, hR⟩ := hR
  have h60 := hR.2.1.2.1
  refine Ct_of moX10_drop [some (.ref x)] rfl (Nat.le_of_ble_eq_true rfl) ?_
  by_cases h0 : A.1.length = 0
  · have hv : sDrop A = (-1, A) := by unfold sDrop; rw [if_pos h0]
    rw [hv]
    refine g_aload_n (i := 0) dX10_drop_0 rfl rfl ?_
    refine g_getf dX10_drop_1 flX10_68 (hR.1.1) rfl ?_
    refine g_if_ne (tgt := 9) dX10_drop_4 (by decide) (fun zc4 => ?_) (fun zc4 => ?_)
    · exact absurd (by rw [h0]; rfl) zc4
    · refine g_iconst (v := (-1)) dX10_drop_7 (by decide) ?_
      refine g_iret dX10_drop_8 rfl ?_
      exact ⟨_, rfl, rfl, hR.rc⟩
  · obtain ⟨m, hm⟩ : ∃ m, A.1.length = m + 1 := ⟨A.1.length - 1, by omega⟩
    have hv : sDrop A = (nI m, A.1.dropLast, A.2.1, A.2.2.1, A.2.2.2.1, A.2.2.2.2.1.filter (keepA m), A.2.2.2.2.2) := by unfold sDrop; rw [if_neg h0, hm]; rfl
    rw [hv]
    have hR1 := hR.shrink (m := m) (by omega)
    have hlm : (A.1.take m).length = m := by rw [List.length_take]; omega
    have hx1 : (su τ x (xO ad m A.2.2.2.2.2)) x = some (xO ad m A.2.2.2.2.2) := su_self _ _ _
    refine g_aload_n (i := 0) dX10_drop_0 rfl rfl ?_
    refine g_getf dX10_drop_1 flX10_68 (by first | exact hR.1.1 | exact hx1) rfl ?_
    refine g_if_ne (tgt := 9) dX10_drop_4 (by decide) (fun zc4 => ?_) (fun zc4 => ?_)
    · refine g_aload_n (i := 0) dX10_drop_9 rfl rfl ?_
      refine g_dup dX10_drop_10 rfl ?_
      refine g_getf dX10_drop_11 flX10_68 (by first | exact hR.1.1 | exact hx1) rfl ?_
      refine g_iconst (v := 1) dX10_drop_14 (by decide) ?_
      refine g_isub dX10_drop_15 ?_
      rw [hm, nI_pred]
      refine g_putf (fs' := [_, _, _, _, _, _, _, _, _, _]) dX10_drop_16 flX10_68 fp8_1 (by first | exact hR.1.1 | exact hx1) rfl rfl (Nat.le_of_ble_eq_true rfl) rfl ?_
      refine g_aload_n (i := 0) dX10_drop_19 rfl rfl ?_
      refine g_getf dX10_drop_20 flX10_39 (by first | exact hR.1.1 | exact hx1) rfl ?_
      refine g_aload_n (i := 0) dX10_drop_23 rfl rfl ?_
      refine g_getf dX10_drop_24 flX10_68 (by first | exact hR.1.1 | exact hx1) rfl ?_
      refine g_callVv (My := mX4_forgetForm) [_] dX10_drop_27 lkX10_128 mvX4_forgetForm rfl (hR1.hs.choose_spec) rfl (c_X4_forgetForm (show m < 60 by omega) hR1.2.2.2.2.2.2.1.1 (fun c hc => hk' c.1 (by rw [hR.2.2.2.2.2.2.1.2.1]; exact List.mem_map.mpr ⟨c, hc, rfl⟩))) (by decide) (by decide) (by decide) rfl (Nat.le_of_ble_eq_true rfl) (fun σ zh27 => ?_)
      obtain ⟨hs2, hh2⟩ := zh27
      have hR2 := hR1.hist hs2 hh2 ((hR1.2.2.2.2.2.2.1.2.2.sub (fun c hc => (List.mem_filter.mp hc).1)).mono hs2 (by decide) (fun m _ => by omega)) ⟨hR1.2.2.2.2.2.2.2.1.1.sub List.filter_sublist, by rw [← List.filter_reverse]; exact ckL_filter (fun c hc => by unfold keepC keepA at hc; simp at hc; omega) hR1.2.2.2.2.2.2.2.1.2⟩
      have e2 : (cs.filter (keepC m)).map Prod.fst = A.2.2.2.2.1.filter (keepA m) := by rw [hR.2.2.2.2.2.2.1.2.1, List.filter_map]; rfl
      rw [e2] at hR2
      refine g_aload_n (i := 0) dX10_drop_30 rfl rfl ?_
      refine g_getf dX10_drop_31 flX10_68 (hR2.1.1) rfl ?_
      rw [show nI (aSetHs (A.1.take m, A.2) (A.2.2.2.2.1.filter (keepA m))).1.length = nI m from by (show nI (A.1.take m).length = _; rw [hlm])]
      refine g_iret dX10_drop_34 rfl ?_
      refine ⟨_, rfl, rfl, ?_⟩
      have e3 : A.1.dropLast = A.1.take m := by rw [List.dropLast_eq_take, hm]; rfl
      show RC _ x (A.1.dropLast, _)
      rw [e3]
      exact hR2.rc
    · exact absurd zc4 (nI_ne0 (by omega) (by omega))
end CPub6
