/-! the class: new forms, steps, drop -/
theorem RCx.grow {σ : gH} {ow : Nat → Nat} {x : Nat} {A : aA} {ad hk : Nat → Nat} {cs : List cA} {ff : Nat → Option Nat} (q : RCx σ ow x A ad hk cs ff) (hl : A.1.length < 60) {b : Nat} {w : Int32} {kf xf : Nat → Int32} {yf : Nat → Int64} (hb : ff A.1.length = some b) (hf : FoC σ ow (100 + 4 * A.1.length) b w 0 kf xf yf) : RCx (su σ x (xO ad (A.1.length + 1) A.2.2.2.2.2)) ow x (A.1 ++ [(w, [])], A.2) ad hk cs ff := by
  obtain ⟨h1, ⟨h2a, h2b, h2c, h2d⟩, h3, h4, h5, h6, ⟨h7, h8, h9⟩, h10, h11, h12, h13⟩ := q
  have hs : Sm (fun m => m = 0) σ ow (su σ x (xO ad (A.1.length + 1) A.2.2.2.2.2)) ow := Sm.stp h1.2 _
  have hll : (A.1 ++ [(w, ([] : List aSt))]).length = A.1.length + 1 := by rw [List.length_append]; rfl
  refine ⟨by rw [hll]; exact h1.up _, ⟨h2a.mono hs (by decide), by rw [hll]; omega, fun f hf60 c hc => ?_, fun f hfl => ?_⟩, h3.mono hs (by decide), h4.mono hs (by decide), h5.mono hs (by decide) (by decide) (fun m _ => by omega), h6.mono hs (by decide) (by omega), ⟨h7.mono hs (by decide) (by decide) (by decide), h8, h9.mono hs (by decide) (fun m _ => by omega)⟩, h10, h11.mono hs (fun m _ _ _ => by omega), h12.mono hs (by decide), h13⟩
  · by_cases e : f = A.1.length
    · subst e
      obtain rfl : b = c := Option.some.inj (hb.symm.trans hc)
      refine ⟨w, 0, kf, xf, yf, hf.mono hs (fun m _ _ => by omega), fun g hg => ?_⟩
      rw [List.getElem?_append_right (Nat.le_refl _), Nat.sub_self] at hg
      cases hg
      exact ⟨rfl, rfl, Nat.zero_le _, fun k s hs => by simp at hs⟩
    · obtain ⟨w', cnt, kf', xf', yf', g1, g2⟩ := (h2c f hf60 c hc).mono hs hf60 (fun m _ _ => by omega)
      refine ⟨w', cnt, kf', xf', yf', g1, fun g hg => g2 g ?_⟩
      have hlt : f < A.1.length := by
        have := (List.getElem?_eq_some_iff.mp hg).1
        rw [hll] at this
        omega
      rw [List.getElem?_append_left hlt] at hg
      exact hg
  · by_cases e : f = A.1.length
    · subst e
      exact ⟨b, hb⟩
    · exact h2d f (by rw [hll] at hfl; omega)
/-- a form's own cells change -/
theorem RCx.fset {σ σ' : gH} {ow : Nat → Nat} {x : Nat} {A : aA} {ad hk : Nat → Nat} {cs : List cA} {ff : Nat → Option Nat} (q : RCx σ ow x A ad hk cs ff) {j b : Nat} (hj : j < 60) (hb : ff j = some b) (hs : Sm (fun m => 100 + 4 * j ≤ m ∧ m ≤ 103 + 4 * j) σ ow σ' ow) {L : List aF} (hL : L.length = A.1.length) (hLe : ∀ f, f ≠ j → L[f]? = A.1[f]?) (hf : foE σ' ow L j b) : RCx σ' ow x (L, A.2) ad hk cs ff := by
  obtain ⟨h1, ⟨h2a, h2b, h2c, h2d⟩, h3, h4, h5, h6, ⟨h7, h8, h9⟩, h10, h11, h12, h13⟩ := q
  refine ⟨by rw [hL]; exact h1.mono hs (by omega), ⟨h2a.mono hs (by omega), by rw [hL]; exact h2b, fun f hf60 c hc => ?_, fun f hfl => h2d f (by rw [hL] at hfl; exact hfl)⟩, h3.mono hs (by omega), h4.mono hs (by omega), h5.mono hs (by omega) (by omega) (fun m _ => by omega), h6.mono hs (by omega) (by omega), ⟨h7.mono hs (by omega) (by omega) (by omega), h8, h9.mono hs (by omega) (fun m _ => by omega)⟩, h10, h11.mono hs (fun m _ _ _ => by omega), h12.mono hs (by omega), h13⟩
  by_cases e : f = j
  · subst e
    obtain rfl : b = c := Option.some.inj (hb.symm.trans hc)
    exact hf
  · obtain ⟨w', cnt, kf', xf', yf', g1, g2⟩ := h2c f hf60 c hc
    exact ⟨w', cnt, kf', xf', yf', g1.mono hs (fun m _ _ => by omega), fun g hg => g2 g (by rw [← hLe f e]; exact hg)⟩
section CPub5
variable {l : Launch} {τ : gH} {x : Nat} {A : aA} {ow : Nat → Nat} {ad hk : Nat → Nat} {cs : List cA} {ff : Nat → Option Nat}
/-- a step is added to a form -/
theorem c_addF (hR : RCx τ ow x A ad hk cs ff) {j b : Nat} {g : aF} (hg : A.1[j]? = some g) (hb : ff j = some b) (hl : g.2.length < 12) (k xx : Int32) (y : Int64) : Ct l mX3_add 1 0 0 [.ref b, .int k, .int xx, .long y] τ (pI fun r σ' => r = nI (g.2.length + 1) ∧ Sm (fun m => 100 + 4 * j ≤ m ∧ m ≤ 103 + 4 * j) τ ow σ' ow ∧ RCx σ' ow x (A.1.set j (g.1, g.2 ++ [(k, xx, y)]), A.2) ad hk cs ff) := by
  obtain ⟨b', ka, xa, ya, kf, xf, yf, hb', p1, p2, p3, p4, hst, h12⟩ := hR.form hg
  obtain rfl : b = b' := Option.some.inj (hb.symm.trans hb')
  have hj := (List.getElem?_eq_some_iff.mp hg).1
  have h60 := hR.2.1.2.1
  refine (c_X3_add hl p1.1 p2.1 p3.1 p4.1 (p2.ne p3 (by omega)) k xx y).mono ?_
  rintro v σ' ⟨r, rfl, rfl, rfl⟩
  have s1 : Sm (fun m => 100 + 4 * j ≤ m ∧ m ≤ 103 + 4 * j) τ ow (su (su (su (su τ ka (gAi 12 (upd kf g.2.length k))) xa (gAi 12 (upd xf g.2.length xx))) ya (gAl 12 (vp_updL yf g.2.length y))) b (gO 2 [.int g.1, .int (nI (g.2.length + 1)), .ref ka, .ref xa, .ref ya])) ow := (((Sm.stp (b := ka) (by rw [p2.2]; omega) _).tr (Sm.stp (b := xa) (by rw [p3.2]; omega) _)).tr (Sm.stp (b := ya) (by rw [p4.2]; omega) _)).tr (Sm.stp (b := b) (by rw [p1.2]; omega) _)
  refine ⟨_, rfl, rfl, s1, hR.fset (by omega) hb s1 (by rw [List.length_set]) (fun f hf => List.getElem?_set_ne (Ne.symm hf)) ?_⟩
  have n1 := p1.ne p2 (by omega)
  have n2 := p1.ne p3 (by omega)
  have n3 := p1.ne p4 (by omega)
  have n4 := p2.ne p3 (by omega)
  have n5 := p2.ne p4 (by omega)
  have n6 := p3.ne p4 (by omega)
  refine ⟨g.1, nI (g.2.length + 1), upd kf g.2.length k, upd xf g.2.length xx, vp_updL yf g.2.length y, ⟨ka, xa, ya, ⟨su_self _ _ _, p1.2⟩, ⟨?_, by rw [p2.2]; omega⟩, ⟨?_, by rw [p3.2]; omega⟩, ⟨?_, by rw [p4.2]; omega⟩⟩, fun g' hg' => ?_⟩
  · rw [su_ne _ _ (Ne.symm n1), su_ne _ _ n5, su_ne _ _ n4]; exact su_self _ _ _
  · rw [su_ne _ _ (Ne.symm n2), su_ne _ _ n6]; exact su_self _ _ _
  · rw [su_ne _ _ (Ne.symm n3)]; exact su_self _ _ _
  · rw [List.getElem?_set_self (by omega)] at hg'
    cases hg'
    refine ⟨rfl, by rw [List.length_append]; rfl, by rw [List.length_append]; exact hl, fun i s hs => ?_⟩
    by_cases e : i < g.2.length
    · rw [List.getElem?_append_left e] at hs
      obtain ⟨t1, t2, t3⟩ := hst i s hs
      exact ⟨(pk_un (by omega)).trans t1, (pk_un (by omega)).trans t2, (pk_uLn (by omega)).trans t3⟩
    · have hi : i = g.2.length := by
        have := (List.getElem?_eq_some_iff.mp hs).1
        rw [List.length_append] at this
        simp only [List.length_cons, List.length_nil] at this
        omega
      subst hi
      rw [List.getElem?_append_right (Nat.le_refl _), Nat.sub_self] at hs
      cases hs
      exact ⟨pk_us, pk_us, pk_uLs⟩
abbrev exO : Nat → Prop := fun m => m = 0 ∨ m = 1 ∨ m = 6 ∨ m = 7 ∨ (100 ≤ m ∧ m < 340)
def ofP (τ : gH) (ow : Nat → Nat) (x : Nat) (A : aA) (ad hk : Nat → Nat) (cs : List cA) (w : Int32) : Option Nat → gH → Prop := fun r σ' => ∃ b ow' ff', r = some b ∧ ff' A.1.length = some b ∧ Sm exO τ ow σ' ow' ∧ RCx σ' ow' x (aNote (A.1 ++ [(w, [])], A.2) (1, A.1.length, 0, 0, (0, []))) ad hk (noteC cs ((1, A.1.length, 0, 0, (0, [])), none)) ff'
theorem t32_X10_open (hR : RCx τ ow x A ad hk cs ff) (hl : A.1.length < 60) (w : Int32) {b : Nat} (hb : ff A.1.length = some b) : G l mX10_openForm 2 1 5 (pQ (ofP τ ow x A ad hk cs w)) τ 32 [some (.ref x), some (.int w), some (.ref b)] [] := by
  obtain ⟨w0, cnt, kf, xf, yf, ⟨ka, xa, ya, p1, p2, p3, p4⟩, -⟩ := hR.2.1.2.2.1 A.1.length hl b hb
  have s1 : Sm (fun m => 100 + 4 * A.1.length ≤ m ∧ m ≤ 103 + 4 * A.1.length) τ ow (su τ b (gO 2 [.int w, .int 0, .ref ka, .ref xa, .ref ya])) ow := Sm.stp (b := b) (by rw [p1.2]; omega) _
  have hF : FoC (su τ b (gO 2 [.int w, .int 0, .ref ka, .ref xa, .ref ya])) ow (100 + 4 * A.1.length) b w 0 kf xf yf := ⟨ka, xa, ya, p1.up _, ⟨(su_ne _ _ (p2.ne p1 (by omega))).trans p2.1, p2.2⟩, ⟨(su_ne _ _ (p3.ne p1 (by omega))).trans p3.1, p3.2⟩, ⟨(su_ne _ _ (p4.ne p1 (by omega))).trans p4.1, p4.2⟩⟩
  have hR1 : RCx (su τ b (gO 2 [.int w, .int 0, .ref ka, .ref xa, .ref ya])) ow x A ad hk cs ff := hR.fset (L := A.1) hl hb s1 rfl (fun _ _ => rfl) ⟨w, 0, kf, xf, yf, hF, fun g hg => by rw [List.getElem?_eq_none (Nat.le_refl _)] at hg; cases hg⟩
  refine g_aload_n (i := 2) dX10_openForm_32 rfl rfl ?_
  refine g_iload_n (i := 1) dX10_openForm_33 rfl rfl ?_
  refine g_callVv (My := mX3_begin) [_] dX10_openForm_34 lkX10_261 mvX3_begin rfl (p1.1) rfl (c_X3_begin p1.1 _) (by decide) (by decide) (by decide) rfl (Nat.le_of_ble_eq_true rfl) (fun σ zh34 => ?_)
  rw [zh34]
  refine g_aload_n (i := 0) dX10_openForm_37 rfl rfl ?_
  refine g_getf dX10_openForm_38 flX10_39 (hR1.1.1) rfl ?_
  refine g_new dX10_openForm_41 nwX10_100 (by decide) (by decide) (fun zq41 zhq41 => ?_)
  refine g_dup dX10_openForm_44 rfl ?_
  refine g_iconst (v := 0) dX10_openForm_45 (by decide) ?_
  refine g_aload_n (i := 0) dX10_openForm_46 rfl rfl ?_
  refine g_getf dX10_openForm_47 flX10_68 ((su_ne _ _ (hR1.1.nq zhq41)).trans hR1.1.1) rfl ?_
  refine g_iconst (v := 0) dX10_openForm_50 (by decide) ?_
  refine g_lconst (v := 0) dX10_openForm_51 (by decide) ?_
  refine g_null dX10_openForm_52 ?_
  refine g_callIv (My := mX0_init) [_, _, _, _, _] dX10_openForm_53 lkX10_102 mvX0_init rfl (c_X0_initN (su_self _ _ _) _ _ _ _) (by decide) (by decide) (by decide) rfl (Nat.le_of_ble_eq_true rfl) (fun σ zh53 => ?_)
  rw [zh53, su_su]
  have hs4 := Sm.none (ow := ow) zhq41 (gO 0 [.int 0, .int (nI A.1.length), .int 0, .long 0, .null]) 51
  have hR4 := hR1.new hs4
  have hF4 := hF.mono hs4 (fun m _ _ z => z)
  have hq := AcC.mk (σ := su τ b (gO 2 [.int w, .int 0, .ref ka, .ref xa, .ref ya])) (ow := ow) (q := zq41) ((1, A.1.length, 0, 0, (0, [])), none)
  refine g_callVv (My := mX4_add) [_] dX10_openForm_56 lkX10_105 mvX4_add rfl (hR4.hs.choose_spec) rfl (c_note hR4 hq (show ¬ (1 : Nat) = 5 by decide) (fun z : (1 : Nat) = 6 => absurd z (by decide))) (by decide) (by decide) (by decide) rfl (Nat.le_of_ble_eq_true rfl) (fun σ zh56 => ?_)
  obtain ⟨hs5, hR5⟩ := zh56
  have hF5 := hF4.mono hs5 (fun m _ _ => by omega)
  refine g_aload_n (i := 0) dX10_openForm_59 rfl rfl ?_
  refine g_dup dX10_openForm_60 rfl ?_
  refine g_getf dX10_openForm_61 flX10_68 (hR5.1.1) rfl ?_
  refine g_iconst (v := 1) dX10_openForm_64 (by decide) ?_
  refine g_iadd dX10_openForm_65 ?_
  rw [show nI (aNote A (1, A.1.length, 0, 0, (0, []))).1.length + 1 = nI (A.1.length + 1) from nI_1 _]
  refine g_putf (fs' := [_, _, _, _, _, _, _, _, _, _]) dX10_openForm_66 flX10_68 fp8_1 (hR5.1.1) rfl rfl (Nat.le_of_ble_eq_true rfl) rfl ?_
  refine g_aload_n (i := 2) dX10_openForm_69 rfl rfl ?_
  refine g_aret (r := some b) dX10_openForm_70 rfl ?_
  refine ⟨_, rfl, b, va_up ow zq41 51, ff, rfl, hb, ?_, hR5.grow hl hb hF5⟩
  exact (((s1.wk (fun m z => by omega)).tr (hs4.wk (fun m z => z.elim))).tr (hs5.wk (fun m z => by omega))).tr (Sm.stp (ex := exO) (Or.inl hR5.1.2) _)
theorem c_X10_openForm (hR : RCx τ ow x A ad hk cs ff) (hl : A.1.length < 60) (w : Int32) : Ct l mX10_openForm 2 5 46 [.ref x, .int w] τ (pQ (ofP τ ow x A ad hk cs w)) := by
  have hI : vp_in (nI A.1.length) 60 := vp_in_nI hl (by decide)
  have hcl : (nI A.1.length).toNatClampNeg = A.1.length := nI_clamp (by omega)
  refine Ct_of moX10_openForm [some (.ref x), some (.int w), none] rfl (Nat.le_of_ble_eq_true rfl) ?_
  cases hb : ff A.1.length with
  | some b =>
    refine g_aload_n (i := 0) dX10_openForm_0 rfl rfl ?_
    refine g_getf dX10_openForm_1 flX10_11 (by first | exact hR.1.1 | exact hR.2.1.1.1) rfl ?_
    refine g_aload_n (i := 0) dX10_openForm_4 rfl rfl ?_
    refine g_getf dX10_openForm_5 flX10_68 (by first | exact hR.1.1 | exact hR.2.1.1.1) rfl ?_
    refine g_aald dX10_openForm_8 (by first | exact hR.1.1 | exact hR.2.1.1.1) (by decide) (hI) ?_
    refine g_tor b (by rw [hcl]; exact hb) ?_
    refine g_astore_n (i := 2) (ls' := [_, _, _]) dX10_openForm_9 rfl (by decide) rfl rfl ?_
    refine g_aload_n (i := 2) dX10_openForm_10 rfl rfl ?_
    refine g_ifnonnull (tgt := 32) dX10_openForm_11 (by decide) ?_
    exact g_bud (by decide) (by decide) (t32_X10_open hR hl w hb)
  | none =>
    have nx : ∀ q c, τ q = none → (su τ q c) x = some (xO ad A.1.length A.2.2.2.2.2) := fun q c hq => (su_ne _ _ (hR.1.nq hq)).trans hR.1.1
    refine g_aload_n (i := 0) dX10_openForm_0 rfl rfl ?_
    refine g_getf dX10_openForm_1 flX10_11 (by first | exact hR.1.1 | exact hR.2.1.1.1) rfl ?_
    refine g_aload_n (i := 0) dX10_openForm_4 rfl rfl ?_
    refine g_getf dX10_openForm_5 flX10_68 (by first | exact hR.1.1 | exact hR.2.1.1.1) rfl ?_
    refine g_aald dX10_openForm_8 (by first | exact hR.1.1 | exact hR.2.1.1.1) (by decide) (hI) ?_
    refine g_toN (by rw [hcl]; exact hb) ?_
    refine g_astore_nN (i := 2) (ls' := [_, _, _]) dX10_openForm_9 rfl (by decide) rfl rfl ?_
    refine g_aload_nN (i := 2) dX10_openForm_10 rfl rfl ?_
    refine g_ifnonnullN dX10_openForm_11 ?_
    refine g_new dX10_openForm_14 nwX10_9 (by decide) (by decide) (fun zq14 zhq14 => ?_)
    refine g_dup dX10_openForm_17 rfl ?_
    refine g_callIv (My := mX3_init) [] dX10_openForm_18 lkX10_260 mvX3_init rfl (c_X3_init (su_self _ _ _)) (by decide) (by decide) (by decide) rfl (Nat.le_of_ble_eq_true rfl) (fun σ zh18 => ?_)
    obtain ⟨ka, xa, ya, k1, x1, y1, n1, n2, n3, ze18⟩ := zh18
    rw [ze18]
    have nqk : ka ≠ zq14 := fun e => by
      rw [e, su_self] at k1
      cases k1
    have nqx : xa ≠ zq14 := fun e => by
      rw [e, su_self] at x1
      cases x1
    have nqy : ya ≠ zq14 := fun e => by
      rw [e, su_self] at y1
      cases y1
    rw [su_ne _ _ nqk] at k1
    rw [su_ne _ _ nqx] at x1
    rw [su_ne _ _ nqy] at y1
    have eσ : su (su (su (su (su τ zq14 (gO 2 [.int 0, .int 0, .null, .null, .null])) ka (gAi 12 (fun _ => 0))) xa (gAi 12 (fun _ => 0))) ya (gAl 12 (fun _ => 0))) zq14 (gO 2 [.int 0, .int 0, .ref ka, .ref xa, .ref ya]) = su (su (su (su τ ka (gAi 12 (fun _ => 0))) xa (gAi 12 (fun _ => 0))) ya (gAl 12 (fun _ => 0))) zq14 (gO 2 [.int 0, .int 0, .ref ka, .ref xa, .ref ya]) := by
      funext r
      unfold su
      by_cases e1 : r = zq14
      · simp [e1]
      · simp [e1]
    rw [eσ]
    clear eσ
    have a1 := Sm.none (ow := ow) k1 (gAi 12 (fun _ => 0)) (101 + 4 * A.1.length)
    have a2 := Sm.none (ow := va_up ow ka (101 + 4 * A.1.length)) (q := xa) (show su τ ka (gAi 12 (fun _ => 0)) xa = none by rw [su_ne _ _ (Ne.symm n1)]; exact x1) (gAi 12 (fun _ => 0)) (102 + 4 * A.1.length)
    have a3 := Sm.none (ow := va_up (va_up ow ka (101 + 4 * A.1.length)) xa (102 + 4 * A.1.length)) (q := ya) (show su (su τ ka (gAi 12 (fun _ => 0))) xa (gAi 12 (fun _ => 0)) ya = none by rw [su_ne _ _ (Ne.symm n3), su_ne _ _ (Ne.symm n2)]; exact y1) (gAl 12 (fun _ => 0)) (103 + 4 * A.1.length)
    have a4 := Sm.none (ow := va_up (va_up (va_up ow ka (101 + 4 * A.1.length)) xa (102 + 4 * A.1.length)) ya (103 + 4 * A.1.length)) (q := zq14) (show su (su (su τ ka (gAi 12 (fun _ => 0))) xa (gAi 12 (fun _ => 0))) ya (gAl 12 (fun _ => 0)) zq14 = none by rw [su_ne _ _ (Ne.symm nqy), su_ne _ _ (Ne.symm nqx), su_ne _ _ (Ne.symm nqk)]; exact zhq14) (gO 2 [.int 0, .int 0, .ref ka, .ref xa, .ref ya]) (100 + 4 * A.1.length)
    have hS := ((a1.tr a2).tr a3).tr a4
    have hR1 := hR.new hS
    have hF1 : FoC (su (su (su (su τ ka (gAi 12 (fun _ => 0))) xa (gAi 12 (fun _ => 0))) ya (gAl 12 (fun _ => 0))) zq14 (gO 2 [.int 0, .int 0, .ref ka, .ref xa, .ref ya])) (va_up (va_up (va_up (va_up ow ka (101 + 4 * A.1.length)) xa (102 + 4 * A.1.length)) ya (103 + 4 * A.1.length)) zq14 (100 + 4 * A.1.length)) (100 + 4 * A.1.length) zq14 0 0 (fun _ => 0) (fun _ => 0) (fun _ => 0) := by
      refine ⟨ka, xa, ya, ⟨su_self _ _ _, va_up_self _ _ _⟩, ⟨?_, ?_⟩, ⟨?_, ?_⟩, ⟨?_, ?_⟩⟩
      · rw [su_ne _ _ nqk, su_ne _ _ n2, su_ne _ _ n1]; exact su_self _ _ _
      · rw [va_up_ne _ _ nqk, va_up_ne _ _ n2, va_up_ne _ _ n1, va_up_self]; omega
      · rw [su_ne _ _ nqx, su_ne _ _ n3]; exact su_self _ _ _
      · rw [va_up_ne _ _ nqx, va_up_ne _ _ n3, va_up_self]; omega
      · rw [su_ne _ _ nqy]; exact su_self _ _ _
      · rw [va_up_ne _ _ nqy, va_up_self]; omega
    obtain ⟨ow1, how1⟩ : ∃ o, o = va_up (va_up (va_up (va_up ow ka (101 + 4 * A.1.length)) xa (102 + 4 * A.1.length)) ya (103 + 4 * A.1.length)) zq14 (100 + 4 * A.1.length) := ⟨_, rfl⟩
    rw [← how1] at hR1 hF1
    obtain ⟨σ1, hσ1⟩ : ∃ s, s = su (su (su (su τ ka (gAi 12 (fun _ => 0))) xa (gAi 12 (fun _ => 0))) ya (gAl 12 (fun _ => 0))) zq14 (gO 2 [.int 0, .int 0, .ref ka, .ref xa, .ref ya]) := ⟨_, rfl⟩
    rw [← hσ1] at hR1 hF1 ⊢
    rw [← hσ1, ← how1] at hS
    clear hσ1 how1 a1 a2 a3 a4
    refine g_astore_n (i := 2) (ls' := [_, _, _]) dX10_openForm_21 rfl (by decide) rfl rfl ?_
    refine g_aload_n (i := 0) dX10_openForm_22 rfl rfl ?_
    refine g_getf dX10_openForm_23 flX10_11 (hR1.1.1) rfl ?_
    refine g_aload_n (i := 0) dX10_openForm_26 rfl rfl ?_
    refine g_getf dX10_openForm_27 flX10_68 (hR1.1.1) rfl ?_
    refine g_aload_n (i := 2) dX10_openForm_30 rfl rfl ?_
    refine g_aast dX10_openForm_31 (hR1.2.1.1.1) (by decide) (hF1.choose_spec.choose_spec.choose_spec.1.1) rfl (hI) ?_
    have hs6 : Sm (fun m => m = 1) σ1 ow1 (su σ1 (ad 1) (gAq (.object RX3) 60 (va_up ff (nI A.1.length).toNatClampNeg (some zq14)))) ow1 := Sm.stp hR1.2.1.1.2 _
    have hR6 : RCx (su σ1 (ad 1) (gAq (.object RX3) 60 (va_up ff (nI A.1.length).toNatClampNeg (some zq14)))) ow1 x A ad hk cs (va_up ff A.1.length (some zq14)) := by
      rw [hcl] at hs6 ⊢
      obtain ⟨h1, ⟨h2a, h2b, h2c, h2d⟩, h3, h4, h5, h6, ⟨h7, h8, h9⟩, h10, h11, h12, h13⟩ := hR1
      refine ⟨h1.mono hs6 (by decide), ⟨h2a.up _, h2b, fun f hf60 c hc => ?_, fun f hfl => ?_⟩, h3.mono hs6 (by decide), h4.mono hs6 (by decide), h5.mono hs6 (by decide) (by decide) (fun m _ => by omega), h6.mono hs6 (by decide) (by omega), ⟨h7.mono hs6 (by decide) (by decide) (by decide), h8, h9.mono hs6 (by decide) (fun m _ => by omega)⟩, h10, h11.mono hs6 (fun m _ _ _ => by omega), h12.mono hs6 (by decide), h13⟩
      · by_cases e : f = A.1.length
        · subst e
          rw [va_up_self] at hc
          cases hc
          exact ⟨0, 0, _, _, _, hF1.mono hs6 (fun m _ _ => by omega), fun g hg => by rw [List.getElem?_eq_none (Nat.le_refl _)] at hg; cases hg⟩
        · rw [va_up_ne _ _ e] at hc
          exact (h2c f hf60 c hc).mono hs6 hf60 (fun m _ _ => by omega)
      · rw [va_up_ne _ _ (by omega)]
        exact h2d f hfl
    refine g_bud (by decide) (by decide) (g_mono ?_ (t32_X10_open hR6 hl w (va_up_self _ _ _)))
    rintro v σ' ⟨r, rfl, b, ow', ff', rfl, g1, g2, g3⟩
    exact ⟨_, rfl, b, ow', ff', rfl, g1, ((hS.wk (fun m z => z.elim)).tr (hs6.wk (fun m z => by omega))).tr g2, g3⟩
theorem c_X10_form (hR : RC τ x A) (w : Int32) : Ct l mX10_form 3 5 46 [.ref x, .int w] τ (pI (cP x (sForm A w))) := by
  obtain ⟨ow, ad, hk, cs, ff, hR⟩ := hR
  have h60 := hR.2.1.2.1
  refine Ct_of moX10_form [some (.ref x), some (.int w)] rfl (Nat.le_of_ble_eq_true rfl) ?_
  by_cases hw : isW w
  · by_cases hl : A.1.length = 60
    · have hv : sForm A w = (-2, A) := by unfold sForm; rw [if_pos hw, if_pos hl]
      rw [hv]
      refine g_iload_n (i := 1) dX10_form_0 rfl rfl ?_
      refine g_callSi (My := mX2_isWidth) [_] dX10_form_1 lkX10_62 mvX2_isWidth rfl (c_X2_isWidth _) (by decide) (by decide) (by decide) rfl (Nat.le_of_ble_eq_true rfl) (fun zr1 σ zh1 => ?_)
      obtain ⟨ze1, zf1⟩ := zh1
      rw [ze1, zf1]
      refine g_if_ne (tgt := 9) dX10_form_4 (by decide) (fun zc4 => ?_) (fun zc4 => ?_)
      · refine g_aload_n (i := 0) dX10_form_9 rfl rfl ?_
        refine g_getf dX10_form_10 flX10_68 (hR.1.1) rfl ?_
        refine g_bipush (v := 60) dX10_form_13 (by decide) ?_
        refine g_icmp_lt (tgt := 21) dX10_form_15 (by decide) (fun zc15 => ?_) (fun zc15 => ?_)
        · exact absurd zc15 (by rw [hl]; decide)
        · refine g_bipush (v := (-2)) dX10_form_18 (by decide) ?_
          refine g_iret dX10_form_20 rfl ?_
          exact ⟨_, rfl, rfl, hR.rc⟩
      · exact absurd hw (bI_eq0.mp zc4)
    · have hv : sForm A w = (nI A.1.length, aNote (A.1 ++ [(w, [])], A.2) (1, A.1.length, 0, 0, (0, []))) := by unfold sForm; rw [if_pos hw, if_neg hl]
      rw [hv]
      refine g_iload_n (i := 1) dX10_form_0 rfl rfl ?_
      refine g_callSi (My := mX2_isWidth) [_] dX10_form_1 lkX10_62 mvX2_isWidth rfl (c_X2_isWidth _) (by decide) (by decide) (by decide) rfl (Nat.le_of_ble_eq_true rfl) (fun zr1 σ zh1 => ?_)
      obtain ⟨ze1, zf1⟩ := zh1
      rw [ze1, zf1]
      refine g_if_ne (tgt := 9) dX10_form_4 (by decide) (fun zc4 => ?_) (fun zc4 => ?_)
      · refine g_aload_n (i := 0) dX10_form_9 rfl rfl ?_
        refine g_getf dX10_form_10 flX10_68 (hR.1.1) rfl ?_
        refine g_bipush (v := 60) dX10_form_13 (by decide) ?_
        refine g_icmp_lt (tgt := 21) dX10_form_15 (by decide) (fun zc15 => ?_) (fun zc15 => ?_)
        · refine g_aload_n (i := 0) dX10_form_21 rfl rfl ?_
          refine g_iload_n (i := 1) dX10_form_22 rfl rfl ?_
          refine g_callVq (My := mX10_openForm) [_] dX10_form_23 lkX10_72 mvX10_openForm rfl (hR.1.1) rfl (c_X10_openForm hR (by omega) w) (by decide) (by decide) (by decide) rfl (Nat.le_of_ble_eq_true rfl) (fun zr23 σ zh23 => ?_)
          obtain ⟨b, ow', ff', ze23, hb, -, hR2⟩ := zh23
          rw [ze23]
          refine g_tor b rfl ?_
          refine g_pop dX10_form_26 rfl ?_
          refine g_aload_n (i := 0) dX10_form_27 rfl rfl ?_
          refine g_getf dX10_form_28 flX10_68 (hR2.1.1) rfl ?_
          refine g_iconst (v := 1) dX10_form_31 (by decide) ?_
          refine g_isub dX10_form_32 ?_
          rw [show nI (aNote (A.1 ++ [(w, [])], A.2) (1, A.1.length, 0, 0, (0, []))).1.length - 1 = nI A.1.length from by (show nI (A.1 ++ [(w, [])]).length - 1 = _; rw [List.length_append]; exact nI_pred _)]
          refine g_iret dX10_form_33 rfl ?_
          exact ⟨_, rfl, rfl, hR2.rc⟩
        · exact absurd (nI_lt (b := 60) (by omega) (by decide)) zc15
      · exact absurd hw (bI_eq0.mp zc4)
  · have hv : sForm A w = (-1, A) := by unfold sForm; rw [if_neg hw]
    rw [hv]
    refine g_iload_n (i := 1) dX10_form_0 rfl rfl ?_
    refine g_callSi (My := mX2_isWidth) [_] dX10_form_1 lkX10_62 mvX2_isWidth rfl (c_X2_isWidth _) (by decide) (by decide) (by decide) rfl (Nat.le_of_ble_eq_true rfl) (fun zr1 σ zh1 => ?_)
    obtain ⟨ze1, zf1⟩ := zh1
    rw [ze1, zf1]
    refine g_if_ne (tgt := 9) dX10_form_4 (by decide) (fun zc4 => ?_) (fun zc4 => ?_)
    · exact absurd (bI_ne0.mp zc4) hw
    · refine g_iconst (v := (-1)) dX10_form_7 (by decide) ?_
      refine g_iret dX10_form_8 rfl ?_
      exact ⟨_, rfl, rfl, hR.rc⟩
theorem c_X10_fitsAsY {b : Nat} {w cnt : Int32} {va vb vc : Value} (h0 : τ b = some (gO 2 [.int w, .int cnt, va, vb, vc])) (k : Int32) (y : Int64) : Ct l mX10_fitsAsY 2 0 0 [.ref b, .int k, .long y] τ (pI fun r σ' => r = bI ((isOp k → ¬ y < 0 ∧ ¬ cnt.toInt64 < y) ∧ (isCt k → ¬ y < 0 ∧ y < w.toInt64)) ∧ σ' = τ) := by
  have hx : ¬ (isOp k ∧ isCt k) := by
    rintro ⟨a, b⟩
    rcases a with rfl | rfl | rfl | rfl <;> rcases b with q | q | q <;> exact absurd q (by decide)
  refine Ct_of moX10_fitsAsY [some (.ref b), some (.int k), some (.long y), none] rfl (Nat.le_of_ble_eq_true rfl) ?_
  refine g_iload_n (i := 1) dX10_fitsAsY_0 rfl rfl ?_
  refine g_callSi (My := mX6_takesOperand) [_] dX10_fitsAsY_1 lkX10_252 mvX6_takesOperand rfl (c_X6_takesOperand _) (by decide) (by decide) (by decide) rfl (Nat.le_of_ble_eq_true rfl) (fun zr1 σ zh1 => ?_)
  obtain ⟨ze1, zf1⟩ := zh1
  rw [ze1, zf1]
  refine g_if_eq (tgt := 29) dX10_fitsAsY_4 (by decide) (fun zc4 => ?_) (fun zc4 => ?_)
  · refine g_iload_n (i := 1) dX10_fitsAsY_29 rfl rfl ?_
    refine g_callSi (My := mX6_takesCount) [_] dX10_fitsAsY_30 lkX10_257 mvX6_takesCount rfl (c_X6_takesCount _) (by decide) (by decide) (by decide) rfl (Nat.le_of_ble_eq_true rfl) (fun zr30 σ zh30 => ?_)
    obtain ⟨ze30, zf30⟩ := zh30
    rw [ze30, zf30]
    refine g_if_eq (tgt := 52) dX10_fitsAsY_33 (by decide) (fun zc33 => ?_) (fun zc33 => ?_)
    · refine g_iconst (v := 1) dX10_fitsAsY_52 (by decide) ?_
      refine g_goto (tgt := 57) dX10_fitsAsY_53 (by decide) ?_
      refine g_zret dX10_fitsAsY_57 rfl (rfl) ?_
      refine ⟨_, rfl, ?_, rfl⟩
      first
      | (refine Eq.symm (bI_f ?_); intro z; exact (z.1 (bI_ne0.mp zc4)).1 ((lg_cmp_lt _ _).mp zc10))
      | (refine Eq.symm (bI_f ?_); intro z; exact (z.1 (bI_ne0.mp zc4)).2 ((lg_cmp_gt _ _).mp zc20))
      | (refine Eq.symm (bI_t ?_); exact ⟨fun _ => ⟨fun q => zc10 ((lg_cmp_lt _ _).mpr q), fun q => zc20 ((lg_cmp_gt _ _).mpr q)⟩, fun q => absurd ⟨bI_ne0.mp zc4, q⟩ hx⟩)
      | (refine Eq.symm (bI_t ?_); exact ⟨fun q => absurd q (bI_eq0.mp zc4), fun q => absurd q (bI_eq0.mp zc33)⟩)
      | (refine Eq.symm (bI_f ?_); intro z; exact (z.2 (bI_ne0.mp zc33)).1 ((lg_cmp_lt _ _).mp zc39))
      | (refine Eq.symm (bI_f ?_); intro z; exact absurd ((lg_cmp_ge _ _).mp zc49) (Int64.not_le.mpr (z.2 (bI_ne0.mp zc33)).2))
      | (refine Eq.symm (bI_t ?_); exact ⟨fun q => absurd q (bI_eq0.mp zc4), fun _ => ⟨fun q => zc39 ((lg_cmp_lt _ _).mpr q), Int64.not_le.mp (fun q => zc49 ((lg_cmp_ge _ _).mpr q))⟩⟩)
    · refine g_lload_n (i := 2) dX10_fitsAsY_36 rfl rfl ?_
      refine g_lconst (v := 0) dX10_fitsAsY_37 (by decide) ?_
      refine g_lcmp dX10_fitsAsY_38 ?_
      refine g_if_lt (tgt := 56) dX10_fitsAsY_39 (by decide) (fun zc39 => ?_) (fun zc39 => ?_)
      · refine g_iconst (v := 0) dX10_fitsAsY_56 (by decide) ?_
        refine g_zret dX10_fitsAsY_57 rfl (rfl) ?_
        refine ⟨_, rfl, ?_, rfl⟩
        first
        | (refine Eq.symm (bI_f ?_); intro z; exact (z.1 (bI_ne0.mp zc4)).1 ((lg_cmp_lt _ _).mp zc10))
        | (refine Eq.symm (bI_f ?_); intro z; exact (z.1 (bI_ne0.mp zc4)).2 ((lg_cmp_gt _ _).mp zc20))
        | (refine Eq.symm (bI_t ?_); exact ⟨fun _ => ⟨fun q => zc10 ((lg_cmp_lt _ _).mpr q), fun q => zc20 ((lg_cmp_gt _ _).mpr q)⟩, fun q => absurd ⟨bI_ne0.mp zc4, q⟩ hx⟩)
        | (refine Eq.symm (bI_t ?_); exact ⟨fun q => absurd q (bI_eq0.mp zc4), fun q => absurd q (bI_eq0.mp zc33)⟩)
        | (refine Eq.symm (bI_f ?_); intro z; exact (z.2 (bI_ne0.mp zc33)).1 ((lg_cmp_lt _ _).mp zc39))
        | (refine Eq.symm (bI_f ?_); intro z; exact absurd ((lg_cmp_ge _ _).mp zc49) (Int64.not_le.mpr (z.2 (bI_ne0.mp zc33)).2))
        | (refine Eq.symm (bI_t ?_); exact ⟨fun q => absurd q (bI_eq0.mp zc4), fun _ => ⟨fun q => zc39 ((lg_cmp_lt _ _).mpr q), Int64.not_le.mp (fun q => zc49 ((lg_cmp_ge _ _).mpr q))⟩⟩)
      · refine g_lload_n (i := 2) dX10_fitsAsY_42 rfl rfl ?_
        refine g_aload_n (i := 0) dX10_fitsAsY_43 rfl rfl ?_
        refine g_getf dX10_fitsAsY_44 flX10_89 (by assumption) rfl ?_
        refine g_i2l dX10_fitsAsY_47 ?_
        refine g_lcmp dX10_fitsAsY_48 ?_
        refine g_if_ge (tgt := 56) dX10_fitsAsY_49 (by decide) (fun zc49 => ?_) (fun zc49 => ?_)
        · refine g_iconst (v := 0) dX10_fitsAsY_56 (by decide) ?_
          refine g_zret dX10_fitsAsY_57 rfl (rfl) ?_
          refine ⟨_, rfl, ?_, rfl⟩
          first
          | (refine Eq.symm (bI_f ?_); intro z; exact (z.1 (bI_ne0.mp zc4)).1 ((lg_cmp_lt _ _).mp zc10))
          | (refine Eq.symm (bI_f ?_); intro z; exact (z.1 (bI_ne0.mp zc4)).2 ((lg_cmp_gt _ _).mp zc20))
          | (refine Eq.symm (bI_t ?_); exact ⟨fun _ => ⟨fun q => zc10 ((lg_cmp_lt _ _).mpr q), fun q => zc20 ((lg_cmp_gt _ _).mpr q)⟩, fun q => absurd ⟨bI_ne0.mp zc4, q⟩ hx⟩)
          | (refine Eq.symm (bI_t ?_); exact ⟨fun q => absurd q (bI_eq0.mp zc4), fun q => absurd q (bI_eq0.mp zc33)⟩)
          | (refine Eq.symm (bI_f ?_); intro z; exact (z.2 (bI_ne0.mp zc33)).1 ((lg_cmp_lt _ _).mp zc39))
          | (refine Eq.symm (bI_f ?_); intro z; exact absurd ((lg_cmp_ge _ _).mp zc49) (Int64.not_le.mpr (z.2 (bI_ne0.mp zc33)).2))
          | (refine Eq.symm (bI_t ?_); exact ⟨fun q => absurd q (bI_eq0.mp zc4), fun _ => ⟨fun q => zc39 ((lg_cmp_lt _ _).mpr q), Int64.not_le.mp (fun q => zc49 ((lg_cmp_ge _ _).mpr q))⟩⟩)
        · refine g_iconst (v := 1) dX10_fitsAsY_52 (by decide) ?_
          refine g_goto (tgt := 57) dX10_fitsAsY_53 (by decide) ?_
          refine g_zret dX10_fitsAsY_57 rfl (rfl) ?_
          refine ⟨_, rfl, ?_, rfl⟩
          first
          | (refine Eq.symm (bI_f ?_); intro z; exact (z.1 (bI_ne0.mp zc4)).1 ((lg_cmp_lt _ _).mp zc10))
          | (refine Eq.symm (bI_f ?_); intro z; exact (z.1 (bI_ne0.mp zc4)).2 ((lg_cmp_gt _ _).mp zc20))
          | (refine Eq.symm (bI_t ?_); exact ⟨fun _ => ⟨fun q => zc10 ((lg_cmp_lt _ _).mpr q), fun q => zc20 ((lg_cmp_gt _ _).mpr q)⟩, fun q => absurd ⟨bI_ne0.mp zc4, q⟩ hx⟩)
          | (refine Eq.symm (bI_t ?_); exact ⟨fun q => absurd q (bI_eq0.mp zc4), fun q => absurd q (bI_eq0.mp zc33)⟩)
          | (refine Eq.symm (bI_f ?_); intro z; exact (z.2 (bI_ne0.mp zc33)).1 ((lg_cmp_lt _ _).mp zc39))
          | (refine Eq.symm (bI_f ?_); intro z; exact absurd ((lg_cmp_ge _ _).mp zc49) (Int64.not_le.mpr (z.2 (bI_ne0.mp zc33)).2))
          | (refine Eq.symm (bI_t ?_); exact ⟨fun q => absurd q (bI_eq0.mp zc4), fun _ => ⟨fun q => zc39 ((lg_cmp_lt _ _).mpr q), Int64.not_le.mp (fun q => zc49 ((lg_cmp_ge _ _).mpr q))⟩⟩)
  · refine g_lload_n (i := 2) dX10_fitsAsY_7 rfl rfl ?_
    refine g_lconst (v := 0) dX10_fitsAsY_8 (by decide) ?_
    refine g_lcmp dX10_fitsAsY_9 ?_
    refine g_if_lt (tgt := 27) dX10_fitsAsY_10 (by decide) (fun zc10 => ?_) (fun zc10 => ?_)
    · refine g_iconst (v := 0) dX10_fitsAsY_27 (by decide) ?_
      refine g_zret dX10_fitsAsY_28 rfl (rfl) ?_
      refine ⟨_, rfl, ?_, rfl⟩
      first
      | (refine Eq.symm (bI_f ?_); intro z; exact (z.1 (bI_ne0.mp zc4)).1 ((lg_cmp_lt _ _).mp zc10))
      | (refine Eq.symm (bI_f ?_); intro z; exact (z.1 (bI_ne0.mp zc4)).2 ((lg_cmp_gt _ _).mp zc20))
      | (refine Eq.symm (bI_t ?_); exact ⟨fun _ => ⟨fun q => zc10 ((lg_cmp_lt _ _).mpr q), fun q => zc20 ((lg_cmp_gt _ _).mpr q)⟩, fun q => absurd ⟨bI_ne0.mp zc4, q⟩ hx⟩)
      | (refine Eq.symm (bI_t ?_); exact ⟨fun q => absurd q (bI_eq0.mp zc4), fun q => absurd q (bI_eq0.mp zc33)⟩)
      | (refine Eq.symm (bI_f ?_); intro z; exact (z.2 (bI_ne0.mp zc33)).1 ((lg_cmp_lt _ _).mp zc39))
      | (refine Eq.symm (bI_f ?_); intro z; exact absurd ((lg_cmp_ge _ _).mp zc49) (Int64.not_le.mpr (z.2 (bI_ne0.mp zc33)).2))
      | (refine Eq.symm (bI_t ?_); exact ⟨fun q => absurd q (bI_eq0.mp zc4), fun _ => ⟨fun q => zc39 ((lg_cmp_lt _ _).mpr q), Int64.not_le.mp (fun q => zc49 ((lg_cmp_ge _ _).mpr q))⟩⟩)
    · refine g_lload_n (i := 2) dX10_fitsAsY_13 rfl rfl ?_
      refine g_aload_n (i := 0) dX10_fitsAsY_14 rfl rfl ?_
      refine g_getf dX10_fitsAsY_15 flX10_82 (by assumption) rfl ?_
      refine g_i2l dX10_fitsAsY_18 ?_
      refine g_lcmp dX10_fitsAsY_19 ?_
      refine g_if_gt (tgt := 27) dX10_fitsAsY_20 (by decide) (fun zc20 => ?_) (fun zc20 => ?_)
      · refine g_iconst (v := 0) dX10_fitsAsY_27 (by decide) ?_
        refine g_zret dX10_fitsAsY_28 rfl (rfl) ?_
        refine ⟨_, rfl, ?_, rfl⟩
        first
        | (refine Eq.symm (bI_f ?_); intro z; exact (z.1 (bI_ne0.mp zc4)).1 ((lg_cmp_lt _ _).mp zc10))
        | (refine Eq.symm (bI_f ?_); intro z; exact (z.1 (bI_ne0.mp zc4)).2 ((lg_cmp_gt _ _).mp zc20))
        | (refine Eq.symm (bI_t ?_); exact ⟨fun _ => ⟨fun q => zc10 ((lg_cmp_lt _ _).mpr q), fun q => zc20 ((lg_cmp_gt _ _).mpr q)⟩, fun q => absurd ⟨bI_ne0.mp zc4, q⟩ hx⟩)
        | (refine Eq.symm (bI_t ?_); exact ⟨fun q => absurd q (bI_eq0.mp zc4), fun q => absurd q (bI_eq0.mp zc33)⟩)
        | (refine Eq.symm (bI_f ?_); intro z; exact (z.2 (bI_ne0.mp zc33)).1 ((lg_cmp_lt _ _).mp zc39))
        | (refine Eq.symm (bI_f ?_); intro z; exact absurd ((lg_cmp_ge _ _).mp zc49) (Int64.not_le.mpr (z.2 (bI_ne0.mp zc33)).2))
        | (refine Eq.symm (bI_t ?_); exact ⟨fun q => absurd q (bI_eq0.mp zc4), fun _ => ⟨fun q => zc39 ((lg_cmp_lt _ _).mpr q), Int64.not_le.mp (fun q => zc49 ((lg_cmp_ge _ _).mpr q))⟩⟩)
      · refine g_iconst (v := 1) dX10_fitsAsY_23 (by decide) ?_
        refine g_goto (tgt := 28) dX10_fitsAsY_24 (by decide) ?_
        refine g_zret dX10_fitsAsY_28 rfl (rfl) ?_
        refine ⟨_, rfl, ?_, rfl⟩
        first
        | (refine Eq.symm (bI_f ?_); intro z; exact (z.1 (bI_ne0.mp zc4)).1 ((lg_cmp_lt _ _).mp zc10))
        | (refine Eq.symm (bI_f ?_); intro z; exact (z.1 (bI_ne0.mp zc4)).2 ((lg_cmp_gt _ _).mp zc20))
        | (refine Eq.symm (bI_t ?_); exact ⟨fun _ => ⟨fun q => zc10 ((lg_cmp_lt _ _).mpr q), fun q => zc20 ((lg_cmp_gt _ _).mpr q)⟩, fun q => absurd ⟨bI_ne0.mp zc4, q⟩ hx⟩)
        | (refine Eq.symm (bI_t ?_); exact ⟨fun q => absurd q (bI_eq0.mp zc4), fun q => absurd q (bI_eq0.mp zc33)⟩)
        | (refine Eq.symm (bI_f ?_); intro z; exact (z.2 (bI_ne0.mp zc33)).1 ((lg_cmp_lt _ _).mp zc39))
        | (refine Eq.symm (bI_f ?_); intro z; exact absurd ((lg_cmp_ge _ _).mp zc49) (Int64.not_le.mpr (z.2 (bI_ne0.mp zc33)).2))
        | (refine Eq.symm (bI_t ?_); exact ⟨fun q => absurd q (bI_eq0.mp zc4), fun _ => ⟨fun q => zc39 ((lg_cmp_lt _ _).mpr q), Int64.not_le.mp (fun q => zc49 ((lg_cmp_ge _ _).mpr q))⟩⟩)
end CPub5
