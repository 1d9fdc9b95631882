/-! the class: forms and their work -/
def FoC (σ : gH) (ow : Nat → Nat) (n b : Nat) (w cnt : Int32) (kf xf : Nat → Int32) (yf : Nat → Int64) : Prop := ∃ ka xa ya, Pt σ ow b n (gO 2 [.int w, .int cnt, .ref ka, .ref xa, .ref ya]) ∧ Pt σ ow ka (n + 1) (gAi 12 kf) ∧ Pt σ ow xa (n + 2) (gAi 12 xf) ∧ Pt σ ow ya (n + 3) (gAl 12 yf)
theorem FoC.mono {ex : Nat → Prop} {σ σ' : gH} {ow ow' : Nat → Nat} {n b : Nat} {w cnt : Int32} {kf xf : Nat → Int32} {yf : Nat → Int64} (h : FoC σ ow n b w cnt kf xf yf) (hs : Sm ex σ ow σ' ow') (hx : ∀ m, n ≤ m → m ≤ n + 3 → ¬ ex m) : FoC σ' ow' n b w cnt kf xf yf := by
  obtain ⟨ka, xa, ya, h1, h2, h3, h4⟩ := h
  exact ⟨ka, xa, ya, h1.mono hs (hx _ (by omega) (by omega)), h2.mono hs (hx _ (by omega) (by omega)), h3.mono hs (hx _ (by omega) (by omega)), h4.mono hs (hx _ (by omega) (by omega))⟩
def stR (L : List aSt) (kf xf : Nat → Int32) (yf : Nat → Int64) : Prop := ∀ (k : Nat) (s : aSt), L[k]? = some s → kf k = s.1 ∧ xf k = s.2.1 ∧ yf k = s.2.2
section CForm
variable {l : Launch}
theorem c_X3_init {σ : gH} {q : Nat} (h0 : σ q = some (gO 2 [.int 0, .int 0, .null, .null, .null])) : Ct l mX3_init 1 3 36 [.ref q] σ (pV fun σ' => ∃ ka xa ya, σ ka = none ∧ σ xa = none ∧ σ ya = none ∧ ka ≠ xa ∧ ka ≠ ya ∧ xa ≠ ya ∧ σ' = su (su (su (su σ ka (gAi 12 (fun _ => 0))) xa (gAi 12 (fun _ => 0))) ya (gAl 12 (fun _ => 0))) q (gO 2 [.int 0, .int 0, .ref ka, .ref xa, .ref ya])) := by
  have nq : ∀ (τ : gH) (r : Nat) (c : gC), su τ q c r = none → r ≠ q := fun τ r c h e => by
    rw [e, su_self] at h
    cases h
  have nn : ∀ (τ : gH) (a r : Nat) (c : gC), su τ a c r = none → r ≠ a ∧ τ r = none := fun τ a r c h => by
    have e : r ≠ a := fun e => by
      rw [e, su_self] at h
      cases h
    rw [su_ne _ _ e] at h
    exact ⟨e, h⟩
  have nk : ∀ r, σ r = none → r ≠ q := fun r h e => by
    rw [e, h0] at h
    cases h
  refine Ct_of moX3_init [some (.ref q)] rfl (Nat.le_of_ble_eq_true rfl) ?_
  refine g_aload_n (i := 0) dX3_init_0 rfl rfl ?_
  refine g_objInit dX3_init_1 lkX3_3 oi_inst oi_code (by decide) (Nat.le_of_ble_eq_true rfl) ?_
  refine g_aload_n (i := 0) dX3_init_4 rfl rfl ?_
  refine g_bipush (v := 12) dX3_init_5 (by decide) ?_
  refine g_newi dX3_init_7 ac_int (by decide) rfl (by decide) (by decide) (by decide) (fun zq7 zhq7 => ?_)
  refine g_putF (fs' := [_, _, _, _, _]) dX3_init_9 flX3_9 fp2_2 rfl rfl (by rw [su_ne _ _ (Ne.symm (nk _ zhq7))]; exact h0) rfl rfl (Nat.le_of_ble_eq_true rfl) rfl fLX3_9 ?_
  refine g_aload_n (i := 0) dX3_init_12 rfl rfl ?_
  refine g_bipush (v := 12) dX3_init_13 (by decide) ?_
  refine g_newi dX3_init_15 ac_int (by decide) rfl (by decide) (by decide) (by decide) (fun zq15 zhq15 => ?_)
  refine g_putF (fs' := [_, _, _, _, _]) dX3_init_17 flX3_15 fp2_3 rfl rfl (by rw [su_ne _ _ (Ne.symm (nq _ _ _ zhq15))]; exact su_self _ _ _) rfl rfl (Nat.le_of_ble_eq_true rfl) rfl fLX3_15 ?_
  refine g_aload_n (i := 0) dX3_init_20 rfl rfl ?_
  refine g_bipush (v := 12) dX3_init_21 (by decide) ?_
  refine g_newl dX3_init_23 ac_long (by decide) rfl (by decide) (by decide) (by decide) (fun zq23 zhq23 => ?_)
  refine g_putF (fs' := [_, _, _, _, _]) dX3_init_25 flX3_18 fp2_4 rfl rfl (by rw [su_ne _ _ (Ne.symm (nq _ _ _ zhq23))]; exact su_self _ _ _) rfl rfl (Nat.le_of_ble_eq_true rfl) rfl fLX3_18 ?_
  refine g_vret dX3_init_28 rfl ?_
  have hk := nk _ zhq7
  obtain ⟨x1, x2⟩ := nn _ _ _ _ zhq15
  obtain ⟨x3, x4⟩ := nn _ _ _ _ x2
  obtain ⟨y1, y2⟩ := nn _ _ _ _ zhq23
  obtain ⟨y3, y4⟩ := nn _ _ _ _ y2
  obtain ⟨y5, y6⟩ := nn _ _ _ _ y4
  obtain ⟨y7, y8⟩ := nn _ _ _ _ y6
  refine ⟨rfl, zq7, zq15, zq23, zhq7, x4, y8, Ne.symm x3, Ne.symm y7, Ne.symm y3, ?_⟩
  funext r
  unfold su
  by_cases e1 : r = q
  · simp [e1]
  · by_cases e2 : r = zq23
    · simp [e2, y1]
    · by_cases e3 : r = zq15
      · simp [e3, x1, Ne.symm y3]
      · simp [e1, e2, e3]
theorem lp_X3_work {σ : gH} {b ka xa ya ma : Nat} {cnt : Int32} {kf xf : Nat → Int32} {yf : Nat → Int64} {g : aF} (hw : wfF g) (h0 : σ b = some (gO 2 [.int g.1, .int cnt, .ref ka, .ref xa, .ref ya])) (hk : σ ka = some (gAi 12 kf)) (hx : σ xa = some (gAi 12 xf)) (hy : σ ya = some (gAl 12 yf)) {mk0 : Nat → Int64} (hm : σ ma = some (gAl 13 mk0)) {m : Nat} (hm12 : m ≤ g.2.length) (hst : stR g.2 kf xf yf) (v : Int64) {post : Option Value → gH → Prop} (hp : ∀ mk, (∀ i, i ≤ m → mk i = opA g.1 g.2 v m i) → post none (su σ ma (gAl 13 mk))) :
    ∀ (n k : Nat) (mk : Nat → Int64) (x6 : Option Value), k + n = m → (∀ i, i ≤ k → mk i = opA g.1 g.2 v k i) → G l mX3_work 4 0 0 post (su σ ma (gAl 13 mk)) 16 [some (.ref b), some (.long v), none, some (.int (nI m)), some (.ref ma), some (.int (nI k)), x6, none] [] := by
  have h12 := hw.2.1
  have nb : b ≠ ma := fun e => by rw [e, hm] at h0; cases h0
  have nk : ka ≠ ma := fun e => by rw [e, hm] at hk; cases hk
  have nx : xa ≠ ma := fun e => by rw [e, hm] at hx; cases hx
  have ny' : ya ≠ ma := fun e => by rw [e, hm] at hy; cases hy
  obtain ⟨N, hN, hwN, hlt⟩ := wfF_lt hw v
  intro n
  induction n with
  | zero =>
    intro k mk x6 hk' hmk
    obtain rfl : k = m := by omega
    refine g_iload dX3_work_16 rfl ?_
    refine g_iload_n (i := 3) dX3_work_18 rfl rfl ?_
    refine g_icmp_ge (tgt := 97) dX3_work_19 (by decide) (fun zc19 => ?_) (fun zc19 => ?_)
    · refine g_vret dX3_work_97 rfl ?_
      exact hp mk hmk
    · exact absurd (nI_le (Nat.le_refl _) (by omega)) zc19
  | succ n ih =>
    intro k mk x6 hk' hmk
    have hkl : k < g.2.length := by omega
    obtain ⟨s, hs⟩ : ∃ s, g.2[k]? = some s := ⟨_, List.getElem?_eq_getElem hkl⟩
    obtain ⟨e1, e2, e3⟩ := hst k s hs
    obtain ⟨⟨cc, hcc, ec⟩, ⟨xx, hxx, ex⟩, hop, -, -⟩ := hw.2.2 k s hs
    have hI : vp_in (nI k) 12 := vp_in_nI (by omega) (by decide)
    have hck : (nI k).toNatClampNeg = k := nI_clamp (by omega)
    have hck1 : (nI (k + 1)).toNatClampNeg = k + 1 := nI_clamp (by omega)
    have hx1 : (nI xx).toNatClampNeg = xx := nI_clamp (by omega)
    have fin : ∀ (y : Int64) (x6 : Option Value), y = (if isOp s.1 then opA g.1 g.2 v k s.2.2.toInt32.toNatClampNeg else s.2.2) → G l mX3_work 4 0 0 post (su (su σ ma (gAl 13 mk)) ma (gAl 13 (vp_updL mk (nI (k + 1)).toNatClampNeg (bAp g.1 s.1 (mk (nI xx).toNatClampNeg) y)))) 91 [some (.ref b), some (.long v), none, some (.int (nI m)), some (.ref ma), some (.int (nI k)), x6, none] [] := by
      intro y x6 hy
      have hv1 : bAp g.1 s.1 (mk (nI xx).toNatClampNeg) y = opA g.1 g.2 v (k + 1) (k + 1) := by
        rw [opA_s hs, hx1, hmk xx hxx, ec, bAp_eq hN hwN hcc (hlt k xx), ← ec, ex, hx1, hy]
      rw [su_su, hv1, hck1]
      refine g_iinc (v := _ + 1) (ls' := [_, _, _, _, _, _, _, _]) dX3_work_91 rfl rfl (by decide) rfl rfl ?_
      refine g_goto (tgt := 16) dX3_work_94 (by decide) ?_
      refine g_cl (by rw [nI_1]) (ih (k + 1) _ _ (by omega) (fun i hi => ?_))
      by_cases hik : i = k + 1
      · subst hik; exact pk_uLs
      · rw [pk_uLn hik, opA_lo (by omega)]; exact hmk i (by omega)
    refine g_iload dX3_work_16 rfl ?_
    refine g_iload_n (i := 3) dX3_work_18 rfl rfl ?_
    refine g_icmp_ge (tgt := 97) dX3_work_19 (by decide) (fun zc19 => ?_) (fun zc19 => ?_)
    · exact absurd zc19 (nI_ge (by omega) (by omega))
    · refine g_aload_n (i := 0) dX3_work_22 rfl rfl ?_
      refine g_getf dX3_work_23 flX3_9 (by first | exact su_self _ _ _ | (rw [su_ne _ _ nb]; exact h0) | (rw [su_ne _ _ nk]; exact hk) | (rw [su_ne _ _ nx]; exact hx) | (rw [su_ne _ _ ny']; exact hy)) rfl ?_
      refine g_iload dX3_work_26 rfl ?_
      refine g_iald dX3_work_28 (by first | exact su_self _ _ _ | (rw [su_ne _ _ nb]; exact h0) | (rw [su_ne _ _ nk]; exact hk) | (rw [su_ne _ _ nx]; exact hx) | (rw [su_ne _ _ ny']; exact hy)) (hI) ?_
      refine g_toi s.1 (by rw [hck]; exact e1) ?_
      refine g_callSi (My := mX6_takesOperand) [_] dX3_work_29 lkX3_35 mvX6_takesOperand rfl (c_X6_takesOperand _) (by decide) (by decide) (by decide) rfl (Nat.le_of_ble_eq_true rfl) (fun zr29 σ zh29 => ?_)
      obtain ⟨ze29, zf29⟩ := zh29
      rw [ze29, zf29]
      refine g_if_eq (tgt := 49) dX3_work_32 (by decide) (fun zc32 => ?_) (fun zc32 => ?_)
      · refine g_aload_n (i := 0) dX3_work_49 rfl rfl ?_
        refine g_getf dX3_work_50 flX3_18 (by first | exact su_self _ _ _ | (rw [su_ne _ _ nb]; exact h0) | (rw [su_ne _ _ nk]; exact hk) | (rw [su_ne _ _ nx]; exact hx) | (rw [su_ne _ _ ny']; exact hy)) rfl ?_
        refine g_iload dX3_work_53 rfl ?_
        refine g_lald dX3_work_55 (by first | exact su_self _ _ _ | (rw [su_ne _ _ nb]; exact h0) | (rw [su_ne _ _ nk]; exact hk) | (rw [su_ne _ _ nx]; exact hx) | (rw [su_ne _ _ ny']; exact hy)) (hI) ?_
        refine g_tol s.2.2 (by rw [hck]; exact e3) ?_
        refine g_lstore (ls' := [_, _, _, _, _, _, _, _]) dX3_work_56 (by decide) rfl rfl ?_
        refine g_aload dX3_work_58 rfl ?_
        refine g_iload dX3_work_60 rfl ?_
        refine g_iconst (v := 1) dX3_work_62 (by decide) ?_
        refine g_iadd dX3_work_63 ?_
        rw [nI_1]
        refine g_aload_n (i := 0) dX3_work_64 rfl rfl ?_
        refine g_getf dX3_work_65 flX3_22 (by first | exact su_self _ _ _ | (rw [su_ne _ _ nb]; exact h0) | (rw [su_ne _ _ nk]; exact hk) | (rw [su_ne _ _ nx]; exact hx) | (rw [su_ne _ _ ny']; exact hy)) rfl ?_
        refine g_aload_n (i := 0) dX3_work_68 rfl rfl ?_
        refine g_getf dX3_work_69 flX3_9 (by first | exact su_self _ _ _ | (rw [su_ne _ _ nb]; exact h0) | (rw [su_ne _ _ nk]; exact hk) | (rw [su_ne _ _ nx]; exact hx) | (rw [su_ne _ _ ny']; exact hy)) rfl ?_
        refine g_iload dX3_work_72 rfl ?_
        refine g_iald dX3_work_74 (by first | exact su_self _ _ _ | (rw [su_ne _ _ nb]; exact h0) | (rw [su_ne _ _ nk]; exact hk) | (rw [su_ne _ _ nx]; exact hx) | (rw [su_ne _ _ ny']; exact hy)) (hI) ?_
        refine g_toi s.1 (by rw [hck]; exact e1) ?_
        refine g_aload dX3_work_75 rfl ?_
        refine g_aload_n (i := 0) dX3_work_77 rfl rfl ?_
        refine g_getf dX3_work_78 flX3_15 (by first | exact su_self _ _ _ | (rw [su_ne _ _ nb]; exact h0) | (rw [su_ne _ _ nk]; exact hk) | (rw [su_ne _ _ nx]; exact hx) | (rw [su_ne _ _ ny']; exact hy)) rfl ?_
        refine g_iload dX3_work_81 rfl ?_
        refine g_iald dX3_work_83 (by first | exact su_self _ _ _ | (rw [su_ne _ _ nb]; exact h0) | (rw [su_ne _ _ nk]; exact hk) | (rw [su_ne _ _ nx]; exact hx) | (rw [su_ne _ _ ny']; exact hy)) (hI) ?_
        refine g_toi (nI xx) (by rw [hck, ← ex]; exact e2) ?_
        refine g_lald dX3_work_84 (by first | exact su_self _ _ _ | (rw [su_ne _ _ nb]; exact h0) | (rw [su_ne _ _ nk]; exact hk) | (rw [su_ne _ _ nx]; exact hx) | (rw [su_ne _ _ ny']; exact hy)) ((vp_in_nI (show xx < 13 by omega) (by decide) : vp_in (nI xx) 13)) ?_
        refine g_lload dX3_work_85 rfl ?_
        refine g_callSl (My := mX6_apply) [_, _, _, _] dX3_work_87 lkX3_41 mvX6_apply rfl (c_X6_apply _ _ _ _) (by decide) (by decide) (by decide) rfl (Nat.le_of_ble_eq_true rfl) (fun zr87 σ zh87 => ?_)
        obtain ⟨ze87, zf87⟩ := zh87
        rw [ze87, zf87]
        refine g_last dX3_work_90 (by first | exact su_self _ _ _ | (rw [su_ne _ _ nb]; exact h0) | (rw [su_ne _ _ nk]; exact hk) | (rw [su_ne _ _ nx]; exact hx) | (rw [su_ne _ _ ny']; exact hy)) ((vp_in_nI (show k + 1 < 13 by omega) (by decide) : vp_in (nI (k + 1)) 13)) ?_
        first
        | (refine fin _ _ ?_; rw [if_pos (bI_ne0.mp zc32), ey, lN_i, nI_clamp (show yy < 2 ^ 31 by omega)]; exact hmk yy hyy)
        | (refine fin _ _ ?_; rw [if_neg (bI_eq0.mp zc32)])
      · refine g_aload dX3_work_35 rfl ?_
        refine g_aload_n (i := 0) dX3_work_37 rfl rfl ?_
        refine g_getf dX3_work_38 flX3_18 (by first | exact su_self _ _ _ | (rw [su_ne _ _ nb]; exact h0) | (rw [su_ne _ _ nk]; exact hk) | (rw [su_ne _ _ nx]; exact hx) | (rw [su_ne _ _ ny']; exact hy)) rfl ?_
        refine g_iload dX3_work_41 rfl ?_
        refine g_lald dX3_work_43 (by first | exact su_self _ _ _ | (rw [su_ne _ _ nb]; exact h0) | (rw [su_ne _ _ nk]; exact hk) | (rw [su_ne _ _ nx]; exact hx) | (rw [su_ne _ _ ny']; exact hy)) (hI) ?_
        obtain ⟨yy, hyy, ey⟩ := hop (bI_ne0.mp zc32)
        refine g_tol (lN yy) (by rw [hck, ← ey]; exact e3) ?_
        refine g_l2i dX3_work_44 ?_
        refine g_toi (nI yy) (lN_i yy) ?_
        refine g_lald dX3_work_45 (by first | exact su_self _ _ _ | (rw [su_ne _ _ nb]; exact h0) | (rw [su_ne _ _ nk]; exact hk) | (rw [su_ne _ _ nx]; exact hx) | (rw [su_ne _ _ ny']; exact hy)) ((vp_in_nI (show yy < 13 by omega) (by decide) : vp_in (nI yy) 13)) ?_
        refine g_goto (tgt := 56) dX3_work_46 (by decide) ?_
        refine g_lstore (ls' := [_, _, _, _, _, _, _, _]) dX3_work_56 (by decide) rfl rfl ?_
        refine g_aload dX3_work_58 rfl ?_
        refine g_iload dX3_work_60 rfl ?_
        refine g_iconst (v := 1) dX3_work_62 (by decide) ?_
        refine g_iadd dX3_work_63 ?_
        rw [nI_1]
        refine g_aload_n (i := 0) dX3_work_64 rfl rfl ?_
        refine g_getf dX3_work_65 flX3_22 (by first | exact su_self _ _ _ | (rw [su_ne _ _ nb]; exact h0) | (rw [su_ne _ _ nk]; exact hk) | (rw [su_ne _ _ nx]; exact hx) | (rw [su_ne _ _ ny']; exact hy)) rfl ?_
        refine g_aload_n (i := 0) dX3_work_68 rfl rfl ?_
        refine g_getf dX3_work_69 flX3_9 (by first | exact su_self _ _ _ | (rw [su_ne _ _ nb]; exact h0) | (rw [su_ne _ _ nk]; exact hk) | (rw [su_ne _ _ nx]; exact hx) | (rw [su_ne _ _ ny']; exact hy)) rfl ?_
        refine g_iload dX3_work_72 rfl ?_
        refine g_iald dX3_work_74 (by first | exact su_self _ _ _ | (rw [su_ne _ _ nb]; exact h0) | (rw [su_ne _ _ nk]; exact hk) | (rw [su_ne _ _ nx]; exact hx) | (rw [su_ne _ _ ny']; exact hy)) (hI) ?_
        refine g_toi s.1 (by rw [hck]; exact e1) ?_
        refine g_aload dX3_work_75 rfl ?_
        refine g_aload_n (i := 0) dX3_work_77 rfl rfl ?_
        refine g_getf dX3_work_78 flX3_15 (by first | exact su_self _ _ _ | (rw [su_ne _ _ nb]; exact h0) | (rw [su_ne _ _ nk]; exact hk) | (rw [su_ne _ _ nx]; exact hx) | (rw [su_ne _ _ ny']; exact hy)) rfl ?_
        refine g_iload dX3_work_81 rfl ?_
        refine g_iald dX3_work_83 (by first | exact su_self _ _ _ | (rw [su_ne _ _ nb]; exact h0) | (rw [su_ne _ _ nk]; exact hk) | (rw [su_ne _ _ nx]; exact hx) | (rw [su_ne _ _ ny']; exact hy)) (hI) ?_
        refine g_toi (nI xx) (by rw [hck, ← ex]; exact e2) ?_
        refine g_lald dX3_work_84 (by first | exact su_self _ _ _ | (rw [su_ne _ _ nb]; exact h0) | (rw [su_ne _ _ nk]; exact hk) | (rw [su_ne _ _ nx]; exact hx) | (rw [su_ne _ _ ny']; exact hy)) ((vp_in_nI (show xx < 13 by omega) (by decide) : vp_in (nI xx) 13)) ?_
        refine g_lload dX3_work_85 rfl ?_
        refine g_callSl (My := mX6_apply) [_, _, _, _] dX3_work_87 lkX3_41 mvX6_apply rfl (c_X6_apply _ _ _ _) (by decide) (by decide) (by decide) rfl (Nat.le_of_ble_eq_true rfl) (fun zr87 σ zh87 => ?_)
        obtain ⟨ze87, zf87⟩ := zh87
        rw [ze87, zf87]
        refine g_last dX3_work_90 (by first | exact su_self _ _ _ | (rw [su_ne _ _ nb]; exact h0) | (rw [su_ne _ _ nk]; exact hk) | (rw [su_ne _ _ nx]; exact hx) | (rw [su_ne _ _ ny']; exact hy)) ((vp_in_nI (show k + 1 < 13 by omega) (by decide) : vp_in (nI (k + 1)) 13)) ?_
        first
        | (refine fin _ _ ?_; rw [if_pos (bI_ne0.mp zc32), ey, lN_i, nI_clamp (show yy < 2 ^ 31 by omega)]; exact hmk yy hyy)
        | (refine fin _ _ ?_; rw [if_neg (bI_eq0.mp zc32)])
theorem c_X3_work {σ : gH} {b ka xa ya ma : Nat} {cnt : Int32} {kf xf : Nat → Int32} {yf : Nat → Int64} {g : aF} (hw : wfF g) (h0 : σ b = some (gO 2 [.int g.1, .int cnt, .ref ka, .ref xa, .ref ya])) (hk : σ ka = some (gAi 12 kf)) (hx : σ xa = some (gAi 12 xf)) (hy : σ ya = some (gAl 12 yf)) {mk0 : Nat → Int64} (hm : σ ma = some (gAl 13 mk0)) {m : Nat} (hm12 : m ≤ g.2.length) (hst : stR g.2 kf xf yf) (v : Int64) : Ct l mX3_work 4 0 0 [.ref b, .long v, .int (nI m), .ref ma] σ (pV fun σ' => ∃ mk, σ' = su σ ma (gAl 13 mk) ∧ ∀ i, i ≤ m → mk i = opA g.1 g.2 v m i) := by
  refine Ct_of moX3_work [some (.ref b), some (.long v), none, some (.int (nI m)), some (.ref ma), none, none, none] rfl (Nat.le_of_ble_eq_true rfl) ?_
  refine g_aload dX3_work_0 rfl ?_
  refine g_iconst (v := 0) dX3_work_2 (by decide) ?_
  refine g_lload_n (i := 1) dX3_work_3 rfl rfl ?_
  refine g_aload_n (i := 0) dX3_work_4 rfl rfl ?_
  refine g_getf dX3_work_5 flX3_22 (by first | exact h0 | exact hm) rfl ?_
  refine g_callSl (My := mX2_mask) [_] dX3_work_8 lkX3_29 mvX2_mask rfl (c_X2_mask _) (by decide) (by decide) (by decide) rfl (Nat.le_of_ble_eq_true rfl) (fun zr8 σ zh8 => ?_)
  obtain ⟨ze8, zf8⟩ := zh8
  rw [ze8, zf8]
  refine g_land dX3_work_11 ?_
  rw [low_eq _ hw.1]
  refine g_last dX3_work_12 (by first | exact h0 | exact hm) ((vp_in_nI (n := 0) (show 0 < 13 by omega) (by decide) : vp_in (nI 0) 13)) ?_
  refine g_iconst (v := 0) dX3_work_13 (by decide) ?_
  refine g_istore (ls' := [_, _, _, _, _, _, _, _]) dX3_work_14 (by decide) rfl rfl ?_
  refine lp_X3_work hw h0 hk hx hy hm hm12 hst v (fun mk h => ⟨rfl, mk, rfl, h⟩) m 0 _ _ (by omega) (fun i hi => ?_)
  obtain rfl : i = 0 := by omega
  rfl
end CForm
