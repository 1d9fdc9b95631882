/-! the reference: pieces of least() -/
def t8 (tl : Nat → Int64) (p : Nat) : Int64 := tl p &&& 255
def mayB (tl : Nat → Int64) (kind : Int32) (p : Nat) : Prop := ¬ (isCt kind ∧ 7 < t8 tl p) ∧ ∀ q, q < p → ¬ t8 tl q = t8 tl p
section CMleast1
variable {l : Launch} {o : Nat} {ad : Nat → Nat} {S : mS} {σ : gH}
theorem lp_X11_mayBe (hM : Mm σ o ad S) (kind : Int32) {p : Nat} (hp4 : p < 4) (hc : ¬ (isCt kind ∧ 7 < t8 (S.2.2.2 27) p)) : ∀ (n k : Nat), k + n = p → (∀ q, q < k → ¬ t8 (S.2.2.2 27) q = t8 (S.2.2.2 27) p) → G l mX11_mayBe 2 0 0 (pI fun r σ' => r = bI (mayB (S.2.2.2 27) kind p) ∧ σ' = σ) σ 31 [some (.ref o), some (.int kind), some (.int (nI p)), some (.long (t8 (S.2.2.2 27) p)), none, some (.int (nI k))] [] := by
  intro n
  induction n with
  | zero =>
    intro k hk hq
    obtain rfl : k = p := by omega
    refine g_iload dX11_mayBe_31 rfl ?_
    refine g_iload_n (i := 2) dX11_mayBe_33 rfl rfl ?_
    refine g_icmp_ge (tgt := 61) dX11_mayBe_34 (by decide) (fun zc34 => ?_) (fun zc34 => ?_)
    · refine g_iconst (v := 1) dX11_mayBe_61 (by decide) ?_
      refine g_zret dX11_mayBe_62 rfl (rfl) ?_
      exact ⟨_, rfl, Eq.symm (bI_t ⟨hc, hq⟩), rfl⟩
    · exact absurd (nI_le (Nat.le_refl _) (by omega)) zc34
  | succ n ih =>
    intro k hk hq
    have hck : (nI k).toNatClampNeg = k := nI_clamp (by omega)
    refine g_iload dX11_mayBe_31 rfl ?_
    refine g_iload_n (i := 2) dX11_mayBe_33 rfl rfl ?_
    refine g_icmp_ge (tgt := 61) dX11_mayBe_34 (by decide) (fun zc34 => ?_) (fun zc34 => ?_)
    · exact absurd zc34 (nI_ge (by omega) (by omega))
    · refine g_aload_n (i := 0) dX11_mayBe_37 rfl rfl ?_
      refine gm_get hM (k := 27) dX11_mayBe_38 flX11_56 rfl ?_
      refine g_iload dX11_mayBe_41 rfl ?_
      refine gm_lald hM dX11_mayBe_43 rfl ((vp_in_nI (show k < 4 by omega) (by decide) : vp_in (nI k) 4)) ?_
      rw [hck]
      refine g_ldc2 (v := 255) dX11_mayBe_44 klX11_261 ?_
      refine g_land dX11_mayBe_47 ?_
      refine g_lload_n (i := 3) dX11_mayBe_48 rfl rfl ?_
      refine g_lcmp dX11_mayBe_49 ?_
      refine g_if_ne (tgt := 55) dX11_mayBe_50 (by decide) (fun zc50 => ?_) (fun zc50 => ?_)
      · refine g_iinc (v := _ + 1) (ls' := [_, _, _, _, _, _]) dX11_mayBe_55 rfl rfl (by decide) rfl rfl ?_
        refine g_goto (tgt := 31) dX11_mayBe_58 (by decide) ?_
        refine g_cl (by rw [nI_1]) (ih (k + 1) (by omega) (fun q hql => ?_))
        by_cases e : q = k
        · subst e; exact fun z => zc50 ((lg_cmp_eq _ _).mpr z)
        · exact hq q (by omega)
      · refine g_iconst (v := 0) dX11_mayBe_53 (by decide) ?_
        refine g_zret dX11_mayBe_54 rfl (rfl) ?_
        exact ⟨_, rfl, Eq.symm (bI_f (fun z => z.2 k (by omega) ((lg_cmp_eq _ _).mp zc50))), rfl⟩
theorem c_X11_mayBe (hM : Mm σ o ad S) (kind : Int32) {p : Nat} (hp4 : p < 4) : Ct l mX11_mayBe 2 0 0 [.ref o, .int kind, .int (nI p)] σ (pI fun r σ' => r = bI (mayB (S.2.2.2 27) kind p) ∧ σ' = σ) := by
  have hcp : (nI p).toNatClampNeg = p := nI_clamp (by omega)
  refine Ct_of moX11_mayBe [some (.ref o), some (.int kind), some (.int (nI p)), none, none, none] rfl (Nat.le_of_ble_eq_true rfl) ?_
  refine g_aload_n (i := 0) dX11_mayBe_0 rfl rfl ?_
  refine gm_get hM (k := 27) dX11_mayBe_1 flX11_56 rfl ?_
  refine g_iload_n (i := 2) dX11_mayBe_4 rfl rfl ?_
  refine gm_lald hM dX11_mayBe_5 rfl ((vp_in_nI (show p < 4 by omega) (by decide) : vp_in (nI p) 4)) ?_
  rw [hcp]
  refine g_ldc2 (v := 255) dX11_mayBe_6 klX11_261 ?_
  refine g_land dX11_mayBe_9 ?_
  refine g_lstore_n (i := 3) (ls' := [_, _, _, _, _, _]) dX11_mayBe_10 rfl (by decide) rfl rfl ?_
  refine g_iload_n (i := 1) dX11_mayBe_11 rfl rfl ?_
  refine g_callSi (My := mX11_takesCount) [_] dX11_mayBe_12 lkX11_140 mvX11_takesCount rfl (c_X11_takesCount _) (by decide) (by decide) (by decide) rfl (Nat.le_of_ble_eq_true rfl) (fun zr12 σ zh12 => ?_)
  obtain ⟨rfl, rfl⟩ := zh12
  refine g_if_eq (tgt := 28) dX11_mayBe_15 (by decide) (fun zc15 => ?_) (fun zc15 => ?_)
  · refine g_iconst (v := 0) dX11_mayBe_28 (by decide) ?_
    refine g_istore (ls' := [_, _, _, _, _, _]) dX11_mayBe_29 (by decide) rfl rfl ?_
    first
    | exact lp_X11_mayBe hM kind hp4 (fun z => bI_eq0.mp zc15 z.1) p 0 (by omega) (fun q hq => absurd hq (Nat.not_lt_zero _))
    | exact lp_X11_mayBe hM kind hp4 (fun z => absurd ((lg_cmp_le _ _).mp zc23) (Int64.not_le.mpr z.2)) p 0 (by omega) (fun q hq => absurd hq (Nat.not_lt_zero _))
  · refine g_lload_n (i := 3) dX11_mayBe_18 rfl rfl ?_
    refine g_ldc2 (v := 7) dX11_mayBe_19 klX11_263 ?_
    refine g_lcmp dX11_mayBe_22 ?_
    refine g_if_le (tgt := 28) dX11_mayBe_23 (by decide) (fun zc23 => ?_) (fun zc23 => ?_)
    · refine g_iconst (v := 0) dX11_mayBe_28 (by decide) ?_
      refine g_istore (ls' := [_, _, _, _, _, _]) dX11_mayBe_29 (by decide) rfl rfl ?_
      first
      | exact lp_X11_mayBe hM kind hp4 (fun z => bI_eq0.mp zc15 z.1) p 0 (by omega) (fun q hq => absurd hq (Nat.not_lt_zero _))
      | exact lp_X11_mayBe hM kind hp4 (fun z => absurd ((lg_cmp_le _ _).mp zc23) (Int64.not_le.mpr z.2)) p 0 (by omega) (fun q hq => absurd hq (Nat.not_lt_zero _))
    · refine g_iconst (v := 0) dX11_mayBe_26 (by decide) ?_
      refine g_zret dX11_mayBe_27 rfl (rfl) ?_
      exact ⟨_, rfl, Eq.symm (bI_f (fun z => z.1 ⟨bI_ne0.mp zc15, Int64.not_le.mp (fun q => zc23 ((lg_cmp_le _ _).mpr q))⟩)), rfl⟩
noncomputable def yOfV (tl : Nat → Int64) (kind : Int32) (y : Nat) : Int64 := by
  classical
  exact if isOp kind then (nI y).toInt64 else t8 tl y
theorem c_X11_yOf (hM : Mm σ o ad S) (kind : Int32) {y : Nat} (hy : ¬ isOp kind → y < 4) (hy31 : y < 2 ^ 31) : Ct l mX11_yOf 2 0 0 [.ref o, .int kind, .int (nI y)] σ (pL fun r σ' => r = yOfV (S.2.2.2 27) kind y ∧ σ' = σ) := by
  have hcy : (nI y).toNatClampNeg = y := nI_clamp hy31
  refine Ct_of moX11_yOf [some (.ref o), some (.int kind), some (.int (nI y))] rfl (Nat.le_of_ble_eq_true rfl) ?_
  refine g_iload_n (i := 1) dX11_yOf_0 rfl rfl ?_
  refine g_callSi (My := mX11_takesOperand) [_] dX11_yOf_1 lkX11_132 mvX11_takesOperand rfl (c_X11_takesOperand _) (by decide) (by decide) (by decide) rfl (Nat.le_of_ble_eq_true rfl) (fun zr1 σ zh1 => ?_)
  obtain ⟨rfl, rfl⟩ := zh1
  refine g_if_eq (tgt := 12) dX11_yOf_4 (by decide) (fun zc4 => ?_) (fun zc4 => ?_)
  · refine g_aload_n (i := 0) dX11_yOf_12 rfl rfl ?_
    refine gm_get hM (k := 27) dX11_yOf_13 flX11_56 rfl ?_
    refine g_iload_n (i := 2) dX11_yOf_16 rfl rfl ?_
    refine gm_lald hM dX11_yOf_17 rfl ((vp_in_nI (hy (bI_eq0.mp zc4)) (by decide) : vp_in (nI y) 4)) ?_
    rw [hcy]
    refine g_ldc2 (v := 255) dX11_yOf_18 klX11_261 ?_
    refine g_land dX11_yOf_21 ?_
    refine g_lret dX11_yOf_22 rfl ?_
    first
    | exact ⟨_, rfl, Eq.symm (if_pos (bI_ne0.mp zc4)), rfl⟩
    | exact ⟨_, rfl, Eq.symm (if_neg (bI_eq0.mp zc4)), rfl⟩
  · refine g_iload_n (i := 2) dX11_yOf_7 rfl rfl ?_
    refine g_i2l dX11_yOf_8 ?_
    refine g_goto (tgt := 22) dX11_yOf_9 (by decide) ?_
    refine g_lret dX11_yOf_22 rfl ?_
    first
    | exact ⟨_, rfl, Eq.symm (if_pos (bI_ne0.mp zc4)), rfl⟩
    | exact ⟨_, rfl, Eq.symm (if_neg (bI_eq0.mp zc4)), rfl⟩
/-- what step k of the form that is being looked at makes of v -/
noncomputable def mbV (S : mS) (k v : Nat) : Int32 := by
  classical
  exact (mAp (S.2.2.1 32 k) (S.2.2.1 29 (256 * (S.2.2.1 33 k).toNatClampNeg + v)).toInt64 (if isOp (S.2.2.1 32 k) then (S.2.2.1 29 (256 * (S.2.2.1 34 k).toNatClampNeg + v)).toInt64 else t8 (S.2.2.2 27) (S.2.2.1 34 k).toNatClampNeg) 8).toInt32
theorem ix256 (j k : Nat) : (256 : Int32) * nI j + nI k = nI (256 * j + k) := by
  rw [show (256 : Int32) = nI 256 from rfl, pk_mul, nI_add]
theorem c_X11_madeBy (hM : Mm σ o ad S) {k v : Nat} (hk : k < 3) (hv : v < 256) {x y : Nat} (hx : S.2.2.1 33 k = nI x) (hx4 : x < 4) (hy : S.2.2.1 34 k = nI y) (hy4 : y < 4) : Ct l mX11_madeBy 4 0 0 [.ref o, .int (nI k), .int (nI v)] σ (pI fun r σ' => r = mbV S k v ∧ σ' = σ) := by
  have hck : (nI k).toNatClampNeg = k := nI_clamp (by omega)
  have hcx : (nI x).toNatClampNeg = x := nI_clamp (by omega)
  have hcy : (nI y).toNatClampNeg = y := nI_clamp (by omega)
  have hcX : (nI (256 * x + v)).toNatClampNeg = 256 * x + v := nI_clamp (by omega)
  have hcY : (nI (256 * y + v)).toNatClampNeg = 256 * y + v := nI_clamp (by omega)
  have hK : vp_in (nI k) 3 := vp_in_nI hk (by decide)
  refine Ct_of moX11_madeBy [some (.ref o), some (.int (nI k)), some (.int (nI v)), none, none] rfl (Nat.le_of_ble_eq_true rfl) ?_
  refine g_aload_n (i := 0) dX11_madeBy_0 rfl rfl ?_
  refine gm_get hM (k := 32) dX11_madeBy_1 flX11_69 rfl ?_
  refine g_iload_n (i := 1) dX11_madeBy_4 rfl rfl ?_
  refine gm_iald hM dX11_madeBy_5 rfl (hK) ?_
  rw [hck]
  refine g_callSi (My := mX11_takesOperand) [_] dX11_madeBy_6 lkX11_132 mvX11_takesOperand rfl (c_X11_takesOperand _) (by decide) (by decide) (by decide) rfl (Nat.le_of_ble_eq_true rfl) (fun zr6 σ zh6 => ?_)
  obtain ⟨rfl, rfl⟩ := zh6
  refine g_if_eq (tgt := 33) dX11_madeBy_9 (by decide) (fun zc9 => ?_) (fun zc9 => ?_)
  · refine g_aload_n (i := 0) dX11_madeBy_33 rfl rfl ?_
    refine gm_get hM (k := 27) dX11_madeBy_34 flX11_56 rfl ?_
    refine g_aload_n (i := 0) dX11_madeBy_37 rfl rfl ?_
    refine gm_get hM (k := 34) dX11_madeBy_38 flX11_75 rfl ?_
    refine g_iload_n (i := 1) dX11_madeBy_41 rfl rfl ?_
    refine gm_iald hM dX11_madeBy_42 rfl (hK) ?_
    refine g_toi (nI y) (by rw [hck]; exact hy) ?_
    refine gm_lald hM dX11_madeBy_43 rfl ((vp_in_nI hy4 (by decide) : vp_in (nI y) 4)) ?_
    rw [hcy]
    refine g_ldc2 (v := 255) dX11_madeBy_44 klX11_261 ?_
    refine g_land dX11_madeBy_47 ?_
    refine g_lstore_n (i := 3) (ls' := [_, _, _, _, _]) dX11_madeBy_48 rfl (by decide) rfl rfl ?_
    refine g_aload_n (i := 0) dX11_madeBy_49 rfl rfl ?_
    refine gm_get hM (k := 32) dX11_madeBy_50 flX11_69 rfl ?_
    refine g_iload_n (i := 1) dX11_madeBy_53 rfl rfl ?_
    refine gm_iald hM dX11_madeBy_54 rfl (hK) ?_
    rw [hck]
    refine g_aload_n (i := 0) dX11_madeBy_55 rfl rfl ?_
    refine gm_get hM (k := 29) dX11_madeBy_56 flX11_59 rfl ?_
    refine g_sipush (v := 256) dX11_madeBy_59 (by decide) ?_
    refine g_aload_n (i := 0) dX11_madeBy_62 rfl rfl ?_
    refine gm_get hM (k := 33) dX11_madeBy_63 flX11_72 rfl ?_
    refine g_iload_n (i := 1) dX11_madeBy_66 rfl rfl ?_
    refine gm_iald hM dX11_madeBy_67 rfl (hK) ?_
    refine g_toi (nI x) (by rw [hck]; exact hx) ?_
    refine g_imul dX11_madeBy_68 ?_
    refine g_iload_n (i := 2) dX11_madeBy_69 rfl rfl ?_
    refine g_iadd dX11_madeBy_70 ?_
    rw [ix256]
    refine gm_iald hM dX11_madeBy_71 rfl ((vp_in_nI (show 256 * x + v < 1024 by omega) (by decide) : vp_in (nI (256 * x + v)) 1024)) ?_
    rw [hcX]
    refine g_i2l dX11_madeBy_72 ?_
    refine g_lload_n (i := 3) dX11_madeBy_73 rfl rfl ?_
    refine g_bipush (v := 8) dX11_madeBy_74 (by decide) ?_
    refine g_callSl (My := mX11_worked) [_, _, _, _] dX11_madeBy_76 lkX11_136 mvX11_worked rfl (c_X11_worked _ _ _ _) (by decide) (by decide) (by decide) rfl (Nat.le_of_ble_eq_true rfl) (fun zr76 σ zh76 => ?_)
    obtain ⟨ze76, zf76⟩ := zh76
    rw [ze76, zf76]
    refine g_l2i dX11_madeBy_79 ?_
    refine g_iret dX11_madeBy_80 rfl ?_
    first
    | exact ⟨_, rfl, by unfold mbV; rw [hx, hy, hcx, hcy, if_pos (bI_ne0.mp zc9)], rfl⟩
    | exact ⟨_, rfl, by unfold mbV; rw [hx, hy, hcx, hcy, if_neg (bI_eq0.mp zc9)]; rfl, rfl⟩
  · refine g_aload_n (i := 0) dX11_madeBy_12 rfl rfl ?_
    refine gm_get hM (k := 29) dX11_madeBy_13 flX11_59 rfl ?_
    refine g_sipush (v := 256) dX11_madeBy_16 (by decide) ?_
    refine g_aload_n (i := 0) dX11_madeBy_19 rfl rfl ?_
    refine gm_get hM (k := 34) dX11_madeBy_20 flX11_75 rfl ?_
    refine g_iload_n (i := 1) dX11_madeBy_23 rfl rfl ?_
    refine gm_iald hM dX11_madeBy_24 rfl (hK) ?_
    refine g_toi (nI y) (by rw [hck]; exact hy) ?_
    refine g_imul dX11_madeBy_25 ?_
    refine g_iload_n (i := 2) dX11_madeBy_26 rfl rfl ?_
    refine g_iadd dX11_madeBy_27 ?_
    rw [ix256]
    refine gm_iald hM dX11_madeBy_28 rfl ((vp_in_nI (show 256 * y + v < 1024 by omega) (by decide) : vp_in (nI (256 * y + v)) 1024)) ?_
    rw [hcY]
    refine g_i2l dX11_madeBy_29 ?_
    refine g_goto (tgt := 48) dX11_madeBy_30 (by decide) ?_
    refine g_lstore_n (i := 3) (ls' := [_, _, _, _, _]) dX11_madeBy_48 rfl (by decide) rfl rfl ?_
    refine g_aload_n (i := 0) dX11_madeBy_49 rfl rfl ?_
    refine gm_get hM (k := 32) dX11_madeBy_50 flX11_69 rfl ?_
    refine g_iload_n (i := 1) dX11_madeBy_53 rfl rfl ?_
    refine gm_iald hM dX11_madeBy_54 rfl (hK) ?_
    rw [hck]
    refine g_aload_n (i := 0) dX11_madeBy_55 rfl rfl ?_
    refine gm_get hM (k := 29) dX11_madeBy_56 flX11_59 rfl ?_
    refine g_sipush (v := 256) dX11_madeBy_59 (by decide) ?_
    refine g_aload_n (i := 0) dX11_madeBy_62 rfl rfl ?_
    refine gm_get hM (k := 33) dX11_madeBy_63 flX11_72 rfl ?_
    refine g_iload_n (i := 1) dX11_madeBy_66 rfl rfl ?_
    refine gm_iald hM dX11_madeBy_67 rfl (hK) ?_
    refine g_toi (nI x) (by rw [hck]; exact hx) ?_
    refine g_imul dX11_madeBy_68 ?_
    refine g_iload_n (i := 2) dX11_madeBy_69 rfl rfl ?_
    refine g_iadd dX11_madeBy_70 ?_
    rw [ix256]
    refine gm_iald hM dX11_madeBy_71 rfl ((vp_in_nI (show 256 * x + v < 1024 by omega) (by decide) : vp_in (nI (256 * x + v)) 1024)) ?_
    rw [hcX]
    refine g_i2l dX11_madeBy_72 ?_
    refine g_lload_n (i := 3) dX11_madeBy_73 rfl rfl ?_
    refine g_bipush (v := 8) dX11_madeBy_74 (by decide) ?_
    refine g_callSl (My := mX11_worked) [_, _, _, _] dX11_madeBy_76 lkX11_136 mvX11_worked rfl (c_X11_worked _ _ _ _) (by decide) (by decide) (by decide) rfl (Nat.le_of_ble_eq_true rfl) (fun zr76 σ zh76 => ?_)
    obtain ⟨ze76, zf76⟩ := zh76
    rw [ze76, zf76]
    refine g_l2i dX11_madeBy_79 ?_
    refine g_iret dX11_madeBy_80 rfl ?_
    first
    | exact ⟨_, rfl, by unfold mbV; rw [hx, hy, hcx, hcy, if_pos (bI_ne0.mp zc9)], rfl⟩
    | exact ⟨_, rfl, by unfold mbV; rw [hx, hy, hcx, hcy, if_neg (bI_eq0.mp zc9)]; rfl, rfl⟩
end CMleast1
