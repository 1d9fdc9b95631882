/-! the class's search: the list of choices -/
def chR (tl : Nat → Int64) (L : List cT) (cc : Int32) (I : Nat → Nat → Int32) (J : Nat → Nat → Int64) : Prop := cc = nI L.length ∧ L.length ≤ 144 ∧ ∀ (i : Nat) (t : cT), L[i]? = some t → I 17 i = nI t.1 ∧ I 18 i = nI t.2.1 ∧ J 19 i = yOfV tl (nI t.1) t.2.2 ∧ I 20 i = us t
theorem chR_add {tl : Nat → Int64} {L : List cT} {I I' : Nat → Nat → Int32} {J J' : Nat → Nat → Int64} {cc : Int32} (h : chR tl L cc I J) (hl : L.length < 144) {t : cT} (e17 : I' 17 = upd (I 17) L.length (nI t.1)) (e18 : I' 18 = upd (I 18) L.length (nI t.2.1)) (e19 : J' 19 = vp_updL (J 19) L.length (yOfV tl (nI t.1) t.2.2)) (e20 : I' 20 = upd (I 20) L.length (us t)) : chR tl (L ++ [t]) (nI (L.length + 1)) I' J' := by
  refine ⟨by rw [List.length_append]; rfl, by rw [List.length_append]; exact hl, fun i s hs => ?_⟩
  rw [e17, e18, e19, e20]
  by_cases e : i < L.length
  · rw [List.getElem?_append_left e] at hs
    obtain ⟨a, b, c, d⟩ := h.2.2 i s hs
    exact ⟨(pk_un (by omega)).trans a, (pk_un (by omega)).trans b, (if_neg (show ¬ i = L.length by omega)).trans c, (pk_un (by omega)).trans d⟩
  · have hk : i = L.length := by
      have := (List.getElem?_eq_some_iff.mp hs).1
      simp at this
      omega
    subst hk
    simp at hs
    subst hs
    exact ⟨pk_us, pk_us, if_pos rfl, pk_us⟩
def noJ (I I' : Nat → Nat → Int32) (J J' : Nat → Nat → Int64) : Prop := (∀ k, k ∉ [17, 18, 20] → I' k = I k) ∧ (∀ k, k ≠ 19 → J' k = J k)
theorem noJ.rf (I : Nat → Nat → Int32) (J : Nat → Nat → Int64) : noJ I I J J := ⟨fun _ _ => rfl, fun _ _ => rfl⟩
theorem noJ.tr {I I' I'' : Nat → Nat → Int32} {J J' J'' : Nat → Nat → Int64} (h : noJ I I' J J') (h' : noJ I' I'' J' J'') : noJ I I'' J J'' := ⟨fun k hk => (h'.1 k hk).trans (h.1 k hk), fun k hk => (h'.2 k hk).trans (h.2 k hk)⟩
/-- after choices were added -/
def chP (τ : gH) (ow : Nat → Nat) (sr : Nat) (ad : Nat → Nat) (tl : Nat → Int64) (ac bc bl : Int32) (I : Nat → Nat → Int32) (J : Nat → Nat → Int64) (L : List cT) (σ' : gH) : Prop := ∃ cc I' J', SeY τ σ' ow sr ad (ac, cc, bc, bl) I' J' ∧ chR tl L cc I' J' ∧ noJ I I' J J'
section CSea
variable {l : Launch} {τ σ : gH} {ow : Nat → Nat} {sr : Nat} {ad : Nat → Nat} {ac cc bc bl : Int32} {I : Nat → Nat → Int32} {J : Nat → Nat → Int64} {tl : Nat → Int64} {L : List cT}
theorem c_X8_addChoice (hS : SeY τ σ ow sr ad (ac, cc, bc, bl) I J) (hc : chR tl L cc I J) (hl : L.length < 144) (kk xx yy : Nat) {y : Int64} (hy : y = yOfV tl (nI kk) yy) {u : Int32} (hu : u = us (kk, xx, yy)) : Ct l mX8_addChoice 1 0 0 [.ref sr, .int (nI kk), .int (nI xx), .long y, .int u] σ (pV (chP τ ow sr ad tl ac bc bl I J (L ++ [(kk, xx, yy)]))) := by
  obtain rfl := hc.1
  have hI : vp_in (nI L.length) 144 := vp_in_nI hl (by decide)
  have hcn : (nI L.length).toNatClampNeg = L.length := nI_clamp (by omega)
  refine Ct_of moX8_addChoice [some (.ref sr), some (.int (nI kk)), some (.int (nI xx)), some (.long y), none, some (.int u)] rfl (Nat.le_of_ble_eq_true rfl) ?_
  refine g_aload_n (i := 0) dX8_addChoice_0 rfl rfl ?_
  refine g_getf dX8_addChoice_1 flX8_75 (by first | exact hS.1.1.1 | exact hS.1.2.2.2.2.1.1 | exact hS.1.2.2.2.2.2.1.1 | exact hS.1.2.2.2.2.2.2.1.1 | exact hS.1.2.2.2.2.2.2.2.1.1) rfl ?_
  refine g_sipush (v := 144) dX8_addChoice_4 (by decide) ?_
  refine g_icmp_ge (tgt := 61) dX8_addChoice_7 (by decide) (fun zc7 => ?_) (fun zc7 => ?_)
  · exact absurd zc7 (nI_ge (b := 144) hl (by decide))
  · refine g_aload_n (i := 0) dX8_addChoice_10 rfl rfl ?_
    refine g_getf dX8_addChoice_11 flX8_27 (by first | exact hS.1.1.1 | exact hS.1.2.2.2.2.1.1 | exact hS.1.2.2.2.2.2.1.1 | exact hS.1.2.2.2.2.2.2.1.1 | exact hS.1.2.2.2.2.2.2.2.1.1) rfl ?_
    refine g_aload_n (i := 0) dX8_addChoice_14 rfl rfl ?_
    refine g_getf dX8_addChoice_15 flX8_75 (by first | exact hS.1.1.1 | exact hS.1.2.2.2.2.1.1 | exact hS.1.2.2.2.2.2.1.1 | exact hS.1.2.2.2.2.2.2.1.1 | exact hS.1.2.2.2.2.2.2.2.1.1) rfl ?_
    refine g_iload_n (i := 1) dX8_addChoice_18 rfl rfl ?_
    refine g_iast dX8_addChoice_19 (by first | exact hS.1.1.1 | exact hS.1.2.2.2.2.1.1 | exact hS.1.2.2.2.2.2.1.1 | exact hS.1.2.2.2.2.2.2.1.1 | exact hS.1.2.2.2.2.2.2.2.1.1) (hI) ?_
    have hS := hS.w17 (upd (I 17) (nI L.length).toNatClampNeg (nI kk))
    refine g_aload_n (i := 0) dX8_addChoice_20 rfl rfl ?_
    refine g_getf dX8_addChoice_21 flX8_30 (by first | exact hS.1.1.1 | exact hS.1.2.2.2.2.1.1 | exact hS.1.2.2.2.2.2.1.1 | exact hS.1.2.2.2.2.2.2.1.1 | exact hS.1.2.2.2.2.2.2.2.1.1) rfl ?_
    refine g_aload_n (i := 0) dX8_addChoice_24 rfl rfl ?_
    refine g_getf dX8_addChoice_25 flX8_75 (by first | exact hS.1.1.1 | exact hS.1.2.2.2.2.1.1 | exact hS.1.2.2.2.2.2.1.1 | exact hS.1.2.2.2.2.2.2.1.1 | exact hS.1.2.2.2.2.2.2.2.1.1) rfl ?_
    refine g_iload_n (i := 2) dX8_addChoice_28 rfl rfl ?_
    refine g_iast dX8_addChoice_29 (by first | exact hS.1.1.1 | exact hS.1.2.2.2.2.1.1 | exact hS.1.2.2.2.2.2.1.1 | exact hS.1.2.2.2.2.2.2.1.1 | exact hS.1.2.2.2.2.2.2.2.1.1) (hI) ?_
    have hS := hS.w18 (upd (I 18) (nI L.length).toNatClampNeg (nI xx))
    refine g_aload_n (i := 0) dX8_addChoice_30 rfl rfl ?_
    refine g_getf dX8_addChoice_31 flX8_33 (by first | exact hS.1.1.1 | exact hS.1.2.2.2.2.1.1 | exact hS.1.2.2.2.2.2.1.1 | exact hS.1.2.2.2.2.2.2.1.1 | exact hS.1.2.2.2.2.2.2.2.1.1) rfl ?_
    refine g_aload_n (i := 0) dX8_addChoice_34 rfl rfl ?_
    refine g_getf dX8_addChoice_35 flX8_75 (by first | exact hS.1.1.1 | exact hS.1.2.2.2.2.1.1 | exact hS.1.2.2.2.2.2.1.1 | exact hS.1.2.2.2.2.2.2.1.1 | exact hS.1.2.2.2.2.2.2.2.1.1) rfl ?_
    refine g_lload_n (i := 3) dX8_addChoice_38 rfl rfl ?_
    refine g_last dX8_addChoice_39 (by first | exact hS.1.1.1 | exact hS.1.2.2.2.2.1.1 | exact hS.1.2.2.2.2.2.1.1 | exact hS.1.2.2.2.2.2.2.1.1 | exact hS.1.2.2.2.2.2.2.2.1.1) (hI) ?_
    have hS := hS.w19 (vp_updL (J 19) (nI L.length).toNatClampNeg y)
    refine g_aload_n (i := 0) dX8_addChoice_40 rfl rfl ?_
    refine g_getf dX8_addChoice_41 flX8_36 (by first | exact hS.1.1.1 | exact hS.1.2.2.2.2.1.1 | exact hS.1.2.2.2.2.2.1.1 | exact hS.1.2.2.2.2.2.2.1.1 | exact hS.1.2.2.2.2.2.2.2.1.1) rfl ?_
    refine g_aload_n (i := 0) dX8_addChoice_44 rfl rfl ?_
    refine g_getf dX8_addChoice_45 flX8_75 (by first | exact hS.1.1.1 | exact hS.1.2.2.2.2.1.1 | exact hS.1.2.2.2.2.2.1.1 | exact hS.1.2.2.2.2.2.2.1.1 | exact hS.1.2.2.2.2.2.2.2.1.1) rfl ?_
    refine g_iload dX8_addChoice_48 rfl ?_
    refine g_iast dX8_addChoice_50 (by first | exact hS.1.1.1 | exact hS.1.2.2.2.2.1.1 | exact hS.1.2.2.2.2.2.1.1 | exact hS.1.2.2.2.2.2.2.1.1 | exact hS.1.2.2.2.2.2.2.2.1.1) (hI) ?_
    have hS := hS.w20 (upd (I 20) (nI L.length).toNatClampNeg u)
    refine g_aload_n (i := 0) dX8_addChoice_51 rfl rfl ?_
    refine g_dup dX8_addChoice_52 rfl ?_
    refine g_getf dX8_addChoice_53 flX8_75 (by first | exact hS.1.1.1 | exact hS.1.2.2.2.2.1.1 | exact hS.1.2.2.2.2.2.1.1 | exact hS.1.2.2.2.2.2.2.1.1 | exact hS.1.2.2.2.2.2.2.2.1.1) rfl ?_
    refine g_iconst (v := 1) dX8_addChoice_56 (by decide) ?_
    refine g_iadd dX8_addChoice_57 ?_
    refine g_putf (fs' := [_, _, _, _, _, _, _, _, _, _, _, _, _, _]) dX8_addChoice_58 flX8_75 fp6_5 (by first | exact hS.1.1.1 | exact hS.1.2.2.2.2.1.1 | exact hS.1.2.2.2.2.2.1.1 | exact hS.1.2.2.2.2.2.2.1.1 | exact hS.1.2.2.2.2.2.2.2.1.1) rfl rfl (Nat.le_of_ble_eq_true rfl) rfl ?_
    have hS := hS.w8 ac (nI L.length + 1) bc bl
    refine g_vret dX8_addChoice_61 rfl ?_
    refine ⟨rfl, _, _, _, hS, ?_, ?_⟩
    · rw [nI_1, hcn]
      exact chR_add hc hl rfl rfl (by rw [← hy]; rfl) (by rw [← hu]; rfl)
    · refine ⟨fun k hk => ?_, fun k hk => va_up_ne _ _ hk⟩
      simp only [List.mem_cons, List.not_mem_nil, or_false, not_or] at hk
      rw [va_up_ne _ _ hk.2.2, va_up_ne _ _ hk.2.1, va_up_ne _ _ hk.1]
theorem lp_X8_stood {b : Nat} {f : Nat → Int64} (hb : σ b = some (gAl 4 f)) {p : Nat} (hp4 : p < 4) (y : Int64) : ∀ (n k : Nat), k + n = p → (∀ q, q < k → ¬ t8 f q = y) → G l mX8_stoodBefore 2 0 0 (pI fun r σ' => r = bI (∃ q, q < p ∧ t8 f q = y) ∧ σ' = σ) σ 3 [some (.ref b), some (.int (nI p)), some (.long y), none, some (.int (nI k))] [] := by
  intro n
  induction n with
  | zero =>
    intro k hk hq
    obtain rfl : k = p := by omega
    refine g_iload dX8_stoodBefore_3 rfl ?_
    refine g_iload_n (i := 1) dX8_stoodBefore_5 rfl rfl ?_
    refine g_icmp_ge (tgt := 32) dX8_stoodBefore_6 (by decide) (fun zc6 => ?_) (fun zc6 => ?_)
    · refine g_iconst (v := 0) dX8_stoodBefore_32 (by decide) ?_
      refine g_zret dX8_stoodBefore_33 rfl (rfl) ?_
      exact ⟨_, rfl, (bI_f (fun ⟨q, h1, h2⟩ => hq q h1 h2)).symm, rfl⟩
    · exact absurd (nI_le (Nat.le_refl _) (by omega)) zc6
  | succ n ih =>
    intro k hk hq
    refine g_iload dX8_stoodBefore_3 rfl ?_
    refine g_iload_n (i := 1) dX8_stoodBefore_5 rfl rfl ?_
    refine g_icmp_ge (tgt := 32) dX8_stoodBefore_6 (by decide) (fun zc6 => ?_) (fun zc6 => ?_)
    · exact absurd zc6 (nI_ge (by omega) (by omega))
    · refine g_aload_n (i := 0) dX8_stoodBefore_9 rfl rfl ?_
      refine g_iload dX8_stoodBefore_10 rfl ?_
      refine g_lald dX8_stoodBefore_12 (hb) ((vp_in_nI (show k < 4 by omega) (by decide) : vp_in (nI k) 4)) ?_
      rw [nI_clamp (show k < 2 ^ 31 by omega)]
      refine g_bipush (v := 8) dX8_stoodBefore_13 (by decide) ?_
      refine g_callSl (My := mX2_mask) [_] dX8_stoodBefore_15 lkX8_92 mvX2_mask rfl (c_X2_mask _) (by decide) (by decide) (by decide) rfl (Nat.le_of_ble_eq_true rfl) (fun zr15 σ zh15 => ?_)
      obtain ⟨ze15, zf15⟩ := zh15
      rw [ze15, zf15]
      refine g_land dX8_stoodBefore_18 ?_
      refine g_lload_n (i := 2) dX8_stoodBefore_19 rfl rfl ?_
      refine g_lcmp dX8_stoodBefore_20 ?_
      refine g_if_ne (tgt := 26) dX8_stoodBefore_21 (by decide) (fun zc21 => ?_) (fun zc21 => ?_)
      · refine g_iinc (v := _ + 1) (ls' := [_, _, _, _, _]) dX8_stoodBefore_26 rfl rfl (by decide) rfl rfl ?_
        refine g_goto (tgt := 3) dX8_stoodBefore_29 (by decide) ?_
        refine g_cl (by rw [nI_1]) (ih (k + 1) (by omega) (fun q hq' => ?_))
        by_cases e : q = k
        · subst e
          exact fun z => zc21 ((lg_cmp_eq _ _).mpr z)
        · exact hq q (by omega)
      · refine g_iconst (v := 1) dX8_stoodBefore_24 (by decide) ?_
        refine g_zret dX8_stoodBefore_25 rfl (rfl) ?_
        exact ⟨_, rfl, (bI_t ⟨k, by omega, (lg_cmp_eq _ _).mp zc21⟩).symm, rfl⟩
theorem c_X8_stoodBefore {b : Nat} {f : Nat → Int64} (hb : σ b = some (gAl 4 f)) {p : Nat} (hp4 : p < 4) (y : Int64) : Ct l mX8_stoodBefore 2 0 0 [.ref b, .int (nI p), .long y] σ (pI fun r σ' => r = bI (∃ q, q < p ∧ t8 f q = y) ∧ σ' = σ) := by
  refine Ct_of moX8_stoodBefore [some (.ref b), some (.int (nI p)), some (.long y), none, none] rfl (Nat.le_of_ble_eq_true rfl) ?_
  refine g_iconst (v := 0) dX8_stoodBefore_0 (by decide) ?_
  refine g_istore (ls' := [_, _, _, _, _]) dX8_stoodBefore_1 (by decide) rfl rfl ?_
  exact lp_X8_stood hb hp4 y p 0 (by omega) (fun q hq => absurd hq (by omega))
theorem t8_78 (f : Nat → Int64) (k : Nat) : 7 < t8 f k ↔ (8 : Int64) ≤ t8 f k := by
  rw [Int64.lt_iff_toInt_lt, Int64.le_iff_toInt_le]
  have e7 : (7 : Int64).toInt = 7 := by decide
  have e8 : (8 : Int64).toInt = 8 := by decide
  rw [e7, e8]
  omega
theorem lp_X8_listTold {b : Nat} {f : Nat → Int64} (hb : Pt τ ow b 3 (gAl 4 f)) {kk xx : Nat} (hx : xx < 3) (hop : ¬ isOp (nI kk)) {I0 : Nat → Nat → Int32} {J0 : Nat → Nat → Int64} : ∀ (n k : Nat) (σ : gH) (cc : Int32) (I : Nat → Nat → Int32) (J : Nat → Nat → Int64) (L : List cT) (v5 v6 v7 : Option Value), k + n = 4 → SeY τ σ ow sr ad (ac, cc, bc, bl) I J → chR f L cc I J → noJ I0 I J0 J → L.length + (lY f kk xx (List.range' k n)).length ≤ 144 → G l mX8_listTold 3 0 0 (pV (chP τ ow sr ad f ac bc bl I0 J0 (L ++ lY f kk xx (List.range' k n)))) σ 3 [some (.ref sr), some (.int (nI kk)), some (.int (nI xx)), some (.ref b), some (.int (nI k)), v5, v6, v7] [] := by
  intro n
  induction n with
  | zero =>
    intro k σ cc I J L v5 v6 v7 hk hS hc hn hl
    obtain rfl : k = 4 := by omega
    refine g_iload dX8_listTold_3 rfl ?_
    refine g_iconst (v := 4) dX8_listTold_5 (by decide) ?_
    refine g_icmp_ge (tgt := 77) dX8_listTold_6 (by decide) (fun zc6 => ?_) (fun zc6 => ?_)
    · refine g_vret dX8_listTold_77 rfl ?_
      exact ⟨rfl, _, _, _, hS, by rw [show lY f kk xx (List.range' 4 0) = [] from rfl, List.append_nil]; exact hc, hn⟩
    · exact absurd (nI_le (Nat.le_refl 4) (by omega)) zc6
  | succ n ih =>
    intro k σ cc I J L v5 v6 v7 hk hS hc hn hl
    rw [show List.range' k (n + 1) = k :: List.range' (k + 1) n from rfl] at hl ⊢
    have hkc : (nI k).toNatClampNeg = k := nI_clamp (by omega)
    by_cases hct : isCt (nI kk) ∧ 7 < t8 f k
    · have hpy : ¬ pY f kk k := fun z => z.elim hop (fun q => q.1 hct)
      rw [lY_f hpy] at hl ⊢
      refine g_iload dX8_listTold_3 rfl ?_
      refine g_iconst (v := 4) dX8_listTold_5 (by decide) ?_
      refine g_icmp_ge (tgt := 77) dX8_listTold_6 (by decide) (fun zc6 => ?_) (fun zc6 => ?_)
      · exact absurd zc6 (nI_ge (b := 4) (by omega) (by omega))
      · refine g_aload_n (i := 3) dX8_listTold_9 rfl rfl ?_
        refine g_iload dX8_listTold_10 rfl ?_
        refine g_lald dX8_listTold_12 (by first | exact hS.1.1.1 | exact (hb.mono hS.2 (by decide)).1) ((vp_in_nI (show k < 4 by omega) (by decide) : vp_in (nI k) 4)) ?_
        rw [hkc]
        refine g_bipush (v := 8) dX8_listTold_13 (by decide) ?_
        refine g_callSl (My := mX2_mask) [_] dX8_listTold_15 lkX8_92 mvX2_mask rfl (c_X2_mask _) (by decide) (by decide) (by decide) rfl (Nat.le_of_ble_eq_true rfl) (fun zr15 σ zh15 => ?_)
        obtain ⟨ze15, zf15⟩ := zh15
        rw [ze15, zf15]
        refine g_land dX8_listTold_18 ?_
        refine g_lstore (ls' := [_, _, _, _, _, _, _, _]) dX8_listTold_19 (by decide) rfl rfl ?_
        refine g_iload_n (i := 1) dX8_listTold_21 rfl rfl ?_
        refine g_callSi (My := mX6_takesCount) [_] dX8_listTold_22 lkX8_98 mvX6_takesCount rfl (c_X6_takesCount _) (by decide) (by decide) (by decide) rfl (Nat.le_of_ble_eq_true rfl) (fun zr22 σ zh22 => ?_)
        obtain ⟨ze22, zf22⟩ := zh22
        rw [ze22, zf22]
        refine g_if_eq (tgt := 37) dX8_listTold_25 (by decide) (fun zc25 => ?_) (fun zc25 => ?_)
        · exact absurd hct.1 (bI_eq0.mp zc25)
        · refine g_lload dX8_listTold_28 rfl ?_
          refine g_ldc2 (v := 8) dX8_listTold_30 klX8_101 ?_
          refine g_lcmp dX8_listTold_33 ?_
          refine g_if_ge (tgt := 41) dX8_listTold_34 (by decide) (fun zc34 => ?_) (fun zc34 => ?_)
          · refine g_iconst (v := 0) dX8_listTold_41 (by decide) ?_
            refine g_istore (ls' := [_, _, _, _, _, _, _, _]) dX8_listTold_42 (by decide) rfl rfl ?_
            refine g_iload dX8_listTold_44 rfl ?_
            refine g_if_eq (tgt := 71) dX8_listTold_46 (by decide) (fun zc46 => ?_) (fun zc46 => ?_)
            · refine g_iinc (v := _ + 1) (ls' := [_, _, _, _, _, _, _, _]) dX8_listTold_71 rfl rfl (by decide) rfl rfl ?_
              refine g_goto (tgt := 3) dX8_listTold_74 (by decide) ?_
              exact g_cl (by rw [nI_1]) (ih (k + 1) _ _ _ _ _ _ _ _ (by omega) hS hc hn hl)
            · exact absurd rfl zc46
          · exact absurd ((lg_cmp_ge _ _).mpr ((t8_78 f k).mp hct.2)) zc34
    · by_cases hst : ∃ q, q < k ∧ t8 f q = t8 f k
      · have hpy : ¬ pY f kk k := fun z => z.elim hop (fun q => hst.elim (fun j hj => q.2 j hj.1 hj.2))
        rw [lY_f hpy] at hl ⊢
        refine g_iload dX8_listTold_3 rfl ?_
        refine g_iconst (v := 4) dX8_listTold_5 (by decide) ?_
        refine g_icmp_ge (tgt := 77) dX8_listTold_6 (by decide) (fun zc6 => ?_) (fun zc6 => ?_)
        · exact absurd zc6 (nI_ge (b := 4) (by omega) (by omega))
        · refine g_aload_n (i := 3) dX8_listTold_9 rfl rfl ?_
          refine g_iload dX8_listTold_10 rfl ?_
          refine g_lald dX8_listTold_12 (by first | exact hS.1.1.1 | exact (hb.mono hS.2 (by decide)).1) ((vp_in_nI (show k < 4 by omega) (by decide) : vp_in (nI k) 4)) ?_
          rw [hkc]
          refine g_bipush (v := 8) dX8_listTold_13 (by decide) ?_
          refine g_callSl (My := mX2_mask) [_] dX8_listTold_15 lkX8_92 mvX2_mask rfl (c_X2_mask _) (by decide) (by decide) (by decide) rfl (Nat.le_of_ble_eq_true rfl) (fun zr15 σ zh15 => ?_)
          obtain ⟨ze15, zf15⟩ := zh15
          rw [ze15, zf15]
          refine g_land dX8_listTold_18 ?_
          refine g_lstore (ls' := [_, _, _, _, _, _, _, _]) dX8_listTold_19 (by decide) rfl rfl ?_
          refine g_iload_n (i := 1) dX8_listTold_21 rfl rfl ?_
          refine g_callSi (My := mX6_takesCount) [_] dX8_listTold_22 lkX8_98 mvX6_takesCount rfl (c_X6_takesCount _) (by decide) (by decide) (by decide) rfl (Nat.le_of_ble_eq_true rfl) (fun zr22 σ zh22 => ?_)
          obtain ⟨ze22, zf22⟩ := zh22
          rw [ze22, zf22]
          refine g_if_eq (tgt := 37) dX8_listTold_25 (by decide) (fun zc25 => ?_) (fun zc25 => ?_)
          · refine g_iconst (v := 1) dX8_listTold_37 (by decide) ?_
            refine g_goto (tgt := 42) dX8_listTold_38 (by decide) ?_
            refine g_istore (ls' := [_, _, _, _, _, _, _, _]) dX8_listTold_42 (by decide) rfl rfl ?_
            refine g_iload dX8_listTold_44 rfl ?_
            refine g_if_eq (tgt := 71) dX8_listTold_46 (by decide) (fun zc46 => ?_) (fun zc46 => ?_)
            · exact absurd zc46 (by decide)
            · refine g_aload_n (i := 3) dX8_listTold_49 rfl rfl ?_
              refine g_iload dX8_listTold_50 rfl ?_
              refine g_lload dX8_listTold_52 rfl ?_
              refine g_callSi (My := mX8_stoodBefore) [_, _, _] dX8_listTold_54 lkX8_103 mvX8_stoodBefore rfl (c_X8_stoodBefore (hb.mono hS.2 (by decide)).1 (show k < 4 by omega) _) (by decide) (by decide) (by decide) rfl (Nat.le_of_ble_eq_true rfl) (fun zr54 σ zh54 => ?_)
              obtain ⟨ze54, zf54⟩ := zh54
              rw [ze54, zf54]
              refine g_if_ne (tgt := 71) dX8_listTold_57 (by decide) (fun zc57 => ?_) (fun zc57 => ?_)
              · refine g_iinc (v := _ + 1) (ls' := [_, _, _, _, _, _, _, _]) dX8_listTold_71 rfl rfl (by decide) rfl rfl ?_
                refine g_goto (tgt := 3) dX8_listTold_74 (by decide) ?_
                exact g_cl (by rw [nI_1]) (ih (k + 1) _ _ _ _ _ _ _ _ (by omega) hS hc hn hl)
              · exact absurd hst (bI_eq0.mp zc57)
          · refine g_lload dX8_listTold_28 rfl ?_
            refine g_ldc2 (v := 8) dX8_listTold_30 klX8_101 ?_
            refine g_lcmp dX8_listTold_33 ?_
            refine g_if_ge (tgt := 41) dX8_listTold_34 (by decide) (fun zc34 => ?_) (fun zc34 => ?_)
            · exact absurd ⟨bI_ne0.mp zc25, (t8_78 f k).mpr ((lg_cmp_ge _ _).mp zc34)⟩ hct
            · refine g_iconst (v := 1) dX8_listTold_37 (by decide) ?_
              refine g_goto (tgt := 42) dX8_listTold_38 (by decide) ?_
              refine g_istore (ls' := [_, _, _, _, _, _, _, _]) dX8_listTold_42 (by decide) rfl rfl ?_
              refine g_iload dX8_listTold_44 rfl ?_
              refine g_if_eq (tgt := 71) dX8_listTold_46 (by decide) (fun zc46 => ?_) (fun zc46 => ?_)
              · exact absurd zc46 (by decide)
              · refine g_aload_n (i := 3) dX8_listTold_49 rfl rfl ?_
                refine g_iload dX8_listTold_50 rfl ?_
                refine g_lload dX8_listTold_52 rfl ?_
                refine g_callSi (My := mX8_stoodBefore) [_, _, _] dX8_listTold_54 lkX8_103 mvX8_stoodBefore rfl (c_X8_stoodBefore (hb.mono hS.2 (by decide)).1 (show k < 4 by omega) _) (by decide) (by decide) (by decide) rfl (Nat.le_of_ble_eq_true rfl) (fun zr54 σ zh54 => ?_)
                obtain ⟨ze54, zf54⟩ := zh54
                rw [ze54, zf54]
                refine g_if_ne (tgt := 71) dX8_listTold_57 (by decide) (fun zc57 => ?_) (fun zc57 => ?_)
                · refine g_iinc (v := _ + 1) (ls' := [_, _, _, _, _, _, _, _]) dX8_listTold_71 rfl rfl (by decide) rfl rfl ?_
                  refine g_goto (tgt := 3) dX8_listTold_74 (by decide) ?_
                  exact g_cl (by rw [nI_1]) (ih (k + 1) _ _ _ _ _ _ _ _ (by omega) hS hc hn hl)
                · exact absurd hst (bI_eq0.mp zc57)
      · have hpy : pY f kk k := Or.inr ⟨hct, fun q hq e => hst ⟨q, hq, e⟩⟩
        rw [lY_t hpy] at hl ⊢
        have hl' : L.length < 144 := by rw [List.length_cons] at hl; omega
        refine g_iload dX8_listTold_3 rfl ?_
        refine g_iconst (v := 4) dX8_listTold_5 (by decide) ?_
        refine g_icmp_ge (tgt := 77) dX8_listTold_6 (by decide) (fun zc6 => ?_) (fun zc6 => ?_)
        · exact absurd zc6 (nI_ge (b := 4) (by omega) (by omega))
        · refine g_aload_n (i := 3) dX8_listTold_9 rfl rfl ?_
          refine g_iload dX8_listTold_10 rfl ?_
          refine g_lald dX8_listTold_12 (by first | exact hS.1.1.1 | exact (hb.mono hS.2 (by decide)).1) ((vp_in_nI (show k < 4 by omega) (by decide) : vp_in (nI k) 4)) ?_
          rw [hkc]
          refine g_bipush (v := 8) dX8_listTold_13 (by decide) ?_
          refine g_callSl (My := mX2_mask) [_] dX8_listTold_15 lkX8_92 mvX2_mask rfl (c_X2_mask _) (by decide) (by decide) (by decide) rfl (Nat.le_of_ble_eq_true rfl) (fun zr15 σ zh15 => ?_)
          obtain ⟨ze15, zf15⟩ := zh15
          rw [ze15, zf15]
          refine g_land dX8_listTold_18 ?_
          refine g_lstore (ls' := [_, _, _, _, _, _, _, _]) dX8_listTold_19 (by decide) rfl rfl ?_
          refine g_iload_n (i := 1) dX8_listTold_21 rfl rfl ?_
          refine g_callSi (My := mX6_takesCount) [_] dX8_listTold_22 lkX8_98 mvX6_takesCount rfl (c_X6_takesCount _) (by decide) (by decide) (by decide) rfl (Nat.le_of_ble_eq_true rfl) (fun zr22 σ zh22 => ?_)
          obtain ⟨ze22, zf22⟩ := zh22
          rw [ze22, zf22]
          refine g_if_eq (tgt := 37) dX8_listTold_25 (by decide) (fun zc25 => ?_) (fun zc25 => ?_)
          · refine g_iconst (v := 1) dX8_listTold_37 (by decide) ?_
            refine g_goto (tgt := 42) dX8_listTold_38 (by decide) ?_
            refine g_istore (ls' := [_, _, _, _, _, _, _, _]) dX8_listTold_42 (by decide) rfl rfl ?_
            refine g_iload dX8_listTold_44 rfl ?_
            refine g_if_eq (tgt := 71) dX8_listTold_46 (by decide) (fun zc46 => ?_) (fun zc46 => ?_)
            · exact absurd zc46 (by decide)
            · refine g_aload_n (i := 3) dX8_listTold_49 rfl rfl ?_
              refine g_iload dX8_listTold_50 rfl ?_
              refine g_lload dX8_listTold_52 rfl ?_
              refine g_callSi (My := mX8_stoodBefore) [_, _, _] dX8_listTold_54 lkX8_103 mvX8_stoodBefore rfl (c_X8_stoodBefore (hb.mono hS.2 (by decide)).1 (show k < 4 by omega) _) (by decide) (by decide) (by decide) rfl (Nat.le_of_ble_eq_true rfl) (fun zr54 σ zh54 => ?_)
              obtain ⟨ze54, zf54⟩ := zh54
              rw [ze54, zf54]
              refine g_if_ne (tgt := 71) dX8_listTold_57 (by decide) (fun zc57 => ?_) (fun zc57 => ?_)
              · exact absurd (bI_ne0.mp zc57) hst
              · refine g_aload_n (i := 0) dX8_listTold_60 rfl rfl ?_
                refine g_iload_n (i := 1) dX8_listTold_61 rfl rfl ?_
                refine g_iload_n (i := 2) dX8_listTold_62 rfl rfl ?_
                refine g_lload dX8_listTold_63 rfl ?_
                refine g_iconst (v := 1) dX8_listTold_65 (by decide) ?_
                refine g_iload_n (i := 2) dX8_listTold_66 rfl rfl ?_
                refine g_ishl dX8_listTold_67 ?_
                refine g_callVv (My := mX8_addChoice) [_, _, _, _] dX8_listTold_68 lkX8_84 mvX8_addChoice rfl (by first | exact hS.1.1.1 | exact (hb.mono hS.2 (by decide)).1) rfl (c_X8_addChoice hS hc hl' kk xx k (by rw [yOfV, if_neg hop]; rfl) (by show _ = us (kk, xx, k); rw [us, if_neg hop])) (by decide) (by decide) (by decide) rfl (Nat.le_of_ble_eq_true rfl) (fun σ zh68 => ?_)
                obtain ⟨cc', I', J', hS', hc', hn'⟩ := zh68
                refine g_iinc (v := _ + 1) (ls' := [_, _, _, _, _, _, _, _]) dX8_listTold_71 rfl rfl (by decide) rfl rfl ?_
                refine g_goto (tgt := 3) dX8_listTold_74 (by decide) ?_
                rw [show L ++ (kk, xx, k) :: lY f kk xx (List.range' (k + 1) n) = (L ++ [(kk, xx, k)]) ++ lY f kk xx (List.range' (k + 1) n) by simp]
                exact g_cl (by rw [nI_1]) (ih (k + 1) _ _ _ _ _ _ _ _ (by omega) hS' hc' (hn.tr hn') (by simp at hl ⊢; omega))
          · refine g_lload dX8_listTold_28 rfl ?_
            refine g_ldc2 (v := 8) dX8_listTold_30 klX8_101 ?_
            refine g_lcmp dX8_listTold_33 ?_
            refine g_if_ge (tgt := 41) dX8_listTold_34 (by decide) (fun zc34 => ?_) (fun zc34 => ?_)
            · exact absurd ⟨bI_ne0.mp zc25, (t8_78 f k).mpr ((lg_cmp_ge _ _).mp zc34)⟩ hct
            · refine g_iconst (v := 1) dX8_listTold_37 (by decide) ?_
              refine g_goto (tgt := 42) dX8_listTold_38 (by decide) ?_
              refine g_istore (ls' := [_, _, _, _, _, _, _, _]) dX8_listTold_42 (by decide) rfl rfl ?_
              refine g_iload dX8_listTold_44 rfl ?_
              refine g_if_eq (tgt := 71) dX8_listTold_46 (by decide) (fun zc46 => ?_) (fun zc46 => ?_)
              · exact absurd zc46 (by decide)
              · refine g_aload_n (i := 3) dX8_listTold_49 rfl rfl ?_
                refine g_iload dX8_listTold_50 rfl ?_
                refine g_lload dX8_listTold_52 rfl ?_
                refine g_callSi (My := mX8_stoodBefore) [_, _, _] dX8_listTold_54 lkX8_103 mvX8_stoodBefore rfl (c_X8_stoodBefore (hb.mono hS.2 (by decide)).1 (show k < 4 by omega) _) (by decide) (by decide) (by decide) rfl (Nat.le_of_ble_eq_true rfl) (fun zr54 σ zh54 => ?_)
                obtain ⟨ze54, zf54⟩ := zh54
                rw [ze54, zf54]
                refine g_if_ne (tgt := 71) dX8_listTold_57 (by decide) (fun zc57 => ?_) (fun zc57 => ?_)
                · exact absurd (bI_ne0.mp zc57) hst
                · refine g_aload_n (i := 0) dX8_listTold_60 rfl rfl ?_
                  refine g_iload_n (i := 1) dX8_listTold_61 rfl rfl ?_
                  refine g_iload_n (i := 2) dX8_listTold_62 rfl rfl ?_
                  refine g_lload dX8_listTold_63 rfl ?_
                  refine g_iconst (v := 1) dX8_listTold_65 (by decide) ?_
                  refine g_iload_n (i := 2) dX8_listTold_66 rfl rfl ?_
                  refine g_ishl dX8_listTold_67 ?_
                  refine g_callVv (My := mX8_addChoice) [_, _, _, _] dX8_listTold_68 lkX8_84 mvX8_addChoice rfl (by first | exact hS.1.1.1 | exact (hb.mono hS.2 (by decide)).1) rfl (c_X8_addChoice hS hc hl' kk xx k (by rw [yOfV, if_neg hop]; rfl) (by show _ = us (kk, xx, k); rw [us, if_neg hop])) (by decide) (by decide) (by decide) rfl (Nat.le_of_ble_eq_true rfl) (fun σ zh68 => ?_)
                  obtain ⟨cc', I', J', hS', hc', hn'⟩ := zh68
                  refine g_iinc (v := _ + 1) (ls' := [_, _, _, _, _, _, _, _]) dX8_listTold_71 rfl rfl (by decide) rfl rfl ?_
                  refine g_goto (tgt := 3) dX8_listTold_74 (by decide) ?_
                  rw [show L ++ (kk, xx, k) :: lY f kk xx (List.range' (k + 1) n) = (L ++ [(kk, xx, k)]) ++ lY f kk xx (List.range' (k + 1) n) by simp]
                  exact g_cl (by rw [nI_1]) (ih (k + 1) _ _ _ _ _ _ _ _ (by omega) hS' hc' (hn.tr hn') (by simp at hl ⊢; omega))
theorem c_X8_listTold {b : Nat} {f : Nat → Int64} (hb : Pt τ ow b 3 (gAl 4 f)) {kk xx : Nat} (hx : xx < 3) (hop : ¬ isOp (nI kk)) (hS : SeY τ σ ow sr ad (ac, cc, bc, bl) I J) (hc : chR f L cc I J) (hl : L.length + (lY f kk xx (List.range' 0 4)).length ≤ 144) : Ct l mX8_listTold 3 0 0 [.ref sr, .int (nI kk), .int (nI xx), .ref b] σ (pV (chP τ ow sr ad f ac bc bl I J (L ++ lY f kk xx (List.range' 0 4)))) := by
  refine Ct_of moX8_listTold [some (.ref sr), some (.int (nI kk)), some (.int (nI xx)), some (.ref b), none, none, none, none] rfl (Nat.le_of_ble_eq_true rfl) ?_
  refine g_iconst (v := 0) dX8_listTold_0 (by decide) ?_
  refine g_istore (ls' := [_, _, _, _, _, _, _, _]) dX8_listTold_1 (by decide) rfl rfl ?_
  exact lp_X8_listTold hb hx hop 4 0 σ cc I J L _ _ _ (by omega) hS hc (noJ.rf _ _) hl
end CSea
