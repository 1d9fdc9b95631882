/-! the class's search: listChoices -/
section CSea2
variable {l : Launch} {τ : gH} {ow : Nat → Nat} {sr : Nat} {ad : Nat → Nat} {ac bc bl : Int32} {b : Nat} {f : Nat → Int64} {I0 : Nat → Nat → Int32} {J0 : Nat → Nat → Int64} {post : Option Value → gH → Prop}
theorem l30_X8_lc {kk xx : Nat} (hop : isOp (nI kk)) (hx : xx < 3) : ∀ (n y : Nat) (σ : gH) (cc : Int32) (I : Nat → Nat → Int32) (J : Nat → Nat → Int64) (L : List cT), y + n = 3 → SeY τ σ ow sr ad (ac, cc, bc, bl) I J → chR f L cc I J → noJ I0 I J0 J → L.length + (lY f kk xx (List.range' y n)).length ≤ 144 → (∀ (σ' : gH) (v4 : Option Value), chP τ ow sr ad f ac bc bl I0 J0 (L ++ lY f kk xx (List.range' y n)) σ' → G l mX8_listChoices 4 0 0 post σ' 69 [some (.ref sr), some (.ref b), some (.int (nI kk)), some (.int (nI xx)), v4] []) → G l mX8_listChoices 4 0 0 post σ 30 [some (.ref sr), some (.ref b), some (.int (nI kk)), some (.int (nI xx)), some (.int (nI y))] [] := by
  intro n
  induction n with
  | zero =>
    intro y σ cc I J L hy hS hc hn hl K
    obtain rfl : y = 3 := by omega
    refine g_iload dX8_listChoices_30 rfl ?_
    refine g_iconst (v := 3) dX8_listChoices_32 (by decide) ?_
    refine g_icmp_ge (tgt := 59) dX8_listChoices_33 (by decide) (fun zc33 => ?_) (fun zc33 => ?_)
    · refine g_goto (tgt := 69) dX8_listChoices_59 (by decide) ?_
      exact K _ _ ⟨_, _, _, hS, by rw [show lY f kk xx (List.range' 3 0) = [] from rfl, List.append_nil]; exact hc, hn⟩
    · exact absurd (nI_le (Nat.le_refl 3) (by omega)) zc33
  | succ n ih =>
    intro y σ cc I J L hy hS hc hn hl K
    rw [show List.range' y (n + 1) = y :: List.range' (y + 1) n from rfl, lY_t (Or.inl hop)] at hl K
    have hl' : L.length < 144 := by rw [List.length_cons] at hl; omega
    refine g_iload dX8_listChoices_30 rfl ?_
    refine g_iconst (v := 3) dX8_listChoices_32 (by decide) ?_
    refine g_icmp_ge (tgt := 59) dX8_listChoices_33 (by decide) (fun zc33 => ?_) (fun zc33 => ?_)
    · exact absurd zc33 (nI_ge (b := 3) (by omega) (by omega))
    · refine g_aload_n (i := 0) dX8_listChoices_36 rfl rfl ?_
      refine g_iload_n (i := 2) dX8_listChoices_37 rfl rfl ?_
      refine g_iload_n (i := 3) dX8_listChoices_38 rfl rfl ?_
      refine g_iload dX8_listChoices_39 rfl ?_
      refine g_i2l dX8_listChoices_41 ?_
      refine g_iconst (v := 1) dX8_listChoices_42 (by decide) ?_
      refine g_iload_n (i := 3) dX8_listChoices_43 rfl rfl ?_
      refine g_ishl dX8_listChoices_44 ?_
      refine g_iconst (v := 1) dX8_listChoices_45 (by decide) ?_
      refine g_iload dX8_listChoices_46 rfl ?_
      refine g_ishl dX8_listChoices_48 ?_
      refine g_ior dX8_listChoices_49 ?_
      refine g_callVv (My := mX8_addChoice) [_, _, _, _] dX8_listChoices_50 lkX8_84 mvX8_addChoice rfl (hS.1.1.1) rfl (c_X8_addChoice hS hc hl' kk xx y (by rw [yOfV, if_pos hop]) (by show _ = us (kk, xx, y); rw [us, if_pos hop])) (by decide) (by decide) (by decide) rfl (Nat.le_of_ble_eq_true rfl) (fun σ zh50 => ?_)
      obtain ⟨cc', I', J', hS', hc', hn'⟩ := zh50
      refine g_iinc (v := _ + 1) (ls' := [_, _, _, _, _]) dX8_listChoices_53 rfl rfl (by decide) rfl rfl ?_
      refine g_goto (tgt := 30) dX8_listChoices_56 (by decide) ?_
      rw [show L ++ (kk, xx, y) :: lY f kk xx (List.range' (y + 1) n) = (L ++ [(kk, xx, y)]) ++ lY f kk xx (List.range' (y + 1) n) by simp] at K
      exact g_cl (by rw [nI_1]) (ih (y + 1) _ _ _ _ _ (by omega) hS' hc' (hn.tr hn') (by simp at hl ⊢; omega) K)
theorem l15_X8_lc (hb : Pt τ ow b 3 (gAl 4 f)) {kk : Nat} : ∀ (n x : Nat) (σ : gH) (cc : Int32) (I : Nat → Nat → Int32) (J : Nat → Nat → Int64) (L : List cT) (v4 : Option Value), x + n = 3 → SeY τ σ ow sr ad (ac, cc, bc, bl) I J → chR f L cc I J → noJ I0 I J0 J → L.length + (lX f kk (List.range' x n)).length ≤ 144 → (∀ (σ' : gH) (v4 : Option Value), chP τ ow sr ad f ac bc bl I0 J0 (L ++ lX f kk (List.range' x n)) σ' → G l mX8_listChoices 4 0 0 post σ' 75 [some (.ref sr), some (.ref b), some (.int (nI kk)), some (.int (nI 3)), v4] []) → G l mX8_listChoices 4 0 0 post σ 15 [some (.ref sr), some (.ref b), some (.int (nI kk)), some (.int (nI x)), v4] [] := by
  intro n
  induction n with
  | zero =>
    intro x σ cc I J L v4 hx hS hc hn hl K
    obtain rfl : x = 3 := by omega
    refine g_iload_n (i := 3) dX8_listChoices_15 rfl rfl ?_
    refine g_iconst (v := 3) dX8_listChoices_16 (by decide) ?_
    refine g_icmp_ge (tgt := 75) dX8_listChoices_17 (by decide) (fun zc17 => ?_) (fun zc17 => ?_)
    · exact K _ _ ⟨_, _, _, hS, by rw [show lX f kk (List.range' 3 0) = [] from rfl, List.append_nil]; exact hc, hn⟩
    · exact absurd (nI_le (Nat.le_refl 3) (by omega)) zc17
  | succ n ih =>
    intro x σ cc I J L v4 hx hS hc hn hl K
    rw [show lX f kk (List.range' x (n + 1)) = lY f kk x (List.range' 0 (nyC kk)) ++ lX f kk (List.range' (x + 1) n) from rfl] at hl K
    rw [← List.append_assoc] at K
    rw [List.length_append] at hl
    have nxt : ∀ (σ' : gH) (v4 : Option Value), chP τ ow sr ad f ac bc bl I0 J0 (L ++ lY f kk x (List.range' 0 (nyC kk))) σ' → G l mX8_listChoices 4 0 0 post σ' 69 [some (.ref sr), some (.ref b), some (.int (nI kk)), some (.int (nI x)), v4] [] := by
      intro σ' v4 hP
      obtain ⟨cc', I', J', hS', hc', hn'⟩ := hP
      refine g_iinc (v := _ + 1) (ls' := [_, _, _, _, _]) dX8_listChoices_69 rfl rfl (by decide) rfl rfl ?_
      refine g_goto (tgt := 15) dX8_listChoices_72 (by decide) ?_
      exact g_cl (by rw [nI_1]) (ih (x + 1) _ _ _ _ _ _ (by omega) hS' hc' hn' (by rw [List.length_append]; omega) K)
    by_cases hop : isOp (nI kk)
    · have e3 : nyC kk = 3 := if_pos hop
      rw [e3] at nxt hl
      refine g_iload_n (i := 3) dX8_listChoices_15 rfl rfl ?_
      refine g_iconst (v := 3) dX8_listChoices_16 (by decide) ?_
      refine g_icmp_ge (tgt := 75) dX8_listChoices_17 (by decide) (fun zc17 => ?_) (fun zc17 => ?_)
      · exact absurd zc17 (nI_ge (b := 3) (by omega) (by omega))
      · refine g_iload_n (i := 2) dX8_listChoices_20 rfl rfl ?_
        refine g_callSi (My := mX6_takesOperand) [_] dX8_listChoices_21 lkX8_78 mvX6_takesOperand rfl (c_X6_takesOperand _) (by decide) (by decide) (by decide) rfl (Nat.le_of_ble_eq_true rfl) (fun zr21 σ zh21 => ?_)
        obtain ⟨ze21, zf21⟩ := zh21
        rw [ze21, zf21]
        refine g_if_eq (tgt := 62) dX8_listChoices_24 (by decide) (fun zc24 => ?_) (fun zc24 => ?_)
        · exact absurd hop (bI_eq0.mp zc24)
        · refine g_iconst (v := 0) dX8_listChoices_27 (by decide) ?_
          refine g_istore (ls' := [_, _, _, _, _]) dX8_listChoices_28 (by decide) rfl rfl ?_
          exact l30_X8_lc hop (by omega) 3 0 _ _ _ _ _ (by omega) hS hc hn (by omega) nxt
    · have e4 : nyC kk = 4 := if_neg hop
      rw [e4] at nxt hl
      refine g_iload_n (i := 3) dX8_listChoices_15 rfl rfl ?_
      refine g_iconst (v := 3) dX8_listChoices_16 (by decide) ?_
      refine g_icmp_ge (tgt := 75) dX8_listChoices_17 (by decide) (fun zc17 => ?_) (fun zc17 => ?_)
      · exact absurd zc17 (nI_ge (b := 3) (by omega) (by omega))
      · refine g_iload_n (i := 2) dX8_listChoices_20 rfl rfl ?_
        refine g_callSi (My := mX6_takesOperand) [_] dX8_listChoices_21 lkX8_78 mvX6_takesOperand rfl (c_X6_takesOperand _) (by decide) (by decide) (by decide) rfl (Nat.le_of_ble_eq_true rfl) (fun zr21 σ zh21 => ?_)
        obtain ⟨ze21, zf21⟩ := zh21
        rw [ze21, zf21]
        refine g_if_eq (tgt := 62) dX8_listChoices_24 (by decide) (fun zc24 => ?_) (fun zc24 => ?_)
        · refine g_aload_n (i := 0) dX8_listChoices_62 rfl rfl ?_
          refine g_iload_n (i := 2) dX8_listChoices_63 rfl rfl ?_
          refine g_iload_n (i := 3) dX8_listChoices_64 rfl rfl ?_
          refine g_aload_n (i := 1) dX8_listChoices_65 rfl rfl ?_
          refine g_callVv (My := mX8_listTold) [_, _, _] dX8_listChoices_66 lkX8_88 mvX8_listTold rfl (hS.1.1.1) rfl (c_X8_listTold hb (show x < 3 by omega) hop hS hc (by omega)) (by decide) (by decide) (by decide) rfl (Nat.le_of_ble_eq_true rfl) (fun σ zh66 => ?_)
          obtain ⟨cc', I', J', hS', hc', hn'⟩ := zh66
          exact nxt _ _ ⟨_, _, _, hS', hc', hn.tr hn'⟩
        · exact absurd (bI_ne0.mp zc24) hop
theorem l7b {σ : gH} {k : Nat} {v3 v4 : Option Value} (K : Option Value → G l mX8_listChoices 4 0 0 post σ 7 [some (.ref sr), some (.ref b), some (.int (nI k + 1)), v3, v4] []) : G l mX8_listChoices 4 0 0 post σ 75 [some (.ref sr), some (.ref b), some (.int (nI k)), v3, v4] [] := by
  refine g_iinc (v := _ + 1) (ls' := [_, _, _, _, _]) dX8_listChoices_75 rfl rfl (by decide) rfl rfl ?_
  refine g_goto (tgt := 7) dX8_listChoices_78 (by decide) ?_
  exact K none
theorem l7_X8_lc (hb : Pt τ ow b 3 (gAl 4 f)) : ∀ (n k : Nat) (σ : gH) (cc : Int32) (I : Nat → Nat → Int32) (J : Nat → Nat → Int64) (L : List cT) (v3 v4 : Option Value), k + n = 13 → SeY τ σ ow sr ad (ac, cc, bc, bl) I J → chR f L cc I J → noJ I0 I J0 J → L.length + (lK f (List.range' k n)).length ≤ 144 → G l mX8_listChoices 4 0 0 (pV (chP τ ow sr ad f ac bc bl I0 J0 (L ++ lK f (List.range' k n)))) σ 7 [some (.ref sr), some (.ref b), some (.int (nI k)), v3, v4] [] := by
  intro n
  induction n with
  | zero =>
    intro k σ cc I J L v3 v4 hk hS hc hn hl
    obtain rfl : k = 13 := by omega
    refine g_iload_n (i := 2) dX8_listChoices_7 rfl rfl ?_
    refine g_bipush (v := 13) dX8_listChoices_8 (by decide) ?_
    refine g_icmp_ge (tgt := 81) dX8_listChoices_10 (by decide) (fun zc10 => ?_) (fun zc10 => ?_)
    · refine g_vret dX8_listChoices_81 rfl ?_
      exact ⟨rfl, _, _, _, hS, by rw [show lK f (List.range' 13 0) = [] from rfl, List.append_nil]; exact hc, hn⟩
    · exact absurd (nI_le (Nat.le_refl 13) (by omega)) zc10
  | succ n ih =>
    intro k σ cc I J L v3 v4 hk hS hc hn hl
    rw [show lK f (List.range' k (n + 1)) = lX f k (List.range' 0 3) ++ lK f (List.range' (k + 1) n) from rfl] at hl ⊢
    rw [← List.append_assoc]
    rw [List.length_append] at hl
    refine g_iload_n (i := 2) dX8_listChoices_7 rfl rfl ?_
    refine g_bipush (v := 13) dX8_listChoices_8 (by decide) ?_
    refine g_icmp_ge (tgt := 81) dX8_listChoices_10 (by decide) (fun zc10 => ?_) (fun zc10 => ?_)
    · exact absurd zc10 (nI_ge (b := 13) (by omega) (by omega))
    · refine g_iconst (v := 0) dX8_listChoices_13 (by decide) ?_
      refine g_istore_n (i := 3) (ls' := [_, _, _, _, _]) dX8_listChoices_14 rfl (by decide) rfl rfl ?_
      refine l15_X8_lc hb 3 0 _ _ _ _ _ _ (by omega) hS hc hn (by omega) (fun σ' v4' hP => ?_)
      obtain ⟨cc', I', J', hS', hc', hn'⟩ := hP
      exact l7b (k := k) (fun v => g_cl (by rw [nI_1]) (ih (k + 1) _ _ _ _ _ _ _ (by omega) hS' hc' hn' (by rw [List.length_append]; omega)))
theorem c_X8_listChoices {σ : gH} {cc : Int32} {I : Nat → Nat → Int32} {J : Nat → Nat → Int64} (hb : Pt τ ow b 3 (gAl 4 f)) (hS : SeY τ σ ow sr ad (ac, cc, bc, bl) I J) : Ct l mX8_listChoices 4 0 0 [.ref sr, .ref b] σ (pV (chP τ ow sr ad f ac bc bl I J (chL f))) := by
  refine Ct_of moX8_listChoices [some (.ref sr), some (.ref b), none, none, none] rfl (Nat.le_of_ble_eq_true rfl) ?_
  refine g_aload_n (i := 0) dX8_listChoices_0 rfl rfl ?_
  refine g_iconst (v := 0) dX8_listChoices_1 (by decide) ?_
  refine g_putf (fs' := [_, _, _, _, _, _, _, _, _, _, _, _, _, _]) dX8_listChoices_2 flX8_75 fp6_5 (hS.1.1.1) rfl rfl (Nat.le_of_ble_eq_true rfl) rfl ?_
  have hS := hS.w8 ac 0 bc bl
  refine g_iconst (v := 0) dX8_listChoices_5 (by decide) ?_
  refine g_istore_n (i := 2) (ls' := [_, _, _, _, _]) dX8_listChoices_6 rfl (by decide) rfl rfl ?_
  exact l7_X8_lc hb 13 0 _ 0 I J [] _ _ (by omega) hS ⟨rfl, by decide, fun i t h => by simp at h⟩ (noJ.rf _ _) (by rw [List.length_nil, Nat.zero_add]; exact len_chL)
end CSea2
