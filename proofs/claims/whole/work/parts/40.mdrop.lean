/-! the reference: drop -/
def keepA (n : Nat) (c : aAc) : Bool := !(decide (c.1 < 3) && decide (c.2.1 = n))
def sDrop (A : aA) : Int32 × aA := if A.1.length = 0 then (-1, A) else (nI (A.1.length - 1), A.1.dropLast, A.2.1, A.2.2.1, A.2.2.2.1, A.2.2.2.2.1.filter (keepA (A.1.length - 1)), A.2.2.2.2.2)
section CMdrop
variable {l : Launch} {o : Nat} {ad : Nat → Nat} {S : mS} {A : aA}
theorem lp_X11_drop {m : Nat} (hm : S.1 2 = nI m) (hm60 : m < 60) (H : List aAc) (h50 : H.length ≤ 50) (h10 : S.1 10 = nI H.length) (hk : ∀ c ∈ H, c.1 < 2 ^ 31 ∧ c.2.1 < 2 ^ 31) {post : Option Value → gH → Prop} (hp : ∀ (σ' : gH) (S1 : mS), Mm σ' o ad (ui S1 10 (nI (H.filter (keepA m)).length)) → sA S S1 [11, 12, 13, 15, 16] [14, 17] → (∀ j h', j < 8 → hdR S j h' → hdR S1 j h') → (∀ (j : Nat) (a : aAc), (H.filter (keepA m))[j]? = some a → cR S1 j a) → post (some (.int (nI m))) σ') :
    ∀ (n i : Nat) (S1 : mS) (σ : gH), i + n = H.length → Mm σ o ad S1 → sA S S1 [11, 12, 13, 15, 16] [14, 17] → (∀ j h', j < 8 → hdR S j h' → hdR S1 j h') → (∀ (j : Nat) (a : aAc), ((H.take i).filter (keepA m))[j]? = some a → cR S1 j a) → (∀ (j : Nat) (a : aAc), i ≤ j → H[j]? = some a → cR S1 j a) → G l mX11_drop 3 0 0 post σ 23 [some (.ref o), some (.int (nI ((H.take i).filter (keepA m)).length)), some (.int (nI i))] [] := by
  intro n
  induction n with
  | zero =>
    intro i S1 σ hi hM hs q1 q2 q3
    obtain rfl : i = H.length := by omega
    rw [List.take_length] at q2 ⊢
    have e10 : S1.1 10 = nI H.length := by rw [hs.1]; exact h10
    have e2 : S1.1 2 = nI m := by rw [hs.1]; exact hm
    refine g_iload_n (i := 2) dX11_drop_23 rfl rfl ?_
    refine g_aload_n (i := 0) dX11_drop_24 rfl rfl ?_
    refine gm_get hM (k := 10) dX11_drop_25 flX11_147 rfl ?_
    refine g_toi (nI H.length) e10 ?_
    refine g_icmp_ge (tgt := 72) dX11_drop_28 (by decide) (fun zc28 => ?_) (fun zc28 => ?_)
    · refine g_aload_n (i := 0) dX11_drop_72 rfl rfl ?_
      refine g_iload_n (i := 1) dX11_drop_73 rfl rfl ?_
      refine gm_puti hM (k := 10) dX11_drop_74 flX11_147 fp9_10 (by decide) (fun σ hM => ?_)
      refine g_aload_n (i := 0) dX11_drop_77 rfl rfl ?_
      refine gm_get hM (k := 2) dX11_drop_78 flX11_118 rfl ?_
      refine g_toi (nI m) e2 ?_
      refine g_iret dX11_drop_81 rfl ?_
      exact hp _ S1 hM hs q1 q2
    · exact absurd (nI_le (Nat.le_refl _) (by omega)) zc28
  | succ n ih =>
    intro i S1 σ hi hM hs q1 q2 q3
    have hil : i < H.length := by omega
    obtain ⟨c, hc⟩ : ∃ c, H[i]? = some c := ⟨_, List.getElem?_eq_getElem hil⟩
    obtain ⟨c1, c2⟩ := hk c (List.mem_of_getElem? hc)
    have e10 : S1.1 10 = nI H.length := by rw [hs.1]; exact h10
    have e2 : S1.1 2 = nI m := by rw [hs.1]; exact hm
    obtain ⟨g1, g2, g3⟩ := q3 i c (Nat.le_refl _) hc
    have hci : (nI i).toNatClampNeg = i := nI_clamp (by omega)
    have hI : vp_in (nI i) 50 := vp_in_nI (by omega) (by decide)
    have htk : H.take (i + 1) = H.take i ++ [c] := by
      rw [List.take_add_one, hc]
      rfl
    have hlen : ((H.take i).filter (keepA m)).length ≤ i := Nat.le_trans (List.length_filter_le _ _) (by rw [List.length_take]; omega)
    have skip : keepA m c = false → G l mX11_drop 3 0 0 post σ 66 [some (.ref o), some (.int (nI ((H.take i).filter (keepA m)).length)), some (.int (nI i))] [] := by
      intro hf
      have ef : (H.take (i + 1)).filter (keepA m) = (H.take i).filter (keepA m) := by
        rw [htk, List.filter_append, List.filter_cons_of_neg (by rw [hf]; decide)]
        simp
      refine g_iinc (v := _ + 1) (ls' := [_, _, _]) dX11_drop_66 rfl rfl (by decide) rfl rfl ?_
      refine g_goto (tgt := 23) dX11_drop_69 (by decide) ?_
      rw [nI_1]
      have := ih (i + 1) S1 σ (by omega) hM hs q1 (by rw [ef]; exact q2) (fun j a hj ha => q3 j a (by omega) ha)
      rw [ef] at this
      exact this
    have move : keepA m c = true → G l mX11_drop 3 0 0 post σ 57 [some (.ref o), some (.int (nI ((H.take i).filter (keepA m)).length)), some (.int (nI i))] [] := by
      intro hf
      have ef : (H.take (i + 1)).filter (keepA m) = (H.take i).filter (keepA m) ++ [c] := by
        rw [htk, List.filter_append, List.filter_cons_of_pos hf]
        rfl
      refine g_aload_n (i := 0) dX11_drop_57 rfl rfl ?_
      refine g_iload_n (i := 2) dX11_drop_58 rfl rfl ?_
      refine g_iload_n (i := 1) dX11_drop_59 rfl rfl ?_
      refine g_callVv (My := mX11_moveAct) [_, _] dX11_drop_60 lkX11_150 mvX11_moveAct rfl hM.1 rfl (c_X11_moveAct hM (show i < 50 by omega) (show ((H.take i).filter (keepA m)).length < 50 by omega) (q3 i c (Nat.le_refl _) hc)) (by decide) (by decide) (by decide) rfl (Nat.le_of_ble_eq_true rfl) (fun σ zh60 => ?_)
      obtain ⟨S2, hM, hs2, k1, k2, k3⟩ := zh60
      refine g_iinc (v := _ + 1) (ls' := [_, _, _]) dX11_drop_63 rfl rfl (by decide) rfl rfl ?_
      refine g_iinc (v := _ + 1) (ls' := [_, _, _]) dX11_drop_66 rfl rfl (by decide) rfl rfl ?_
      refine g_goto (tgt := 23) dX11_drop_69 (by decide) ?_
      rw [nI_1, nI_1]
      have hth := ih (i + 1) S2 σ (by omega) hM (hs.tr hs2 (fun _ h => h) (fun _ h => h)) (fun j h' hj hr => k3 j h' hj (q1 j h' hj hr)) (fun j a ha => ?_) (fun j a hj ha => k2 j a (by omega) (q3 j a (by omega) ha))
      · rw [ef, List.length_append] at hth
        exact hth
      · rw [ef] at ha
        by_cases hj : j < ((H.take i).filter (keepA m)).length
        · rw [List.getElem?_append_left hj] at ha
          exact k2 j a (by omega) (q2 j a ha)
        · have hjl := (List.getElem?_eq_some_iff.mp ha).1
          rw [List.length_append] at hjl
          simp only [List.length_cons, List.length_nil] at hjl
          have hje : j = ((H.take i).filter (keepA m)).length := by omega
          rw [hje, List.getElem?_append_right (Nat.le_refl _), Nat.sub_self] at ha
          cases ha
          rw [hje]
          exact k1
    refine g_iload_n (i := 2) dX11_drop_23 rfl rfl ?_
    refine g_aload_n (i := 0) dX11_drop_24 rfl rfl ?_
    refine gm_get hM (k := 10) dX11_drop_25 flX11_147 rfl ?_
    refine g_toi (nI H.length) e10 ?_
    refine g_icmp_ge (tgt := 72) dX11_drop_28 (by decide) (fun zc28 => ?_) (fun zc28 => ?_)
    · exact absurd zc28 (nI_ge hil (by omega))
    · refine g_aload_n (i := 0) dX11_drop_31 rfl rfl ?_
      refine gm_get hM (k := 11) dX11_drop_32 flX11_32 rfl ?_
      refine g_iload_n (i := 2) dX11_drop_35 rfl rfl ?_
      refine gm_iald hM dX11_drop_36 rfl (hI) ?_
      refine g_toi (nI c.1) (by rw [hci]; exact g1) ?_
      refine g_iconst (v := 3) dX11_drop_37 (by decide) ?_
      refine g_icmp_ge (tgt := 57) dX11_drop_38 (by decide) (fun zc38 => ?_) (fun zc38 => ?_)
      · refine move ?_
        unfold keepA
        first
        | (have hx : ¬ c.1 < 3 := by (intro z; exact absurd zc38 (nI_ge (b := 3) z (by decide)))
           simp [hx])
        | (have hx : ¬ c.2.1 = m := fun z => zc51 (by rw [z])
           simp [hx])
      · refine g_aload_n (i := 0) dX11_drop_41 rfl rfl ?_
        refine gm_get hM (k := 12) dX11_drop_42 flX11_35 rfl ?_
        refine g_iload_n (i := 2) dX11_drop_45 rfl rfl ?_
        refine gm_iald hM dX11_drop_46 rfl (hI) ?_
        refine g_toi (nI c.2.1) (by rw [hci]; exact g2) ?_
        refine g_aload_n (i := 0) dX11_drop_47 rfl rfl ?_
        refine gm_get hM (k := 2) dX11_drop_48 flX11_118 rfl ?_
        refine g_toi (nI m) e2 ?_
        refine g_icmp_ne (tgt := 57) dX11_drop_51 (by decide) (fun zc51 => ?_) (fun zc51 => ?_)
        · refine move ?_
          unfold keepA
          first
          | (have hx : ¬ c.1 < 3 := by (intro z; exact absurd zc38 (nI_ge (b := 3) z (by decide)))
             simp [hx])
          | (have hx : ¬ c.2.1 = m := fun z => zc51 (by rw [z])
             simp [hx])
        · refine g_goto (tgt := 66) dX11_drop_54 (by decide) ?_
          refine skip ?_
          have hx : c.1 < 3 := by
            rcases Nat.lt_or_ge c.1 3 with z | z
            · exact z
            · exact absurd (nI_le (a := 3) z c1) zc38
          have hy : c.2.1 = m := (nI_eq c2 (by omega)).mp zc51
          unfold keepA
          simp [hx, hy]
theorem c_X11_drop {σ : gH} (hM : Mm σ o ad S) (hR : RepM S A) (hk : ∀ c ∈ A.2.2.2.2.1, c.1 < 2 ^ 31 ∧ c.2.1 < 2 ^ 31) : Ct l mX11_drop 3 0 0 [.ref o] σ (pI (mP o ad (sDrop A))) := by
  have h60 := hR.1.2.1
  have e2 := hR.1.1
  have h50 := hR.2.2.2.2.1.2.1
  refine Ct_of moX11_drop [some (.ref o), none, none] rfl (Nat.le_of_ble_eq_true rfl) ?_
  by_cases h0 : A.1.length = 0
  · have hv : sDrop A = (-1, A) := if_pos h0
    rw [hv]
    refine g_aload_n (i := 0) dX11_drop_0 rfl rfl ?_
    refine gm_get hM (k := 2) dX11_drop_1 flX11_118 rfl ?_
    refine g_if_ne (tgt := 9) dX11_drop_4 (by decide) (fun zc4 => ?_) (fun zc4 => ?_)
    · exact absurd (by rw [e2, h0]; rfl) zc4
    · refine g_iconst (v := (-1)) dX11_drop_7 (by decide) ?_
      refine g_iret dX11_drop_8 rfl ?_
      exact ⟨_, rfl, rfl, S, hM, hR⟩
  · obtain ⟨m, hm⟩ : ∃ m, A.1.length = m + 1 := ⟨A.1.length - 1, by omega⟩
    have hv : sDrop A = (nI m, A.1.dropLast, A.2.1, A.2.2.1, A.2.2.2.1, A.2.2.2.2.1.filter (keepA m), A.2.2.2.2.2) := by
      unfold sDrop
      rw [if_neg h0, hm, Nat.add_sub_cancel]
    rw [hv]
    refine g_aload_n (i := 0) dX11_drop_0 rfl rfl ?_
    refine gm_get hM (k := 2) dX11_drop_1 flX11_118 rfl ?_
    refine g_if_ne (tgt := 9) dX11_drop_4 (by decide) (fun zc4 => ?_) (fun zc4 => ?_)
    · refine g_aload_n (i := 0) dX11_drop_9 rfl rfl ?_
      refine g_dup dX11_drop_10 rfl ?_
      refine gm_get hM (k := 2) dX11_drop_11 flX11_118 rfl ?_
      refine g_toi (nI (m + 1)) (by rw [← hm]; exact e2) ?_
      refine g_iconst (v := 1) dX11_drop_14 (by decide) ?_
      refine g_isub dX11_drop_15 ?_
      rw [nI_pred]
      refine gm_puti hM (k := 2) dX11_drop_16 flX11_118 fp9_2 (by decide) (fun σ hM => ?_)
      refine g_iconst (v := 0) dX11_drop_19 (by decide) ?_
      refine g_istore_n (i := 1) (ls' := [_, _, _]) dX11_drop_20 rfl (by decide) rfl rfl ?_
      refine g_iconst (v := 0) dX11_drop_21 (by decide) ?_
      refine g_istore_n (i := 2) (ls' := [_, _, _]) dX11_drop_22 rfl (by decide) rfl rfl ?_
      refine lp_X11_drop (S := ui S 2 (nI m)) rfl (by omega) A.2.2.2.2.1 h50 hR.2.2.2.2.1.1 hk ?_ A.2.2.2.2.1.length 0 _ σ (by omega) hM (sA.rf _ _ _) (fun _ _ _ q => q) (fun j a ha => by simp at ha) (fun j a _ ha => (hR.2.2.2.2.1.2.2 j a ha).of (fun _ _ => rfl) rfl rfl)
      intro σ' S1 hM' hs q1 q2
      refine ⟨_, rfl, rfl, _, hM', ?_⟩
      have hR0 : RepM (ui S 2 (nI m)) (A.1.dropLast, A.2) := by
        refine hR.forms _ (fun k hk => ?_) (fun k hk => rfl) (fun k hk => rfl) ?_ ?_ (fun f g hg => ?_)
        · simp only [List.mem_cons, List.not_mem_nil, or_false] at hk
          rcases hk with rfl | rfl <;> rfl
        · rw [List.length_dropLast, hm]; rfl
        · rw [List.length_dropLast]; omega
        · have hf := (List.getElem?_eq_some_iff.mp hg).1
          rw [List.length_dropLast] at hf
          rw [List.getElem?_dropLast, if_pos (by omega)] at hg
          exact (hR.1.2.2 f g hg).of (fun _ _ => rfl) rfl
      refine hR0.hist (S' := ui S1 10 (nI (A.2.2.2.2.1.filter (keepA m)).length)) (A.2.2.2.2.1.filter (keepA m)) (fun k hk => ?_) (fun k hk => hs.2.2.1 k ?_) (fun k hk => hs.2.2.2 k ?_) (fun j h' hj hr => (q1 j h' hj hr).of rfl rfl rfl) rfl (Nat.le_trans (List.length_filter_le _ _) h50) (fun j a ha => (q2 j a ha).of (fun _ _ => rfl) rfl rfl)
      · simp only [List.mem_cons, List.not_mem_nil, or_false] at hk
        rw [← hs.1]
        rcases hk with rfl | rfl <;> rfl
      · simp only [List.mem_cons, List.not_mem_nil, or_false] at hk ⊢
        omega
      · simp only [List.mem_cons, List.not_mem_nil, or_false] at hk ⊢
        omega
    · exact absurd (by rw [e2, hm] at zc4; exact zc4) (nI_ne0 (by omega) (by omega))
end CMdrop
