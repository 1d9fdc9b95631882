/-! the class's public methods: those that only look, and price, tell -/
def cP (x : Nat) (R : Int32 × aA) : Int32 → gH → Prop := fun r σ' => r = R.1 ∧ RC σ' x R.2
def cPl (x : Nat) (R : Int64 × aA) : Int64 → gH → Prop := fun r σ' => r = R.1 ∧ RC σ' x R.2
theorem RCx.rc {σ : gH} {ow : Nat → Nat} {x : Nat} {A : aA} {ad hk : Nat → Nat} {cs : List cA} {ff : Nat → Option Nat} (q : RCx σ ow x A ad hk cs ff) : RC σ x A := ⟨ow, ad, hk, cs, ff, q⟩
theorem RCx.form {σ : gH} {ow : Nat → Nat} {x : Nat} {A : aA} {ad hk : Nat → Nat} {cs : List cA} {ff : Nat → Option Nat} (q : RCx σ ow x A ad hk cs ff) {j : Nat} {g : aF} (hg : A.1[j]? = some g) : ∃ b ka xa ya kf xf yf, ff j = some b ∧ Pt σ ow b (100 + 4 * j) (gO 2 [.int g.1, .int (nI g.2.length), .ref ka, .ref xa, .ref ya]) ∧ Pt σ ow ka (101 + 4 * j) (gAi 12 kf) ∧ Pt σ ow xa (102 + 4 * j) (gAi 12 xf) ∧ Pt σ ow ya (103 + 4 * j) (gAl 12 yf) ∧ stR g.2 kf xf yf ∧ g.2.length ≤ 12 := by
  have hj := (List.getElem?_eq_some_iff.mp hg).1
  obtain ⟨b, hb⟩ := q.2.1.2.2.2 j hj
  obtain ⟨w, cnt, kf, xf, yf, ⟨ka, xa, ya, p1, p2, p3, p4⟩, h2⟩ := q.2.1.2.2.1 j (by have := q.2.1.2.1; omega) b hb
  obtain ⟨e1, e2, e3, e4⟩ := h2 g hg
  subst e1 e2
  exact ⟨b, ka, xa, ya, kf, xf, yf, hb, p1, by rw [show 101 + 4 * j = 100 + 4 * j + 1 by omega]; exact p2, by rw [show 102 + 4 * j = 100 + 4 * j + 2 by omega]; exact p3, by rw [show 103 + 4 * j = 100 + 4 * j + 3 by omega]; exact p4, e4, e3⟩
section CPub1
variable {l : Launch} {σ : gH} {ow : Nat → Nat} {x : Nat} {A : aA} {ad hk : Nat → Nat} {cs : List cA} {ff : Nat → Option Nat}
theorem c_X10_formAt0 (hR : RCx σ ow x A ad hk cs ff) {f : Int32} (hn : f < 0 ∨ nI A.1.length ≤ f) : Ct l mX10_formAt 1 0 0 [.ref x, .int f] σ (pQ fun r σ' => r = none ∧ σ' = σ) := by
  refine Ct_of moX10_formAt [some (.ref x), some (.int f)] rfl (Nat.le_of_ble_eq_true rfl) ?_
  refine g_iload_n (i := 1) dX10_formAt_0 rfl rfl ?_
  refine g_if_lt (tgt := 12) dX10_formAt_1 (by decide) (fun zc1 => ?_) (fun zc1 => ?_)
  · refine g_null dX10_formAt_12 ?_
    refine g_goto (tgt := 22) dX10_formAt_13 (by decide) ?_
    refine g_aret (r := none) dX10_formAt_22 rfl ?_
    exact ⟨_, rfl, rfl, rfl⟩
  · refine g_iload_n (i := 1) dX10_formAt_4 rfl rfl ?_
    refine g_aload_n (i := 0) dX10_formAt_5 rfl rfl ?_
    refine g_getf dX10_formAt_6 flX10_68 (hR.1.1) rfl ?_
    refine g_icmp_lt (tgt := 16) dX10_formAt_9 (by decide) (fun zc9 => ?_) (fun zc9 => ?_)
    · exact absurd (hn.elim (fun q => absurd q zc1) (fun q => q)) (Int32.not_le.mpr zc9)
    · refine g_null dX10_formAt_12 ?_
      refine g_goto (tgt := 22) dX10_formAt_13 (by decide) ?_
      refine g_aret (r := none) dX10_formAt_22 rfl ?_
      exact ⟨_, rfl, rfl, rfl⟩
theorem c_X10_formAt1 (hR : RCx σ ow x A ad hk cs ff) {j b : Nat} (hj : j < A.1.length) (hb : ff j = some b) : Ct l mX10_formAt 1 0 0 [.ref x, .int (nI j)] σ (pQ fun r σ' => r = some b ∧ σ' = σ) := by
  have h60 := hR.2.1.2.1
  refine Ct_of moX10_formAt [some (.ref x), some (.int (nI j))] rfl (Nat.le_of_ble_eq_true rfl) ?_
  refine g_iload_n (i := 1) dX10_formAt_0 rfl rfl ?_
  refine g_if_lt (tgt := 12) dX10_formAt_1 (by decide) (fun zc1 => ?_) (fun zc1 => ?_)
  · exact absurd zc1 (nI_pos (by omega))
  · refine g_iload_n (i := 1) dX10_formAt_4 rfl rfl ?_
    refine g_aload_n (i := 0) dX10_formAt_5 rfl rfl ?_
    refine g_getf dX10_formAt_6 flX10_68 (by first | exact hR.1.1 | exact hR.2.1.1.1) rfl ?_
    refine g_icmp_lt (tgt := 16) dX10_formAt_9 (by decide) (fun zc9 => ?_) (fun zc9 => ?_)
    · refine g_aload_n (i := 0) dX10_formAt_16 rfl rfl ?_
      refine g_getf dX10_formAt_17 flX10_11 (by first | exact hR.1.1 | exact hR.2.1.1.1) rfl ?_
      refine g_iload_n (i := 1) dX10_formAt_20 rfl rfl ?_
      refine g_aald dX10_formAt_21 (by first | exact hR.1.1 | exact hR.2.1.1.1) (by decide) ((vp_in_nI (show j < 60 by omega) (by decide) : vp_in (nI j) 60)) ?_
      refine g_tor b (by rw [nI_clamp (by omega)]; exact hb) ?_
      refine g_aret (r := some b) dX10_formAt_22 rfl ?_
      exact ⟨_, rfl, rfl, rfl⟩
    · exact absurd (nI_lt hj (by omega)) zc9
theorem c_X10_steps (hR : RC σ x A) (f : Int32) : Ct l mX10_steps 2 0 0 [.ref x, .int f] σ (pI (cP x (aSteps A f, A))) := by
  obtain ⟨ow, ad, hk, cs, ff, hR⟩ := hR
  refine Ct_of moX10_steps [some (.ref x), some (.int f), none] rfl (Nat.le_of_ble_eq_true rfl) ?_
  rcases aForm_cases A hR.2.1.2.1 f with ⟨hh, hn⟩ | ⟨j, g, hj, rfl, hg, ha⟩
  · refine g_aload_n (i := 0) dX10_steps_0 rfl rfl ?_
    refine g_iload_n (i := 1) dX10_steps_1 rfl rfl ?_
    refine g_callVq (My := mX10_formAt) [_] dX10_steps_2 lkX10_76 mvX10_formAt rfl (hR.1.1) rfl (c_X10_formAt0 hR hh) (by decide) (by decide) (by decide) rfl (Nat.le_of_ble_eq_true rfl) (fun zr2 σ zh2 => ?_)
    obtain ⟨rfl, rfl⟩ := zh2
    refine g_astore_nN (i := 2) (ls' := [_, _, _]) dX10_steps_5 rfl (by decide) rfl rfl ?_
    refine g_aload_nN (i := 2) dX10_steps_6 rfl rfl ?_
    refine g_ifnonnullN dX10_steps_7 ?_
    refine g_iconst (v := (-1)) dX10_steps_10 (by decide) ?_
    refine g_goto (tgt := 18) dX10_steps_11 (by decide) ?_
    refine g_iret dX10_steps_18 rfl ?_
    exact ⟨_, rfl, by simp only [aSteps, hn], hR.rc⟩
  · obtain ⟨b, ka, xa, ya, kf, xf, yf, hb, p1, p2, p3, p4, hst, h12⟩ := hR.form hg
    refine g_aload_n (i := 0) dX10_steps_0 rfl rfl ?_
    refine g_iload_n (i := 1) dX10_steps_1 rfl rfl ?_
    refine g_callVq (My := mX10_formAt) [_] dX10_steps_2 lkX10_76 mvX10_formAt rfl (by first | exact hR.1.1 | exact p1.1) rfl (c_X10_formAt1 hR hj hb) (by decide) (by decide) (by decide) rfl (Nat.le_of_ble_eq_true rfl) (fun zr2 σ zh2 => ?_)
    obtain ⟨rfl, rfl⟩ := zh2
    refine g_astore_n (i := 2) (ls' := [_, _, _]) dX10_steps_5 rfl (by decide) rfl rfl ?_
    refine g_aload_n (i := 2) dX10_steps_6 rfl rfl ?_
    refine g_ifnonnull (tgt := 14) dX10_steps_7 (by decide) ?_
    refine g_aload_n (i := 2) dX10_steps_14 rfl rfl ?_
    refine g_getf dX10_steps_15 flX10_82 (by first | exact hR.1.1 | exact p1.1) rfl ?_
    refine g_iret dX10_steps_18 rfl ?_
    exact ⟨_, rfl, by simp only [aSteps, ha], hR.rc⟩
theorem c_X10_width (hR : RC σ x A) (f : Int32) : Ct l mX10_width 2 0 0 [.ref x, .int f] σ (pI (cP x (aWidth A f, A))) := by
  obtain ⟨ow, ad, hk, cs, ff, hR⟩ := hR
  refine Ct_of moX10_width [some (.ref x), some (.int f), none] rfl (Nat.le_of_ble_eq_true rfl) ?_
  rcases aForm_cases A hR.2.1.2.1 f with ⟨hh, hn⟩ | ⟨j, g, hj, rfl, hg, ha⟩
  · refine g_aload_n (i := 0) dX10_width_0 rfl rfl ?_
    refine g_iload_n (i := 1) dX10_width_1 rfl rfl ?_
    refine g_callVq (My := mX10_formAt) [_] dX10_width_2 lkX10_76 mvX10_formAt rfl (hR.1.1) rfl (c_X10_formAt0 hR hh) (by decide) (by decide) (by decide) rfl (Nat.le_of_ble_eq_true rfl) (fun zr2 σ zh2 => ?_)
    obtain ⟨rfl, rfl⟩ := zh2
    refine g_astore_nN (i := 2) (ls' := [_, _, _]) dX10_width_5 rfl (by decide) rfl rfl ?_
    refine g_aload_nN (i := 2) dX10_width_6 rfl rfl ?_
    refine g_ifnonnullN dX10_width_7 ?_
    refine g_iconst (v := (-1)) dX10_width_10 (by decide) ?_
    refine g_goto (tgt := 18) dX10_width_11 (by decide) ?_
    refine g_iret dX10_width_18 rfl ?_
    exact ⟨_, rfl, by simp only [aWidth, hn], hR.rc⟩
  · obtain ⟨b, ka, xa, ya, kf, xf, yf, hb, p1, p2, p3, p4, hst, h12⟩ := hR.form hg
    refine g_aload_n (i := 0) dX10_width_0 rfl rfl ?_
    refine g_iload_n (i := 1) dX10_width_1 rfl rfl ?_
    refine g_callVq (My := mX10_formAt) [_] dX10_width_2 lkX10_76 mvX10_formAt rfl (by first | exact hR.1.1 | exact p1.1) rfl (c_X10_formAt1 hR hj hb) (by decide) (by decide) (by decide) rfl (Nat.le_of_ble_eq_true rfl) (fun zr2 σ zh2 => ?_)
    obtain ⟨rfl, rfl⟩ := zh2
    refine g_astore_n (i := 2) (ls' := [_, _, _]) dX10_width_5 rfl (by decide) rfl rfl ?_
    refine g_aload_n (i := 2) dX10_width_6 rfl rfl ?_
    refine g_ifnonnull (tgt := 14) dX10_width_7 (by decide) ?_
    refine g_aload_n (i := 2) dX10_width_14 rfl rfl ?_
    refine g_getf dX10_width_15 flX10_89 (by first | exact hR.1.1 | exact p1.1) rfl ?_
    refine g_iret dX10_width_18 rfl ?_
    exact ⟨_, rfl, by simp only [aWidth, ha], hR.rc⟩
theorem c_X10_count (hR : RC σ x A) (w : Int32) : Ct l mX10_count 1 0 0 [.ref x, .int w] σ (pI (cP x (sCount A w, A))) := by
  obtain ⟨ow, ad, hk, cs, ff, hR⟩ := hR
  obtain ⟨aa, af, q1, -⟩ := hR.2.2.2.2.2.2.1.1
  have hcs : cs.length = A.2.2.2.2.1.length := by rw [hR.2.2.2.2.2.2.1.2.1, List.length_map]
  refine Ct_of moX10_count [some (.ref x), some (.int w)] rfl (Nat.le_of_ble_eq_true rfl) ?_
  refine g_iload_n (i := 1) dX10_count_0 rfl rfl ?_
  by_cases e1_0 : w = 0
  · refine g_tbIn (c := 0) (tgt := 28) e1_0 dX10_count_1 (by decide) (by decide) rfl (by decide) ?_
    refine g_aload_n (i := 0) dX10_count_28 rfl rfl ?_
    refine g_getf dX10_count_29 flX10_68 (by first | exact hR.1.1 | exact q1.1) rfl ?_
    refine g_iret dX10_count_32 rfl ?_
    refine ⟨_, rfl, ?_, hR.rc⟩
    unfold sCount
    first
    | (rw [if_pos e1_0]; done)
    | (rw [if_neg e1_0, if_pos e1_1, hcs]; done)
    | (rw [if_neg e1_0, if_neg e1_1, if_pos e1_2]; done)
    | (rw [if_neg e1_0, if_neg e1_1, if_neg e1_2]; done)
  by_cases e1_1 : w = 1
  · refine g_tbIn (c := 1) (tgt := 33) e1_1 dX10_count_1 (by decide) (by decide) rfl (by decide) ?_
    refine g_aload_n (i := 0) dX10_count_33 rfl rfl ?_
    refine g_getf dX10_count_34 flX10_39 (by first | exact hR.1.1 | exact q1.1) rfl ?_
    refine g_getf dX10_count_37 flX10_211 (by first | exact hR.1.1 | exact q1.1) rfl ?_
    refine g_iret dX10_count_40 rfl ?_
    refine ⟨_, rfl, ?_, hR.rc⟩
    unfold sCount
    first
    | (rw [if_pos e1_0]; done)
    | (rw [if_neg e1_0, if_pos e1_1, hcs]; done)
    | (rw [if_neg e1_0, if_neg e1_1, if_pos e1_2]; done)
    | (rw [if_neg e1_0, if_neg e1_1, if_neg e1_2]; done)
  by_cases e1_2 : w = 2
  · refine g_tbIn (c := 2) (tgt := 41) e1_2 dX10_count_1 (by decide) (by decide) rfl (by decide) ?_
    refine g_aload_n (i := 0) dX10_count_41 rfl rfl ?_
    refine g_getf dX10_count_42 flX10_193 (by first | exact hR.1.1 | exact q1.1) rfl ?_
    refine g_iret dX10_count_45 rfl ?_
    refine ⟨_, rfl, ?_, hR.rc⟩
    unfold sCount
    first
    | (rw [if_pos e1_0]; done)
    | (rw [if_neg e1_0, if_pos e1_1, hcs]; done)
    | (rw [if_neg e1_0, if_neg e1_1, if_pos e1_2]; done)
    | (rw [if_neg e1_0, if_neg e1_1, if_neg e1_2]; done)
  refine g_tbOut (tgt := 46) dX10_count_1 (g_out 0 2 (by intro i h1 h2; (rcases (show i = 0 ∨ i = 1 ∨ i = 2 by omega) with rfl | rfl | rfl) <;> simp_all)) (by decide) ?_
  refine g_iconst (v := (-1)) dX10_count_46 (by decide) ?_
  refine g_iret dX10_count_47 rfl ?_
  refine ⟨_, rfl, ?_, hR.rc⟩
  unfold sCount
  first
  | (rw [if_pos e1_0]; done)
  | (rw [if_neg e1_0, if_pos e1_1, hcs]; done)
  | (rw [if_neg e1_0, if_neg e1_1, if_pos e1_2]; done)
  | (rw [if_neg e1_0, if_neg e1_1, if_neg e1_2]; done)
theorem c_X10_held (hR : RC σ x A) (h : Int32) : Ct l mX10_held 1 0 0 [.ref x, .int h] σ (pI (cP x (sHeld A h, A))) := by
  obtain ⟨ow, ad, hk, cs, ff, hR⟩ := hR
  obtain ⟨hf, p1, p2⟩ := hR.2.2.2.2.1
  refine Ct_of moX10_held [some (.ref x), some (.int h)] rfl (Nat.le_of_ble_eq_true rfl) ?_
  by_cases hh : ¬ h < 0 ∧ h < 8
  · obtain ⟨j, hj, rfl⟩ := ix8 hh
    obtain ⟨e1, sk, sy, c, n, f, q1, -⟩ := p2 j hj
    have hcj : (nI j).toNatClampNeg = j := nI_clamp (by omega)
    have hv : sHeld A (nI j) = (A.2.2.2.1 j).1 := by
      unfold sHeld
      rw [if_pos hh, hcj]
    rw [hv]
    refine g_iload_n (i := 1) dX10_held_0 rfl rfl ?_
    refine g_if_lt (tgt := 10) dX10_held_1 (by decide) (fun zc1 => ?_) (fun zc1 => ?_)
    · exact absurd zc1 hh.1
    · refine g_iload_n (i := 1) dX10_held_4 rfl rfl ?_
      refine g_bipush (v := 8) dX10_held_5 (by decide) ?_
      refine g_icmp_lt (tgt := 14) dX10_held_7 (by decide) (fun zc7 => ?_) (fun zc7 => ?_)
      · refine g_aload_n (i := 0) dX10_held_14 rfl rfl ?_
        refine g_getf dX10_held_15 flX10_25 (by first | exact hR.1.1 | exact p1.1 | exact q1.1) rfl ?_
        refine g_iload_n (i := 1) dX10_held_18 rfl rfl ?_
        refine g_aald dX10_held_19 (by first | exact hR.1.1 | exact p1.1 | exact q1.1) (by decide) ((vp_in_nI hj (by decide) : vp_in (nI j) 8)) ?_
        refine g_tor (hk j) (by rw [hcj]; exact e1) ?_
        refine g_getf dX10_held_20 flX10_225 (by first | exact hR.1.1 | exact p1.1 | exact q1.1) rfl ?_
        refine g_iret dX10_held_23 rfl ?_
        exact ⟨_, rfl, rfl, hR.rc⟩
      · exact absurd hh.2 zc7
  · have hv : sHeld A h = -1 := by
      unfold sHeld
      rw [if_neg hh]
    rw [hv]
    refine g_iload_n (i := 1) dX10_held_0 rfl rfl ?_
    refine g_if_lt (tgt := 10) dX10_held_1 (by decide) (fun zc1 => ?_) (fun zc1 => ?_)
    · refine g_iconst (v := (-1)) dX10_held_10 (by decide) ?_
      refine g_goto (tgt := 23) dX10_held_11 (by decide) ?_
      refine g_iret dX10_held_23 rfl ?_
      exact ⟨_, rfl, rfl, hR.rc⟩
    · refine g_iload_n (i := 1) dX10_held_4 rfl rfl ?_
      refine g_bipush (v := 8) dX10_held_5 (by decide) ?_
      refine g_icmp_lt (tgt := 14) dX10_held_7 (by decide) (fun zc7 => ?_) (fun zc7 => ?_)
      · exact absurd ⟨zc1, zc7⟩ hh
      · refine g_iconst (v := (-1)) dX10_held_10 (by decide) ?_
        refine g_goto (tgt := 23) dX10_held_11 (by decide) ?_
        refine g_iret dX10_held_23 rfl ?_
        exact ⟨_, rfl, rfl, hR.rc⟩
theorem c_X10_told (hR : RC σ x A) (f k what : Int32) : Ct l mX10_told 2 0 0 [.ref x, .int f, .int k, .int what] σ (pL (cPl x (sTold A f k what, A))) := by
  obtain ⟨ow, ad, hk, cs, ff, hR⟩ := hR
  refine Ct_of moX10_told [some (.ref x), some (.int f), some (.int k), some (.int what), none] rfl (Nat.le_of_ble_eq_true rfl) ?_
  rcases aForm_cases A hR.2.1.2.1 f with ⟨hh, hn⟩ | ⟨j, g, hj, rfl, hg, ha⟩
  · have hv : sTold A f k what = -1 := by simp only [sTold, hn]
    rw [hv]
    refine g_aload_n (i := 0) dX10_told_0 rfl rfl ?_
    refine g_iload_n (i := 1) dX10_told_1 rfl rfl ?_
    refine g_callVq (My := mX10_formAt) [_] dX10_told_2 lkX10_76 mvX10_formAt rfl (hR.1.1) rfl (c_X10_formAt0 hR hh) (by decide) (by decide) (by decide) rfl (Nat.le_of_ble_eq_true rfl) (fun zr2 σ zh2 => ?_)
    obtain ⟨rfl, rfl⟩ := zh2
    refine g_astoreN (ls' := [_, _, _, _, _]) dX10_told_5 (by decide) rfl rfl ?_
    refine g_aloadN dX10_told_7 rfl ?_
    refine g_ifnullN (tgt := 21) dX10_told_9 (by decide) ?_
    refine g_ldc2 (v := (-1)) dX10_told_21 klX10_135 ?_
    refine g_lret dX10_told_24 rfl ?_
    exact ⟨_, rfl, rfl, hR.rc⟩
  · obtain ⟨b, ka, xa, ya, kf, xf, yf, hb, p1, p2, p3, p4, hst, h12⟩ := hR.form hg
    by_cases hkk : ¬ k < 0 ∧ k < nI g.2.length
    · obtain ⟨i, hi, rfl⟩ : ∃ i : Nat, i < g.2.length ∧ k = nI i := by
        obtain ⟨i, hi, rfl⟩ := nI_of hkk.1
        exact ⟨i, (nI_ltI hi (by omega)).mp hkk.2, rfl⟩
      obtain ⟨s, hs⟩ : ∃ s, g.2[i]? = some s := ⟨_, List.getElem?_eq_getElem hi⟩
      obtain ⟨e1, e2, e3⟩ := hst i s hs
      have hci : (nI i).toNatClampNeg = i := nI_clamp (by omega)
      have hI : vp_in (nI i) 12 := vp_in_nI (by omega) (by decide)
      refine g_aload_n (i := 0) dX10_told_0 rfl rfl ?_
      refine g_iload_n (i := 1) dX10_told_1 rfl rfl ?_
      refine g_callVq (My := mX10_formAt) [_] dX10_told_2 lkX10_76 mvX10_formAt rfl (by first | exact hR.1.1 | exact p1.1 | exact p2.1 | exact p3.1 | exact p4.1) rfl (c_X10_formAt1 hR hj hb) (by decide) (by decide) (by decide) rfl (Nat.le_of_ble_eq_true rfl) (fun zr2 σ zh2 => ?_)
      obtain ⟨rfl, rfl⟩ := zh2
      refine g_astore (ls' := [_, _, _, _, _]) dX10_told_5 (by decide) rfl rfl ?_
      refine g_aload dX10_told_7 rfl ?_
      refine g_ifnull dX10_told_9 ?_
      refine g_aload dX10_told_12 rfl ?_
      refine g_iload_n (i := 2) dX10_told_14 rfl rfl ?_
      refine g_callVi (My := mX3_hasStep) [_] dX10_told_15 lkX10_132 mvX3_hasStep rfl (by first | exact hR.1.1 | exact p1.1 | exact p2.1 | exact p3.1 | exact p4.1) rfl (c_X3_hasStep p1.1 _) (by decide) (by decide) (by decide) rfl (Nat.le_of_ble_eq_true rfl) (fun zr15 σ zh15 => ?_)
      obtain ⟨ze15, zf15⟩ := zh15
      rw [ze15, zf15]
      refine g_if_ne (tgt := 25) dX10_told_18 (by decide) (fun zc18 => ?_) (fun zc18 => ?_)
      · refine g_iload_n (i := 3) dX10_told_25 rfl rfl ?_
        by_cases e26_0 : what = 0
        · refine g_tbIn (c := 0) (tgt := 52) e26_0 dX10_told_26 (by decide) (by decide) rfl (by decide) ?_
          refine g_aload dX10_told_52 rfl ?_
          refine g_getf dX10_told_54 flX10_137 (by first | exact hR.1.1 | exact p1.1 | exact p2.1 | exact p3.1 | exact p4.1) rfl ?_
          refine g_iload_n (i := 2) dX10_told_57 rfl rfl ?_
          refine g_iald dX10_told_58 (by first | exact hR.1.1 | exact p1.1 | exact p2.1 | exact p3.1 | exact p4.1) (hI) ?_
          refine g_toi s.1 (by rw [hci]; exact e1) ?_
          refine g_i2l dX10_told_59 ?_
          refine g_lret dX10_told_60 rfl ?_
          refine ⟨_, rfl, ?_, hR.rc⟩
          simp only [sTold, ha]
          rw [if_neg hkk.1, hci]
          simp only [aTold, hs]
          first
          | (rw [if_pos e26_0]; done)
          | (rw [if_neg e26_0, if_pos e26_1]; done)
          | (rw [if_neg e26_0, if_neg e26_1, if_pos e26_2]; done)
          | (rw [if_neg e26_0, if_neg e26_1, if_neg e26_2]; done)
        by_cases e26_1 : what = 1
        · refine g_tbIn (c := 1) (tgt := 61) e26_1 dX10_told_26 (by decide) (by decide) rfl (by decide) ?_
          refine g_aload dX10_told_61 rfl ?_
          refine g_getf dX10_told_63 flX10_140 (by first | exact hR.1.1 | exact p1.1 | exact p2.1 | exact p3.1 | exact p4.1) rfl ?_
          refine g_iload_n (i := 2) dX10_told_66 rfl rfl ?_
          refine g_iald dX10_told_67 (by first | exact hR.1.1 | exact p1.1 | exact p2.1 | exact p3.1 | exact p4.1) (hI) ?_
          refine g_toi s.2.1 (by rw [hci]; exact e2) ?_
          refine g_i2l dX10_told_68 ?_
          refine g_lret dX10_told_69 rfl ?_
          refine ⟨_, rfl, ?_, hR.rc⟩
          simp only [sTold, ha]
          rw [if_neg hkk.1, hci]
          simp only [aTold, hs]
          first
          | (rw [if_pos e26_0]; done)
          | (rw [if_neg e26_0, if_pos e26_1]; done)
          | (rw [if_neg e26_0, if_neg e26_1, if_pos e26_2]; done)
          | (rw [if_neg e26_0, if_neg e26_1, if_neg e26_2]; done)
        by_cases e26_2 : what = 2
        · refine g_tbIn (c := 2) (tgt := 70) e26_2 dX10_told_26 (by decide) (by decide) rfl (by decide) ?_
          refine g_aload dX10_told_70 rfl ?_
          refine g_getf dX10_told_72 flX10_143 (by first | exact hR.1.1 | exact p1.1 | exact p2.1 | exact p3.1 | exact p4.1) rfl ?_
          refine g_iload_n (i := 2) dX10_told_75 rfl rfl ?_
          refine g_lald dX10_told_76 (by first | exact hR.1.1 | exact p1.1 | exact p2.1 | exact p3.1 | exact p4.1) (hI) ?_
          refine g_tol s.2.2 (by rw [hci]; exact e3) ?_
          refine g_lret dX10_told_77 rfl ?_
          refine ⟨_, rfl, ?_, hR.rc⟩
          simp only [sTold, ha]
          rw [if_neg hkk.1, hci]
          simp only [aTold, hs]
          first
          | (rw [if_pos e26_0]; done)
          | (rw [if_neg e26_0, if_pos e26_1]; done)
          | (rw [if_neg e26_0, if_neg e26_1, if_pos e26_2]; done)
          | (rw [if_neg e26_0, if_neg e26_1, if_neg e26_2]; done)
        refine g_tbOut (tgt := 78) dX10_told_26 (g_out 0 2 (by intro i h1 h2; (rcases (show i = 0 ∨ i = 1 ∨ i = 2 by omega) with rfl | rfl | rfl) <;> simp_all)) (by decide) ?_
        refine g_ldc2 (v := (-1)) dX10_told_78 klX10_135 ?_
        refine g_lret dX10_told_81 rfl ?_
        refine ⟨_, rfl, ?_, hR.rc⟩
        simp only [sTold, ha]
        rw [if_neg hkk.1, hci]
        simp only [aTold, hs]
        first
        | (rw [if_pos e26_0]; done)
        | (rw [if_neg e26_0, if_pos e26_1]; done)
        | (rw [if_neg e26_0, if_neg e26_1, if_pos e26_2]; done)
        | (rw [if_neg e26_0, if_neg e26_1, if_neg e26_2]; done)
      · exact absurd hkk (bI_eq0.mp zc18)
    · refine g_aload_n (i := 0) dX10_told_0 rfl rfl ?_
      refine g_iload_n (i := 1) dX10_told_1 rfl rfl ?_
      refine g_callVq (My := mX10_formAt) [_] dX10_told_2 lkX10_76 mvX10_formAt rfl (by first | exact hR.1.1 | exact p1.1) rfl (c_X10_formAt1 hR hj hb) (by decide) (by decide) (by decide) rfl (Nat.le_of_ble_eq_true rfl) (fun zr2 σ zh2 => ?_)
      obtain ⟨rfl, rfl⟩ := zh2
      refine g_astore (ls' := [_, _, _, _, _]) dX10_told_5 (by decide) rfl rfl ?_
      refine g_aload dX10_told_7 rfl ?_
      refine g_ifnull dX10_told_9 ?_
      refine g_aload dX10_told_12 rfl ?_
      refine g_iload_n (i := 2) dX10_told_14 rfl rfl ?_
      refine g_callVi (My := mX3_hasStep) [_] dX10_told_15 lkX10_132 mvX3_hasStep rfl (by first | exact hR.1.1 | exact p1.1) rfl (c_X3_hasStep p1.1 _) (by decide) (by decide) (by decide) rfl (Nat.le_of_ble_eq_true rfl) (fun zr15 σ zh15 => ?_)
      obtain ⟨ze15, zf15⟩ := zh15
      rw [ze15, zf15]
      refine g_if_ne (tgt := 25) dX10_told_18 (by decide) (fun zc18 => ?_) (fun zc18 => ?_)
      · exact absurd (bI_ne0.mp zc18) hkk
      · refine g_ldc2 (v := (-1)) dX10_told_21 klX10_135 ?_
        refine g_lret dX10_told_24 rfl ?_
        refine ⟨_, rfl, ?_, hR.rc⟩
        simp only [sTold, ha]
        by_cases hk0 : k < 0
        · rw [if_pos hk0]
        · rw [if_neg hk0]
          obtain ⟨i, hi, rfl⟩ := nI_of hk0
          have hle : g.2.length ≤ i := Nat.not_lt.mp (fun q => hkk ⟨hk0, nI_lt q (by omega)⟩)
          have hno : g.2[i]? = none := List.getElem?_eq_none hle
          rw [nI_clamp hi]
          simp only [aTold, hno]
end CPub1
